/-! TideMillsModel: a part that is read -/
def nm1 (b : Nat → Nat) (bl L q : Nat) : Bool × Nat × Nat := if L = 115 then rdN b bl 1 999 q else rdN b bl 8 60 q
def nm2 (b : Nat → Nat) (bl L q : Nat) : Bool × Nat × Nat := if L = 115 then rdN b bl 1 9999 q else rdN b bl 8 60 q
abbrev PTT : Type := Nat × Nat × Nat × Nat
def rdQ (b : Nat → Nat) (bl L m : Nat) (r1 : Bool × Nat × Nat) : Bool × Nat × PTT :=
  if r1.1 = true then (if r1.2.1 < bl ∧ b r1.2.1 = 44 then ((nm2 b bl L (r1.2.1 + 1)).1, (nm2 b bl L (r1.2.1 + 1)).2.1, L, m, r1.2.2, (nm2 b bl L (r1.2.1 + 1)).2.2) else (false, r1.2.1, 0, 0, 0, 0)) else (false, r1.2.1, 0, 0, 0, 0)
/-- a part from a place on: whether it is one, the place behind, what it is -/
def rdP (b : Nat → Nat) (bl p : Nat) : Bool × Nat × PTT :=
  if p < bl ∧ (b p = 115 ∨ b p = 103 ∨ b p = 43) then
    (if b p = 43 then ((rdN b bl 1 48 (p + 1)).1, (rdN b bl 1 48 (p + 1)).2.1, 43, (rdN b bl 1 48 (p + 1)).2.2, 0, 0)
    else if mlP b bl (p + 1) then (if p + 2 < bl ∧ b (p + 2) = 44 then rdQ b bl (b p) (b (p + 1) - 48) (nm1 b bl (b p) (p + 3)) else (false, p + 2, 0, 0, 0, 0)) else (false, p + 1, 0, 0, 0, 0))
  else (false, p, 0, 0, 0, 0)
def fR (im im2 : TI) : Prop := (∀ o, o ≠ 240 → o ≠ 246 → im2 o = im o) ∧ ∀ j, j ≠ 9 → j ≠ 10 → im2 240 j = im 240 j
theorem fR.n {w : Nat} {a b c : TI} (h : fR a b) (g : fN w b c) : fR a c := ⟨fun o h1 h2 => (g.1 o h1 h2).trans (h.1 o h1 h2), fun j h1 h2 => (g.2.1 j h1).trans (h.2 j h1 h2)⟩
theorem fR.p {a b c : TI} (h : fR a b) (g : fP b c) : fR a c := h.n (w := 0) g.n
theorem fR.l {im : TI} {x : Int32} : fR im (ui im 240 10 x) := ⟨fun o ho _ => ui_ne ho, fun j _ hj => by rw [ui_at, if_neg hj]⟩
theorem TT.let {b : Nat → Nat} {bl p : Nat} {im : TI} {x : Int32} (h : TT b bl p im) : TT b bl p (ui im 240 10 x) :=
  ⟨⟨by rw [ui_at, if_neg (by decide)]; exact h.1.1, h.1.2⟩, fun j hj => by rw [ui_ne (by decide)]; exact h.2.1 j hj, by rw [ui_at, if_neg (by decide)]; exact h.2.2.1, h.2.2.2⟩
/-- what the part that was read left told -/
def tld (r : PTT) (im : TI) : Prop := im 240 10 = nI r.1 ∧ im 246 0 = nI r.2.1 ∧ (r.1 = 43 ∨ (im 246 1 = nI r.2.2.1 ∧ im 246 2 = nI r.2.2.2))
def pQ (b : Nat → Nat) (bl p : Nat) (im : TI) (x : Int32) (im2 : TI) : Prop := x = (if (rdP b bl p).1 then 1 else 0) ∧ TT b bl (rdP b bl p).2.1 im2 ∧ fR im im2 ∧ ((rdP b bl p).1 = true → tld (rdP b bl p).2.2 im2)
theorem pQ.f {b : Nat → Nat} {bl p q : Nat} {r : PTT} {im im2 : TI} (e : rdP b bl p = (false, q, r)) (hT : TT b bl q im2) (hf : fR im im2) : pQ b bl p im 0 im2 := by
  unfold pQ; rw [e]; exact ⟨rfl, hT, hf, fun z => by cases z⟩
theorem pQ.t {b : Nat → Nat} {bl p q : Nat} {r : PTT} {im im2 : TI} (e : rdP b bl p = (true, q, r)) (hT : TT b bl q im2) (hf : fR im im2) (ht : tld r im2) : pQ b bl p im 1 im2 := by
  unfold pQ; rw [e]; exact ⟨rfl, hT, hf, fun _ => ht⟩
theorem if0 {c : Bool} (h : (if c then (1 : Int32) else 0) = 0) : c = false := by
  cases c
  · rfl
  · exact absurd h (by decide)
theorem if1 {c : Bool} (h : ¬ (if c then (1 : Int32) else 0) = 0) : c = true := by
  cases c
  · exact absurd rfl h
  · rfl
theorem lt_ne {c k : Nat} (hc : c < 128) (hk : k < 128) (h : c ≠ k) : ¬ nI c = nI k := fun z => h ((nI_eq (by omega) (by omega)).mp z)
set_option maxHeartbeats 4000000 in
set_option maxRecDepth 100000 in
theorem M_readPart0 {l : Launch} (hlt : l.stackTraces = false) {im : TI} {rm : TP} {lm : TL} {b : Nat → Nat} {bl p : Nat} (hM : MM rm) (hT : TT b bl p im) (hno : ¬ (p < bl ∧ (b p = 115 ∨ b p = 103 ∨ b p = 43))) : Con l m_X5_readPart 3 0 0 NN [pv (some 240)] im rm lm (QI (pQ b bl p im) rm lm) noX := by
  have hk0 := kdM
  have hks := kds
  obtain ⟨r0, r1, r3, r5, r6, r11⟩ := id hM
  have hkt := kdt
  have hko := kdo
  obtain ⟨⟨hl, hl6⟩, hx, hp, hpl⟩ := id hT
  refine Con.ofN (k := 1) (L0 := [some (pv (some 240)), none]) hlt (by decide +kernel) rfl rfl (by rw [en1 pv_cat, en0]; exact Nat.le_of_ble_eq_true rfl) (by rw [en1 pv_cat, en0]; rfl) ?_
  have at28 : ∀ x : Int32, ¬ x = 115 → ¬ x = 103 → ¬ x = 43 → PW l m_X5_readPart 3 0 0 NN 28 [some (pv (some 240)), none] [] (ui im 240 10 x) rm lm (QI (pQ b bl p im) rm lm) noX := by
    intro x hx1 hx2 hx3
    refine t_aload0 dX5_readPart_28 ?_
    refine g_geti ft5 fl_X5_133 (j := 10) (by decide) dX5_readPart_29 (by assumption) ?_
    rw [show (ui im 240 10 x) 240 10 = x from by rw [ui_at, if_pos rfl]]
    refine pw_bipush (115) dX5_readPart_32 (by decide) ?_
    refine pw_icmp_eq 57 dX5_readPart_34 (by decide) (fun zc34 => ?_) (fun zc34 => ?_)
    · exact absurd zc34 hx1
    · refine t_aload0 dX5_readPart_37 ?_
      refine g_geti ft5 fl_X5_133 (j := 10) (by decide) dX5_readPart_38 (by assumption) ?_
      rw [show (ui im 240 10 x) 240 10 = x from by rw [ui_at, if_pos rfl]]
      refine pw_bipush (103) dX5_readPart_41 (by decide) ?_
      refine pw_icmp_eq 57 dX5_readPart_43 (by decide) (fun zc43 => ?_) (fun zc43 => ?_)
      · exact absurd zc43 hx2
      · refine t_aload0 dX5_readPart_46 ?_
        refine g_geti ft5 fl_X5_133 (j := 10) (by decide) dX5_readPart_47 (by assumption) ?_
        rw [show (ui im 240 10 x) 240 10 = x from by rw [ui_at, if_pos rfl]]
        refine pw_bipush (43) dX5_readPart_50 (by decide) ?_
        refine pw_icmp_eq 57 dX5_readPart_52 (by decide) (fun zc52 => ?_) (fun zc52 => ?_)
        · exact absurd zc52 hx3
        · refine pw_iconst (0) dX5_readPart_55 (by decide) ?_
          refine pw_zret dX5_readPart_56 rfl ?_ ?_
          · first | rfl | exact bI_n
          · exact ⟨rfl, rfl, rfl, _, rfl, pQ.f (by rw [rdP, if_neg hno]) hT.let fR.l⟩
  refine t_aload0 dX5_readPart_0 ?_
  refine t_aload0 dX5_readPart_1 ?_
  refine g_geti ft5 fl_X5_127 (j := 9) (by decide) dX5_readPart_2 (by assumption) ?_
  rw [hp]
  refine t_aload0 dX5_readPart_5 ?_
  refine g_geti ft5 fl_X5_124 (j := 7) (by decide) dX5_readPart_6 (by assumption) ?_
  rw [hl]
  refine pw_icmp_ge 24 dX5_readPart_9 (by decide) (fun zc9 => ?_) (fun zc9 => ?_)
  · refine pw_iconst (0) dX5_readPart_24 (by decide) ?_
    refine g_puti ft5 fl_X5_133 (j := 10) (by decide) ⟨rfl, rfl⟩ dX5_readPart_25 (by assumption) ?_
    exact at28 0 (by decide) (by decide) (by decide)
  · have zp : p < bl := (nI_ltI (by omega) (by omega)).mp (Int32.not_le.mp zc9)
    have hb := hx p zp
    refine t_aload0 dX5_readPart_12 ?_
    refine g_getr ft5 fl_X5_22 (j := 6) (by decide) dX5_readPart_13 (by assumption) (by assumption) ?_
    refine t_aload0 dX5_readPart_16 ?_
    refine g_geti ft5 fl_X5_127 (j := 9) (by decide) dX5_readPart_17 (by assumption) ?_
    rw [hp]
    refine g_iald dX5_readPart_20 (by assumption) (by rw [alt]; exact vin_nI (by omega) (by decide)) ?_
    rw [nI_clamp (by omega), hb.1]
    refine pw_goto 25 dX5_readPart_21 (by decide) ?_
    refine g_puti ft5 fl_X5_133 (j := 10) (by decide) ⟨rfl, rfl⟩ dX5_readPart_25 (by assumption) ?_
    exact at28 _ (lt_ne hb.2 (by decide) (fun z => hno ⟨zp, Or.inl z⟩)) (lt_ne hb.2 (by decide) (fun z => hno ⟨zp, Or.inr (Or.inl z)⟩)) (lt_ne hb.2 (by decide) (fun z => hno ⟨zp, Or.inr (Or.inr z)⟩))
set_option maxHeartbeats 4000000 in
set_option maxRecDepth 100000 in
theorem M_readPart43 {l : Launch} (hlt : l.stackTraces = false) {im : TI} {rm : TP} {lm : TL} {b : Nat → Nat} {bl p : Nat} (hM : MM rm) (hT : TT b bl p im) (hpb : p < bl) (hL : b p = 43) : Con l m_X5_readPart 3 0 0 NN [pv (some 240)] im rm lm (QI (pQ b bl p im) rm lm) noX := by
  have hk0 := kdM
  have hks := kds
  obtain ⟨r0, r1, r3, r5, r6, r11⟩ := id hM
  have hkt := kdt
  have hko := kdo
  obtain ⟨⟨hl, hl6⟩, hx, hp, hpl⟩ := id hT
  refine Con.ofN (k := 1) (L0 := [some (pv (some 240)), none]) hlt (by decide +kernel) rfl rfl (by rw [en1 pv_cat, en0]; exact Nat.le_of_ble_eq_true rfl) (by rw [en1 pv_cat, en0]; rfl) ?_
  refine t_aload0 dX5_readPart_0 ?_
  refine t_aload0 dX5_readPart_1 ?_
  refine g_geti ft5 fl_X5_127 (j := 9) (by decide) dX5_readPart_2 (by assumption) ?_
  rw [hp]
  refine t_aload0 dX5_readPart_5 ?_
  refine g_geti ft5 fl_X5_124 (j := 7) (by decide) dX5_readPart_6 (by assumption) ?_
  rw [hl]
  refine pw_icmp_ge 24 dX5_readPart_9 (by decide) (fun zc9 => ?_) (fun zc9 => ?_)
  · exact absurd ((nI_leI (by omega) (by omega)).mp zc9) (by omega)
  · have hb := hx p hpb
    refine t_aload0 dX5_readPart_12 ?_
    refine g_getr ft5 fl_X5_22 (j := 6) (by decide) dX5_readPart_13 (by assumption) (by assumption) ?_
    refine t_aload0 dX5_readPart_16 ?_
    refine g_geti ft5 fl_X5_127 (j := 9) (by decide) dX5_readPart_17 (by assumption) ?_
    rw [hp]
    refine g_iald dX5_readPart_20 (by assumption) (by rw [alt]; exact vin_nI (by omega) (by decide)) ?_
    rw [nI_clamp (by omega), hb.1, hL, show nI 43 = 43 from rfl]
    refine pw_goto 25 dX5_readPart_21 (by decide) ?_
    refine g_puti ft5 fl_X5_133 (j := 10) (by decide) ⟨rfl, rfl⟩ dX5_readPart_25 (by assumption) ?_
    refine t_aload0 dX5_readPart_28 ?_
    refine g_geti ft5 fl_X5_133 (j := 10) (by decide) dX5_readPart_29 (by assumption) ?_
    rw [show (ui im 240 10 43) 240 10 = 43 from by rw [ui_at, if_pos rfl]]
    refine pw_bipush (115) dX5_readPart_32 (by decide) ?_
    refine pw_icmp_eq 57 dX5_readPart_34 (by decide) (fun h => absurd h (by decide)) (fun _ => ?_)
    refine t_aload0 dX5_readPart_37 ?_
    refine g_geti ft5 fl_X5_133 (j := 10) (by decide) dX5_readPart_38 (by assumption) ?_
    rw [show (ui im 240 10 43) 240 10 = 43 from by rw [ui_at, if_pos rfl]]
    refine pw_bipush (103) dX5_readPart_41 (by decide) ?_
    refine pw_icmp_eq 57 dX5_readPart_43 (by decide) (fun h => absurd h (by decide)) (fun _ => ?_)
    refine t_aload0 dX5_readPart_46 ?_
    refine g_geti ft5 fl_X5_133 (j := 10) (by decide) dX5_readPart_47 (by assumption) ?_
    rw [show (ui im 240 10 43) 240 10 = 43 from by rw [ui_at, if_pos rfl]]
    refine pw_bipush (43) dX5_readPart_50 (by decide) ?_
    refine pw_icmp_eq 57 dX5_readPart_52 (by decide) (fun _ => ?_) (fun h => absurd (by decide) h)
    refine t_aload0 dX5_readPart_57 ?_
    refine pw_dup dX5_readPart_58 pv_cat ?_
    refine g_geti ft5 fl_X5_127 (j := 9) (by decide) dX5_readPart_59 (by assumption) ?_
    rw [show (ui im 240 10 43) 240 9 = nI p from by rw [ui_at, if_neg (by decide)]; exact hp]
    refine pw_iconst (1) dX5_readPart_62 (by decide) ?_
    refine pw_iadd dX5_readPart_63 ?_
    rw [nI_1]
    refine g_puti ft5 fl_X5_127 (j := 9) (by decide) ⟨rfl, rfl⟩ dX5_readPart_64 (by assumption) ?_
    have hT : TT b bl (p + 1) (ui (ui im 240 10 43) 240 9 (nI (p + 1))) := hT.let.mv rfl hpb
    have hfr : fR im (ui (ui im 240 10 43) 240 9 (nI (p + 1))) := fR.l.p fP.u
    have hle : (ui (ui im 240 10 43) 240 9 (nI (p + 1))) 240 10 = 43 := by rw [ui_at, if_neg (by decide), ui_at, if_pos rfl]
    refine t_aload0 dX5_readPart_67 ?_
    refine g_geti ft5 fl_X5_133 (j := 10) (by decide) dX5_readPart_68 (by assumption) ?_
    rw [hle]
    refine pw_bipush (43) dX5_readPart_71 (by decide) ?_
    refine pw_icmp_ne 85 dX5_readPart_73 (by decide) (fun h => absurd h (by decide)) (fun _ => ?_)
    refine t_aload0 dX5_readPart_76 ?_
    refine pw_iconst (0) dX5_readPart_77 (by decide) ?_
    refine pw_iconst (1) dX5_readPart_78 (by decide) ?_
    refine pw_bipush (48) dX5_readPart_79 (by decide) ?_
    refine g_callV3I (M_readNumber (l := l) hlt hM hT (w := 0) (lo := 1) (hi := 48) (by decide) (by decide) (by decide) (by decide)) rfl ft5 rfl mc_X5_readNumber ml_X5_136 mi_X5_readNumber ms_X5_readNumber in_X5 (okc_X5_readNumber (by decide)) dX5_readPart_81 (by assumption) (cat_le (Nat.le_of_ble_eq_true rfl)) (fun zx81 zim81 zh81 => ?_)
    obtain ⟨zx, hT2, hfn, hv⟩ := zh81
    refine pw_zret dX5_readPart_84 rfl ?_ ?_
    · rw [zx]; split <;> rfl
    · have e : rdP b bl p = ((rdN b bl 1 48 (p + 1)).1, (rdN b bl 1 48 (p + 1)).2.1, 43, (rdN b bl 1 48 (p + 1)).2.2, 0, 0) := by rw [rdP, if_pos ⟨hpb, Or.inr (Or.inr hL)⟩, if_pos hL]
      refine ⟨rfl, rfl, rfl, _, rfl, ?_⟩
      unfold pQ
      rw [e]
      exact ⟨zx, hT2, hfr.n hfn, fun z => ⟨(hfn.2.1 10 (by decide)).trans hle, hv z, Or.inl rfl⟩⟩
set_option maxHeartbeats 4000000 in
set_option maxRecDepth 100000 in
theorem M_readPart103 {l : Launch} (hlt : l.stackTraces = false) {im : TI} {rm : TP} {lm : TL} {b : Nat → Nat} {bl p : Nat} (hM : MM rm) (hT : TT b bl p im) (hpb : p < bl) (hL : b p = 103) : Con l m_X5_readPart 3 0 0 NN [pv (some 240)] im rm lm (QI (pQ b bl p im) rm lm) noX := by
  have hk0 := kdM
  have hks := kds
  obtain ⟨r0, r1, r3, r5, r6, r11⟩ := id hM
  have hkt := kdt
  have hko := kdo
  obtain ⟨⟨hl, hl6⟩, hx, hp, hpl⟩ := id hT
  refine Con.ofN (k := 1) (L0 := [some (pv (some 240)), none]) hlt (by decide +kernel) rfl rfl (by rw [en1 pv_cat, en0]; exact Nat.le_of_ble_eq_true rfl) (by rw [en1 pv_cat, en0]; rfl) ?_
  refine t_aload0 dX5_readPart_0 ?_
  refine t_aload0 dX5_readPart_1 ?_
  refine g_geti ft5 fl_X5_127 (j := 9) (by decide) dX5_readPart_2 (by assumption) ?_
  rw [hp]
  refine t_aload0 dX5_readPart_5 ?_
  refine g_geti ft5 fl_X5_124 (j := 7) (by decide) dX5_readPart_6 (by assumption) ?_
  rw [hl]
  refine pw_icmp_ge 24 dX5_readPart_9 (by decide) (fun zc9 => ?_) (fun zc9 => ?_)
  · exact absurd ((nI_leI (by omega) (by omega)).mp zc9) (by omega)
  · have hb := hx p hpb
    refine t_aload0 dX5_readPart_12 ?_
    refine g_getr ft5 fl_X5_22 (j := 6) (by decide) dX5_readPart_13 (by assumption) (by assumption) ?_
    refine t_aload0 dX5_readPart_16 ?_
    refine g_geti ft5 fl_X5_127 (j := 9) (by decide) dX5_readPart_17 (by assumption) ?_
    rw [hp]
    refine g_iald dX5_readPart_20 (by assumption) (by rw [alt]; exact vin_nI (by omega) (by decide)) ?_
    rw [nI_clamp (by omega), hb.1, hL, show nI 103 = 103 from rfl]
    refine pw_goto 25 dX5_readPart_21 (by decide) ?_
    refine g_puti ft5 fl_X5_133 (j := 10) (by decide) ⟨rfl, rfl⟩ dX5_readPart_25 (by assumption) ?_
    refine t_aload0 dX5_readPart_28 ?_
    refine g_geti ft5 fl_X5_133 (j := 10) (by decide) dX5_readPart_29 (by assumption) ?_
    rw [show (ui im 240 10 103) 240 10 = 103 from by rw [ui_at, if_pos rfl]]
    refine pw_bipush (115) dX5_readPart_32 (by decide) ?_
    refine pw_icmp_eq 57 dX5_readPart_34 (by decide) (fun h => absurd h (by decide)) (fun _ => ?_)
    refine t_aload0 dX5_readPart_37 ?_
    refine g_geti ft5 fl_X5_133 (j := 10) (by decide) dX5_readPart_38 (by assumption) ?_
    rw [show (ui im 240 10 103) 240 10 = 103 from by rw [ui_at, if_pos rfl]]
    refine pw_bipush (103) dX5_readPart_41 (by decide) ?_
    refine pw_icmp_eq 57 dX5_readPart_43 (by decide) (fun _ => ?_) (fun h => absurd (by decide) h)
    refine t_aload0 dX5_readPart_57 ?_
    refine pw_dup dX5_readPart_58 pv_cat ?_
    refine g_geti ft5 fl_X5_127 (j := 9) (by decide) dX5_readPart_59 (by assumption) ?_
    rw [show (ui im 240 10 103) 240 9 = nI p from by rw [ui_at, if_neg (by decide)]; exact hp]
    refine pw_iconst (1) dX5_readPart_62 (by decide) ?_
    refine pw_iadd dX5_readPart_63 ?_
    rw [nI_1]
    refine g_puti ft5 fl_X5_127 (j := 9) (by decide) ⟨rfl, rfl⟩ dX5_readPart_64 (by assumption) ?_
    have hT : TT b bl (p + 1) (ui (ui im 240 10 103) 240 9 (nI (p + 1))) := hT.let.mv rfl hpb
    have hfr : fR im (ui (ui im 240 10 103) 240 9 (nI (p + 1))) := fR.l.p fP.u
    have hle : (ui (ui im 240 10 103) 240 9 (nI (p + 1))) 240 10 = 103 := by rw [ui_at, if_neg (by decide), ui_at, if_pos rfl]
    refine t_aload0 dX5_readPart_67 ?_
    refine g_geti ft5 fl_X5_133 (j := 10) (by decide) dX5_readPart_68 (by assumption) ?_
    rw [hle]
    refine pw_bipush (43) dX5_readPart_71 (by decide) ?_
    refine pw_icmp_ne 85 dX5_readPart_73 (by decide) (fun _ => ?_) (fun h => absurd (by decide) h)
    refine t_aload0 dX5_readPart_85 ?_
    refine g_callV0I (M_readMill (l := l) hlt hM hT) rfl ft5 rfl mc_X5_readMill ml_X5_139 mi_X5_readMill ms_X5_readMill in_X5 (okc_X5_readMill (by decide)) dX5_readPart_86 (by assumption) (cat_le (Nat.le_of_ble_eq_true rfl)) (fun zx86 zim86 zh86 => ?_)
    refine pw_if_eq 101 dX5_readPart_89 (by decide) (fun zc89 => ?_) (fun zc89 => ?_)
    · refine pw_iconst (0) dX5_readPart_101 (by decide) ?_
      refine pw_zret dX5_readPart_102 rfl ?_ ?_
      · first | rfl | exact bI_n
      · obtain ⟨e1, hml, hT⟩ := zh86.1.resolve_left (fun z => by rw [z.1] at zc89; exact absurd zc89 (by decide))
        exact ⟨rfl, rfl, rfl, _, rfl, pQ.f (by rw [rdP, if_pos ⟨hpb, Or.inr (Or.inl hL)⟩, if_neg (by omega), if_neg hml]) hT (hfr.n zh86.2)⟩
    · obtain ⟨e1, hml, hT, ht0⟩ := zh86.1.resolve_right (fun z => zc89 z.1)
      have hfr := hfr.n zh86.2
      have hle := (zh86.2.2.1 10 (by decide)).trans hle
      refine t_aload0 dX5_readPart_92 ?_
      refine pw_bipush (44) dX5_readPart_93 (by decide) ?_
      refine g_callV1I (M_takes (l := l) hlt hM hT (c := 44) (by decide)) rfl ft5 rfl mc_X5_takes ml_X5_143 mi_X5_takes ms_X5_takes in_X5 (okc_X5_takes (by decide)) dX5_readPart_95 (by assumption) (cat_le (Nat.le_of_ble_eq_true rfl)) (fun zx95 zim95 zh95 => ?_)
      refine pw_if_ne 103 dX5_readPart_98 (by decide) (fun zc98 => ?_) (fun zc98 => ?_)
      · obtain ⟨e2, hco, hT⟩ := zh95.1.resolve_right (fun z => zc98 z.1)
        have hfr := hfr.p zh95.2
        have hle := (zh95.2.2 10 (by decide)).trans hle
        have ht0 : zim95 246 0 = nI (b (p + 1) - 48) := by rw [zh95.2.1 246 (by decide)]; exact ht0
        refine t_aload0 dX5_readPart_103 ?_
        refine g_geti ft5 fl_X5_133 (j := 10) (by decide) dX5_readPart_104 (by assumption) ?_
        rw [hle]
        refine pw_bipush (115) dX5_readPart_107 (by decide) ?_
        refine pw_icmp_ne 124 dX5_readPart_109 (by decide) (fun _ => ?_) (fun h => absurd (by decide) h)
        refine t_aload0 dX5_readPart_124 ?_
        refine pw_iconst (1) dX5_readPart_125 (by decide) ?_
        refine pw_bipush (8) dX5_readPart_126 (by decide) ?_
        refine pw_bipush (60) dX5_readPart_128 (by decide) ?_
        refine g_callV3I (M_readNumber (l := l) hlt hM hT (w := 1) (lo := 8) (hi := 60) (by decide) (by decide) (by decide) (by decide)) rfl ft5 rfl mc_X5_readNumber ml_X5_136 mi_X5_readNumber ms_X5_readNumber in_X5 (okc_X5_readNumber (by decide)) dX5_readPart_130 (by assumption) (cat_le (Nat.le_of_ble_eq_true rfl)) (fun zx130 zim130 zh130 => ?_)
        generalize hr1 : rdN b bl 8 60 (p + 3) = r1 at zh130
        obtain ⟨zx, hT, hfn1, hv1⟩ := zh130
        have hfr := hfr.n hfn1
        have hle := (hfn1.2.1 10 (by decide)).trans hle
        have ht0 := (congrArg (fun q => q) (hfn1.2.2 0 (by decide))).trans ht0
        rw [zx]
        refine t_istore1 dX5_readPart_133 (by decide) okp_r ?_
        refine t_iload1 dX5_readPart_134 ?_
        refine pw_if_eq 187 dX5_readPart_135 (by decide) (fun zc135 => ?_) (fun zc135 => ?_)
        · refine pw_iconst (0) dX5_readPart_187 (by decide) ?_
          refine pw_zret dX5_readPart_188 rfl ?_ ?_
          · first | rfl | exact bI_n
          · exact ⟨rfl, rfl, rfl, _, rfl, pQ.f (by rw [rdP, if_pos ⟨hpb, Or.inr (Or.inl hL)⟩, if_neg (by omega), if_pos hml, if_pos hco, show nm1 b bl (b p) (p + 3) = rdN b bl 8 60 (p + 3) from by rw [nm1, hL]; rfl, hr1, rdQ, if_neg (by rw [if0 zc135]; decide)]) hT hfr⟩
        · have hr1t := if1 zc135
          have ht1 := hv1 hr1t
          refine t_aload0 dX5_readPart_138 ?_
          refine pw_bipush (44) dX5_readPart_139 (by decide) ?_
          refine g_callV1I (M_takes (l := l) hlt hM hT (c := 44) (by decide)) rfl ft5 rfl mc_X5_takes ml_X5_143 mi_X5_takes ms_X5_takes in_X5 (okc_X5_takes (by decide)) dX5_readPart_141 (by assumption) (cat_le (Nat.le_of_ble_eq_true rfl)) (fun zx141 zim141 zh141 => ?_)
          refine pw_if_eq 187 dX5_readPart_144 (by decide) (fun zc144 => ?_) (fun zc144 => ?_)
          · refine pw_iconst (0) dX5_readPart_187 (by decide) ?_
            refine pw_zret dX5_readPart_188 rfl ?_ ?_
            · first | rfl | exact bI_n
            · obtain ⟨e3, hco2, hT⟩ := zh141.1.resolve_left (fun z => by rw [z.1] at zc144; exact absurd zc144 (by decide))
              exact ⟨rfl, rfl, rfl, _, rfl, pQ.f (by rw [rdP, if_pos ⟨hpb, Or.inr (Or.inl hL)⟩, if_neg (by omega), if_pos hml, if_pos hco, show nm1 b bl (b p) (p + 3) = rdN b bl 8 60 (p + 3) from by rw [nm1, hL]; rfl, hr1, rdQ, if_pos hr1t, if_neg hco2]) hT (hfr.p zh141.2)⟩
          · obtain ⟨e3, hco2, hT⟩ := zh141.1.resolve_right (fun z => zc144 z.1)
            have hfr := hfr.p zh141.2
            have hle := (zh141.2.2 10 (by decide)).trans hle
            have ht0 : zim141 246 0 = nI (b (p + 1) - 48) := by rw [zh141.2.1 246 (by decide)]; exact ht0
            have ht1 : zim141 246 1 = nI r1.2.2 := by rw [zh141.2.1 246 (by decide)]; exact ht1
            refine t_aload0 dX5_readPart_147 ?_
            refine g_geti ft5 fl_X5_133 (j := 10) (by decide) dX5_readPart_148 (by assumption) ?_
            rw [hle]
            refine pw_bipush (115) dX5_readPart_151 (by decide) ?_
            refine pw_icmp_ne 171 dX5_readPart_153 (by decide) (fun _ => ?_) (fun h => absurd (by decide) h)
            refine t_aload0 dX5_readPart_171 ?_
            refine pw_iconst (2) dX5_readPart_172 (by decide) ?_
            refine pw_bipush (8) dX5_readPart_173 (by decide) ?_
            refine pw_bipush (60) dX5_readPart_175 (by decide) ?_
            refine g_callV3I (M_readNumber (l := l) hlt hM hT (w := 2) (lo := 8) (hi := 60) (by decide) (by decide) (by decide) (by decide)) rfl ft5 rfl mc_X5_readNumber ml_X5_136 mi_X5_readNumber ms_X5_readNumber in_X5 (okc_X5_readNumber (by decide)) dX5_readPart_177 (by assumption) (cat_le (Nat.le_of_ble_eq_true rfl)) (fun zx177 zim177 zh177 => ?_)
            generalize hr2 : rdN b bl 8 60 (r1.2.1 + 1) = r2 at zh177
            obtain ⟨zx2, hT, hfn2, hv2⟩ := zh177
            have hfr := hfr.n hfn2
            have hle := (hfn2.2.1 10 (by decide)).trans hle
            have ht0 := (hfn2.2.2 0 (by decide)).trans ht0
            have ht1 := (hfn2.2.2 1 (by decide)).trans ht1
            rw [zx2]
            refine pw_if_eq 187 dX5_readPart_180 (by decide) (fun zc180 => ?_) (fun zc180 => ?_)
            · refine pw_iconst (0) dX5_readPart_187 (by decide) ?_
              refine pw_zret dX5_readPart_188 rfl ?_ ?_
              · first | rfl | exact bI_n
              · have hr2f := if0 zc180
                exact ⟨rfl, rfl, rfl, _, rfl, pQ.f (by rw [rdP, if_pos ⟨hpb, Or.inr (Or.inl hL)⟩, if_neg (by omega), if_pos hml, if_pos hco, show nm1 b bl (b p) (p + 3) = rdN b bl 8 60 (p + 3) from by rw [nm1, hL]; rfl, hr1, rdQ, if_pos hr1t, if_pos hco2, hL, show nm2 b bl 103 (r1.2.1 + 1) = r2 from hr2, hr2f]) hT hfr⟩
            · refine pw_iconst (1) dX5_readPart_183 (by decide) ?_
              refine pw_goto 188 dX5_readPart_184 (by decide) ?_
              refine pw_zret dX5_readPart_188 rfl ?_ ?_
              · first | rfl | exact bI_n
              · have hr2t := if1 zc180
                exact ⟨rfl, rfl, rfl, _, rfl, pQ.t (q := r2.2.1) (r := (103, b (p + 1) - 48, r1.2.2, r2.2.2)) (by rw [rdP, if_pos ⟨hpb, Or.inr (Or.inl hL)⟩, if_neg (by omega), if_pos hml, if_pos hco, show nm1 b bl (b p) (p + 3) = rdN b bl 8 60 (p + 3) from by rw [nm1, hL]; rfl, hr1, rdQ, if_pos hr1t, if_pos hco2, hL, show nm2 b bl 103 (r1.2.1 + 1) = r2 from hr2, hr2t]) hT hfr ⟨hle, ht0, Or.inr ⟨ht1, hv2 hr2t⟩⟩⟩
      · refine pw_iconst (0) dX5_readPart_101 (by decide) ?_
        refine pw_zret dX5_readPart_102 rfl ?_ ?_
        · first | rfl | exact bI_n
        · obtain ⟨e2, hco, hT⟩ := zh95.1.resolve_left (fun z => by rw [z.1] at zc98; exact zc98 (by decide))
          exact ⟨rfl, rfl, rfl, _, rfl, pQ.f (by rw [rdP, if_pos ⟨hpb, Or.inr (Or.inl hL)⟩, if_neg (by omega), if_pos hml, if_neg hco]) hT (hfr.p zh95.2)⟩
set_option maxHeartbeats 4000000 in
set_option maxRecDepth 100000 in
theorem M_readPart115 {l : Launch} (hlt : l.stackTraces = false) {im : TI} {rm : TP} {lm : TL} {b : Nat → Nat} {bl p : Nat} (hM : MM rm) (hT : TT b bl p im) (hpb : p < bl) (hL : b p = 115) : Con l m_X5_readPart 3 0 0 NN [pv (some 240)] im rm lm (QI (pQ b bl p im) rm lm) noX := by
  have hk0 := kdM
  have hks := kds
  obtain ⟨r0, r1, r3, r5, r6, r11⟩ := id hM
  have hkt := kdt
  have hko := kdo
  obtain ⟨⟨hl, hl6⟩, hx, hp, hpl⟩ := id hT
  refine Con.ofN (k := 1) (L0 := [some (pv (some 240)), none]) hlt (by decide +kernel) rfl rfl (by rw [en1 pv_cat, en0]; exact Nat.le_of_ble_eq_true rfl) (by rw [en1 pv_cat, en0]; rfl) ?_
  refine t_aload0 dX5_readPart_0 ?_
  refine t_aload0 dX5_readPart_1 ?_
  refine g_geti ft5 fl_X5_127 (j := 9) (by decide) dX5_readPart_2 (by assumption) ?_
  rw [hp]
  refine t_aload0 dX5_readPart_5 ?_
  refine g_geti ft5 fl_X5_124 (j := 7) (by decide) dX5_readPart_6 (by assumption) ?_
  rw [hl]
  refine pw_icmp_ge 24 dX5_readPart_9 (by decide) (fun zc9 => ?_) (fun zc9 => ?_)
  · exact absurd ((nI_leI (by omega) (by omega)).mp zc9) (by omega)
  · have hb := hx p hpb
    refine t_aload0 dX5_readPart_12 ?_
    refine g_getr ft5 fl_X5_22 (j := 6) (by decide) dX5_readPart_13 (by assumption) (by assumption) ?_
    refine t_aload0 dX5_readPart_16 ?_
    refine g_geti ft5 fl_X5_127 (j := 9) (by decide) dX5_readPart_17 (by assumption) ?_
    rw [hp]
    refine g_iald dX5_readPart_20 (by assumption) (by rw [alt]; exact vin_nI (by omega) (by decide)) ?_
    rw [nI_clamp (by omega), hb.1, hL, show nI 115 = 115 from rfl]
    refine pw_goto 25 dX5_readPart_21 (by decide) ?_
    refine g_puti ft5 fl_X5_133 (j := 10) (by decide) ⟨rfl, rfl⟩ dX5_readPart_25 (by assumption) ?_
    refine t_aload0 dX5_readPart_28 ?_
    refine g_geti ft5 fl_X5_133 (j := 10) (by decide) dX5_readPart_29 (by assumption) ?_
    rw [show (ui im 240 10 115) 240 10 = 115 from by rw [ui_at, if_pos rfl]]
    refine pw_bipush (115) dX5_readPart_32 (by decide) ?_
    refine pw_icmp_eq 57 dX5_readPart_34 (by decide) (fun _ => ?_) (fun h => absurd (by decide) h)
    refine t_aload0 dX5_readPart_57 ?_
    refine pw_dup dX5_readPart_58 pv_cat ?_
    refine g_geti ft5 fl_X5_127 (j := 9) (by decide) dX5_readPart_59 (by assumption) ?_
    rw [show (ui im 240 10 115) 240 9 = nI p from by rw [ui_at, if_neg (by decide)]; exact hp]
    refine pw_iconst (1) dX5_readPart_62 (by decide) ?_
    refine pw_iadd dX5_readPart_63 ?_
    rw [nI_1]
    refine g_puti ft5 fl_X5_127 (j := 9) (by decide) ⟨rfl, rfl⟩ dX5_readPart_64 (by assumption) ?_
    have hT : TT b bl (p + 1) (ui (ui im 240 10 115) 240 9 (nI (p + 1))) := hT.let.mv rfl hpb
    have hfr : fR im (ui (ui im 240 10 115) 240 9 (nI (p + 1))) := fR.l.p fP.u
    have hle : (ui (ui im 240 10 115) 240 9 (nI (p + 1))) 240 10 = 115 := by rw [ui_at, if_neg (by decide), ui_at, if_pos rfl]
    refine t_aload0 dX5_readPart_67 ?_
    refine g_geti ft5 fl_X5_133 (j := 10) (by decide) dX5_readPart_68 (by assumption) ?_
    rw [hle]
    refine pw_bipush (43) dX5_readPart_71 (by decide) ?_
    refine pw_icmp_ne 85 dX5_readPart_73 (by decide) (fun _ => ?_) (fun h => absurd (by decide) h)
    refine t_aload0 dX5_readPart_85 ?_
    refine g_callV0I (M_readMill (l := l) hlt hM hT) rfl ft5 rfl mc_X5_readMill ml_X5_139 mi_X5_readMill ms_X5_readMill in_X5 (okc_X5_readMill (by decide)) dX5_readPart_86 (by assumption) (cat_le (Nat.le_of_ble_eq_true rfl)) (fun zx86 zim86 zh86 => ?_)
    refine pw_if_eq 101 dX5_readPart_89 (by decide) (fun zc89 => ?_) (fun zc89 => ?_)
    · refine pw_iconst (0) dX5_readPart_101 (by decide) ?_
      refine pw_zret dX5_readPart_102 rfl ?_ ?_
      · first | rfl | exact bI_n
      · obtain ⟨e1, hml, hT⟩ := zh86.1.resolve_left (fun z => by rw [z.1] at zc89; exact absurd zc89 (by decide))
        exact ⟨rfl, rfl, rfl, _, rfl, pQ.f (by rw [rdP, if_pos ⟨hpb, Or.inl hL⟩, if_neg (by omega), if_neg hml]) hT (hfr.n zh86.2)⟩
    · obtain ⟨e1, hml, hT, ht0⟩ := zh86.1.resolve_right (fun z => zc89 z.1)
      have hfr := hfr.n zh86.2
      have hle := (zh86.2.2.1 10 (by decide)).trans hle
      refine t_aload0 dX5_readPart_92 ?_
      refine pw_bipush (44) dX5_readPart_93 (by decide) ?_
      refine g_callV1I (M_takes (l := l) hlt hM hT (c := 44) (by decide)) rfl ft5 rfl mc_X5_takes ml_X5_143 mi_X5_takes ms_X5_takes in_X5 (okc_X5_takes (by decide)) dX5_readPart_95 (by assumption) (cat_le (Nat.le_of_ble_eq_true rfl)) (fun zx95 zim95 zh95 => ?_)
      refine pw_if_ne 103 dX5_readPart_98 (by decide) (fun zc98 => ?_) (fun zc98 => ?_)
      · obtain ⟨e2, hco, hT⟩ := zh95.1.resolve_right (fun z => zc98 z.1)
        have hfr := hfr.p zh95.2
        have hle := (zh95.2.2 10 (by decide)).trans hle
        have ht0 : zim95 246 0 = nI (b (p + 1) - 48) := by rw [zh95.2.1 246 (by decide)]; exact ht0
        refine t_aload0 dX5_readPart_103 ?_
        refine g_geti ft5 fl_X5_133 (j := 10) (by decide) dX5_readPart_104 (by assumption) ?_
        rw [hle]
        refine pw_bipush (115) dX5_readPart_107 (by decide) ?_
        refine pw_icmp_ne 124 dX5_readPart_109 (by decide) (fun h => absurd h (by decide)) (fun _ => ?_)
        refine t_aload0 dX5_readPart_112 ?_
        refine pw_iconst (1) dX5_readPart_113 (by decide) ?_
        refine pw_iconst (1) dX5_readPart_114 (by decide) ?_
        refine pw_sipush (999) dX5_readPart_115 (by decide) ?_
        refine g_callV3I (M_readNumber (l := l) hlt hM hT (w := 1) (lo := 1) (hi := 999) (by decide) (by decide) (by decide) (by decide)) rfl ft5 rfl mc_X5_readNumber ml_X5_136 mi_X5_readNumber ms_X5_readNumber in_X5 (okc_X5_readNumber (by decide)) dX5_readPart_118 (by assumption) (cat_le (Nat.le_of_ble_eq_true rfl)) (fun zx118 zim118 zh118 => ?_)
        generalize hr1 : rdN b bl 1 999 (p + 3) = r1 at zh118
        obtain ⟨zx, hT, hfn1, hv1⟩ := zh118
        have hfr := hfr.n hfn1
        have hle := (hfn1.2.1 10 (by decide)).trans hle
        have ht0 := (congrArg (fun q => q) (hfn1.2.2 0 (by decide))).trans ht0
        rw [zx]
        refine pw_goto 133 dX5_readPart_121 (by decide) ?_
        refine t_istore1 dX5_readPart_133 (by decide) okp_r ?_
        refine t_iload1 dX5_readPart_134 ?_
        refine pw_if_eq 187 dX5_readPart_135 (by decide) (fun zc135 => ?_) (fun zc135 => ?_)
        · refine pw_iconst (0) dX5_readPart_187 (by decide) ?_
          refine pw_zret dX5_readPart_188 rfl ?_ ?_
          · first | rfl | exact bI_n
          · exact ⟨rfl, rfl, rfl, _, rfl, pQ.f (by rw [rdP, if_pos ⟨hpb, Or.inl hL⟩, if_neg (by omega), if_pos hml, if_pos hco, show nm1 b bl (b p) (p + 3) = rdN b bl 1 999 (p + 3) from by rw [nm1, hL]; rfl, hr1, rdQ, if_neg (by rw [if0 zc135]; decide)]) hT hfr⟩
        · have hr1t := if1 zc135
          have ht1 := hv1 hr1t
          refine t_aload0 dX5_readPart_138 ?_
          refine pw_bipush (44) dX5_readPart_139 (by decide) ?_
          refine g_callV1I (M_takes (l := l) hlt hM hT (c := 44) (by decide)) rfl ft5 rfl mc_X5_takes ml_X5_143 mi_X5_takes ms_X5_takes in_X5 (okc_X5_takes (by decide)) dX5_readPart_141 (by assumption) (cat_le (Nat.le_of_ble_eq_true rfl)) (fun zx141 zim141 zh141 => ?_)
          refine pw_if_eq 187 dX5_readPart_144 (by decide) (fun zc144 => ?_) (fun zc144 => ?_)
          · refine pw_iconst (0) dX5_readPart_187 (by decide) ?_
            refine pw_zret dX5_readPart_188 rfl ?_ ?_
            · first | rfl | exact bI_n
            · obtain ⟨e3, hco2, hT⟩ := zh141.1.resolve_left (fun z => by rw [z.1] at zc144; exact absurd zc144 (by decide))
              exact ⟨rfl, rfl, rfl, _, rfl, pQ.f (by rw [rdP, if_pos ⟨hpb, Or.inl hL⟩, if_neg (by omega), if_pos hml, if_pos hco, show nm1 b bl (b p) (p + 3) = rdN b bl 1 999 (p + 3) from by rw [nm1, hL]; rfl, hr1, rdQ, if_pos hr1t, if_neg hco2]) hT (hfr.p zh141.2)⟩
          · obtain ⟨e3, hco2, hT⟩ := zh141.1.resolve_right (fun z => zc144 z.1)
            have hfr := hfr.p zh141.2
            have hle := (zh141.2.2 10 (by decide)).trans hle
            have ht0 : zim141 246 0 = nI (b (p + 1) - 48) := by rw [zh141.2.1 246 (by decide)]; exact ht0
            have ht1 : zim141 246 1 = nI r1.2.2 := by rw [zh141.2.1 246 (by decide)]; exact ht1
            refine t_aload0 dX5_readPart_147 ?_
            refine g_geti ft5 fl_X5_133 (j := 10) (by decide) dX5_readPart_148 (by assumption) ?_
            rw [hle]
            refine pw_bipush (115) dX5_readPart_151 (by decide) ?_
            refine pw_icmp_ne 171 dX5_readPart_153 (by decide) (fun h => absurd h (by decide)) (fun _ => ?_)
            refine t_aload0 dX5_readPart_156 ?_
            refine pw_iconst (2) dX5_readPart_157 (by decide) ?_
            refine pw_iconst (1) dX5_readPart_158 (by decide) ?_
            refine pw_sipush (9999) dX5_readPart_159 (by decide) ?_
            refine g_callV3I (M_readNumber (l := l) hlt hM hT (w := 2) (lo := 1) (hi := 9999) (by decide) (by decide) (by decide) (by decide)) rfl ft5 rfl mc_X5_readNumber ml_X5_136 mi_X5_readNumber ms_X5_readNumber in_X5 (okc_X5_readNumber (by decide)) dX5_readPart_162 (by assumption) (cat_le (Nat.le_of_ble_eq_true rfl)) (fun zx162 zim162 zh162 => ?_)
            generalize hr2 : rdN b bl 1 9999 (r1.2.1 + 1) = r2 at zh162
            obtain ⟨zx2, hT, hfn2, hv2⟩ := zh162
            have hfr := hfr.n hfn2
            have hle := (hfn2.2.1 10 (by decide)).trans hle
            have ht0 := (hfn2.2.2 0 (by decide)).trans ht0
            have ht1 := (hfn2.2.2 1 (by decide)).trans ht1
            rw [zx2]
            refine pw_if_eq 187 dX5_readPart_165 (by decide) (fun zc165 => ?_) (fun zc165 => ?_)
            · refine pw_iconst (0) dX5_readPart_187 (by decide) ?_
              refine pw_zret dX5_readPart_188 rfl ?_ ?_
              · first | rfl | exact bI_n
              · have hr2f := if0 zc165
                exact ⟨rfl, rfl, rfl, _, rfl, pQ.f (by rw [rdP, if_pos ⟨hpb, Or.inl hL⟩, if_neg (by omega), if_pos hml, if_pos hco, show nm1 b bl (b p) (p + 3) = rdN b bl 1 999 (p + 3) from by rw [nm1, hL]; rfl, hr1, rdQ, if_pos hr1t, if_pos hco2, hL, show nm2 b bl 115 (r1.2.1 + 1) = r2 from hr2, hr2f]) hT hfr⟩
            · refine pw_goto 183 dX5_readPart_168 (by decide) ?_
              refine pw_iconst (1) dX5_readPart_183 (by decide) ?_
              refine pw_goto 188 dX5_readPart_184 (by decide) ?_
              refine pw_zret dX5_readPart_188 rfl ?_ ?_
              · first | rfl | exact bI_n
              · have hr2t := if1 zc165
                exact ⟨rfl, rfl, rfl, _, rfl, pQ.t (q := r2.2.1) (r := (115, b (p + 1) - 48, r1.2.2, r2.2.2)) (by rw [rdP, if_pos ⟨hpb, Or.inl hL⟩, if_neg (by omega), if_pos hml, if_pos hco, show nm1 b bl (b p) (p + 3) = rdN b bl 1 999 (p + 3) from by rw [nm1, hL]; rfl, hr1, rdQ, if_pos hr1t, if_pos hco2, hL, show nm2 b bl 115 (r1.2.1 + 1) = r2 from hr2, hr2t]) hT hfr ⟨hle, ht0, Or.inr ⟨ht1, hv2 hr2t⟩⟩⟩
      · refine pw_iconst (0) dX5_readPart_101 (by decide) ?_
        refine pw_zret dX5_readPart_102 rfl ?_ ?_
        · first | rfl | exact bI_n
        · obtain ⟨e2, hco, hT⟩ := zh95.1.resolve_left (fun z => by rw [z.1] at zc98; exact zc98 (by decide))
          exact ⟨rfl, rfl, rfl, _, rfl, pQ.f (by rw [rdP, if_pos ⟨hpb, Or.inl hL⟩, if_neg (by omega), if_pos hml, if_neg hco]) hT (hfr.p zh95.2)⟩
theorem M_readPart {l : Launch} (hlt : l.stackTraces = false) {im : TI} {rm : TP} {lm : TL} {b : Nat → Nat} {bl p : Nat} (hM : MM rm) (hT : TT b bl p im) : Con l m_X5_readPart 3 0 0 NN [pv (some 240)] im rm lm (QI (pQ b bl p im) rm lm) noX := by
  by_cases h : p < bl ∧ (b p = 115 ∨ b p = 103 ∨ b p = 43)
  · obtain ⟨h1, h2⟩ := h
    rcases h2 with h2 | h2 | h2
    · exact M_readPart115 hlt hM hT h1 h2
    · exact M_readPart103 hlt hM hT h1 h2
    · exact M_readPart43 hlt hM hT h1 h2
  · exact M_readPart0 hlt hM hT h
