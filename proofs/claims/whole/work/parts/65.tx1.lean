/-! TideMillsModel: its reader -/
/-- the text: its characters, its length, the place -/
def TT (b : Nat → Nat) (bl p : Nat) (im : TI) : Prop := (im 240 7 = nI bl ∧ bl ≤ 60) ∧ (∀ j, j < bl → im 245 j = nI (b j) ∧ b j < 128) ∧ im 240 9 = nI p ∧ p ≤ bl
/-- only the place changed -/
def fP (im im2 : TI) : Prop := (∀ o, o ≠ 240 → im2 o = im o) ∧ ∀ j, j ≠ 9 → im2 240 j = im 240 j
theorem fP.rf {im : TI} : fP im im := ⟨fun _ _ => rfl, fun _ _ => rfl⟩
theorem fP.trans {a b c : TI} (h : fP a b) (g : fP b c) : fP a c := ⟨fun o ho => (g.1 o ho).trans (h.1 o ho), fun j hj => (g.2 j hj).trans (h.2 j hj)⟩
theorem fP.u {im : TI} {x : Int32} : fP im (ui im 240 9 x) := ⟨fun o ho => ui_ne ho, fun j hj => by rw [ui_at, if_neg hj]⟩
theorem TT.mv {b : Nat → Nat} {bl p p2 : Nat} {im : TI} {x : Int32} (h : TT b bl p im) (hx : x = nI p2) (hp : p2 ≤ bl) : TT b bl p2 (ui im 240 9 x) := by
  subst hx
  refine ⟨⟨by rw [ui_at, if_neg (by decide)]; exact h.1.1, h.1.2⟩, fun j hj => by rw [ui_ne (by decide)]; exact h.2.1 j hj, by rw [ui_at, if_pos rfl], hp⟩
theorem TT.told {b : Nat → Nat} {bl p k : Nat} {im : TI} {x : Int32} (h : TT b bl p im) : TT b bl p (ui im 246 k x) := by
  refine ⟨⟨by rw [ui_ne (by decide)]; exact h.1.1, h.1.2⟩, fun j hj => by rw [ui_ne (by decide)]; exact h.2.1 j hj, by rw [ui_ne (by decide)]; exact h.2.2.1, h.2.2.2⟩
/-- the place, one of the numbers told changed -/
def fN (w : Nat) (im im2 : TI) : Prop := (∀ o, o ≠ 240 → o ≠ 246 → im2 o = im o) ∧ (∀ j, j ≠ 9 → im2 240 j = im 240 j) ∧ ∀ j, j ≠ w → im2 246 j = im 246 j
theorem fN.p {w : Nat} {a b c : TI} (h : fN w a b) (g : fP b c) : fN w a c := ⟨fun o h1 h2 => (g.1 o h1).trans (h.1 o h1 h2), fun j hj => (g.2 j hj).trans (h.2.1 j hj), fun j hj => by rw [g.1 246 (by decide)]; exact h.2.2 j hj⟩
theorem fP.n {w : Nat} {a b : TI} (h : fP a b) : fN w a b := ⟨fun o h1 _ => h.1 o h1, h.2, fun j _ => by rw [h.1 246 (by decide)]⟩
theorem fN.u {w : Nat} {a b : TI} {x : Int32} (h : fN w a b) : fN w a (ui b 246 w x) := ⟨fun o h1 h2 => by rw [ui_ne h2]; exact h.1 o h1 h2, fun j hj => by rw [ui_ne (by decide)]; exact h.2.1 j hj, fun j hj => by rw [ui_at, if_neg hj]; exact h.2.2 j hj⟩
def rnL (b : Nat → Nat) (bl hi : Nat) : Nat → Nat → Nat → Nat × Nat
  | 0, p, v => (p, v)
  | n + 1, p, v => if p < bl ∧ (48 ≤ b p ∧ b p ≤ 57) ∧ 10 * v + (b p - 48) ≤ hi then rnL b bl hi n (p + 1) (10 * v + (b p - 48)) else (p, v)
/-- a number's first digit -/
def fdg (b : Nat → Nat) (bl p : Nat) : Nat := if p < bl ∧ 49 ≤ b p ∧ b p ≤ 57 then b p - 48 else 0
def rdN (b : Nat → Nat) (bl lo hi p : Nat) : Bool × Nat × Nat := if fdg b bl p = 0 ∨ (fdg b bl p < lo ∧ hi < 10 * fdg b bl p) then (false, p, 0) else let r := rnL b bl hi (bl - (p + 1)) (p + 1) (fdg b bl p); (decide (lo ≤ r.2), r.1, r.2)
set_option maxHeartbeats 4000000 in
set_option maxRecDepth 100000 in
theorem M_isNext {l : Launch} (hlt : l.stackTraces = false) {im : TI} {rm : TP} {lm : TL} {b : Nat → Nat} {bl p : Nat} (hM : MM rm) (hT : TT b bl p im) {lo hi : Nat} (hlo : lo < 1000) (hhi : hi < 1000) : Con l m_X5_isNext 1 0 0 NN [pv (some 240), .int (nI lo), .int (nI hi)] im rm lm (QP (.int (bI (p < bl ∧ lo ≤ b p ∧ b p ≤ hi))) im rm lm) noX := by
  have hk0 := kdM
  have hks := kds
  obtain ⟨r0, r1, r3, r5, r6, r11⟩ := id hM
  have hkt := kdt
  have hko := kdo
  obtain ⟨⟨hl, hl6⟩, hx, hp, hpl⟩ := id hT
  refine Con.ofN (k := 0) (L0 := [some (pv (some 240)), some (.int (nI lo)), some (.int (nI hi))]) hlt (by decide +kernel) rfl rfl (by rw [en1 pv_cat, en1 rfl, en1 rfl, en0]; exact Nat.le_of_ble_eq_true rfl) (by rw [en1 pv_cat, en1 rfl, en1 rfl, en0]; rfl) ?_
  refine t_aload0 dX5_isNext_0 ?_
  refine g_geti ft5 fl_X5_127 (j := 9) (by decide) dX5_isNext_1 (by assumption) ?_
  rw [hp]
  refine t_aload0 dX5_isNext_4 ?_
  refine g_geti ft5 fl_X5_124 (j := 7) (by decide) dX5_isNext_5 (by assumption) ?_
  rw [hl]
  refine pw_icmp_ge 32 dX5_isNext_8 (by decide) (fun zc8 => ?_) (fun zc8 => ?_)
  · refine pw_iconst (0) dX5_isNext_32 (by decide) ?_
    refine pw_zret dX5_isNext_33 rfl ?_ ?_
    · first | rfl | exact bI_n
    · exact ⟨rfl, by rw [bI_f (fun z => absurd ((nI_leI (by omega) (by omega)).mp zc8) (by omega))], rfl, rfl, rfl⟩
  · have zp : p < bl := (nI_ltI (by omega) (by omega)).mp (Int32.not_le.mp zc8)
    have hb := hx p zp
    refine t_aload0 dX5_isNext_11 ?_
    refine g_getr ft5 fl_X5_22 (j := 6) (by decide) dX5_isNext_12 (by assumption) (by assumption) ?_
    refine t_aload0 dX5_isNext_15 ?_
    refine g_geti ft5 fl_X5_127 (j := 9) (by decide) dX5_isNext_16 (by assumption) ?_
    rw [hp]
    refine g_iald dX5_isNext_19 (by assumption) (by rw [alt]; exact vin_nI (by omega) (by decide)) ?_
    rw [nI_clamp (by omega), hb.1]
    refine t_iload1 dX5_isNext_20 ?_
    refine t_iload2 dX5_isNext_21 ?_
    refine g_callS3P (M_in (l := l) hlt) rfl mc_X5_in ml_X5_36 mi_X5_in in_X5 (okc_X5_in (by decide)) dX5_isNext_22 (Nat.zero_le _) ?_
    refine pw_if_eq 32 dX5_isNext_25 (by decide) (fun zc25 => ?_) (fun zc25 => ?_)
    · refine pw_iconst (0) dX5_isNext_32 (by decide) ?_
      refine pw_zret dX5_isNext_33 rfl ?_ ?_
      · first | rfl | exact bI_n
      · exact ⟨rfl, by rw [bI_f (fun z => bI_0.mp zc25 ⟨(nI_leI (by omega) (by omega)).mpr z.2.1, (nI_leI (by omega) (by omega)).mpr z.2.2⟩)], rfl, rfl, rfl⟩
    · refine pw_iconst (1) dX5_isNext_28 (by decide) ?_
      refine pw_goto 33 dX5_isNext_29 (by decide) ?_
      refine pw_zret dX5_isNext_33 rfl ?_ ?_
      · first | rfl | exact bI_n
      · exact ⟨rfl, by rw [bI_t ⟨zp, (nI_leI (by omega) (by omega)).mp (bI_nz zc25).1, (nI_leI (by omega) (by omega)).mp (bI_nz zc25).2⟩], rfl, rfl, rfl⟩
set_option maxHeartbeats 4000000 in
set_option maxRecDepth 100000 in
theorem M_takes {l : Launch} (hlt : l.stackTraces = false) {im : TI} {rm : TP} {lm : TL} {b : Nat → Nat} {bl p : Nat} (hM : MM rm) (hT : TT b bl p im) {c : Nat} (hc : c < 128) : Con l m_X5_takes 2 0 0 NN [pv (some 240), .int (nI c)] im rm lm (QI (fun x im2 => ((x = 1 ∧ (p < bl ∧ b p = c) ∧ TT b bl (p + 1) im2) ∨ (x = 0 ∧ ¬ (p < bl ∧ b p = c) ∧ TT b bl p im2)) ∧ fP im im2) rm lm) noX := by
  have hk0 := kdM
  have hks := kds
  obtain ⟨r0, r1, r3, r5, r6, r11⟩ := id hM
  have hkt := kdt
  have hko := kdo
  obtain ⟨⟨hl, hl6⟩, hx, hp, hpl⟩ := id hT
  refine Con.ofN (k := 1) (L0 := [some (pv (some 240)), some (.int (nI c)), none]) hlt (by decide +kernel) rfl rfl (by rw [en1 pv_cat, en1 rfl, en0]; exact Nat.le_of_ble_eq_true rfl) (by rw [en1 pv_cat, en1 rfl, en0]; rfl) ?_
  refine t_aload0 dX5_takes_0 ?_
  refine t_iload1 dX5_takes_1 ?_
  refine t_iload1 dX5_takes_2 ?_
  refine g_callV2P (M_isNext (l := l) hlt hM hT (lo := c) (hi := c) (by omega) (by omega)) rfl ft5 rfl mc_X5_isNext ml_X5_130 mi_X5_isNext ms_X5_isNext in_X5 (okc_X5_isNext (by decide)) dX5_takes_3 (by assumption) (cat_le (Nat.le_of_ble_eq_true rfl)) ?_
  refine t_istore2 dX5_takes_6 (by decide) okp_i ?_
  refine t_aload0 dX5_takes_7 ?_
  refine pw_dup dX5_takes_8 pv_cat ?_
  refine g_geti ft5 fl_X5_127 (j := 9) (by decide) dX5_takes_9 (by assumption) ?_
  refine t_iload2 dX5_takes_12 ?_
  refine pw_if_eq 20 dX5_takes_13 (by decide) (fun zc13 => ?_) (fun zc13 => ?_)
  · refine pw_iconst (0) dX5_takes_20 (by decide) ?_
    refine pw_iadd dX5_takes_21 ?_
    refine g_puti ft5 fl_X5_127 (j := 9) (by decide) ⟨rfl, rfl⟩ dX5_takes_22 (by assumption) ?_
    refine t_iload2 dX5_takes_25 ?_
    refine pw_zret dX5_takes_26 rfl ?_ ?_
    · first | rfl | exact bI_n
    · exact ⟨rfl, rfl, rfl, _, rfl, Or.inr ⟨zc13, fun z => bI_0.mp zc13 ⟨z.1, by omega, by omega⟩, hT.mv (by rw [hp, Int32.add_zero]) hpl⟩, fP.u⟩
  · refine pw_iconst (1) dX5_takes_16 (by decide) ?_
    refine pw_goto 21 dX5_takes_17 (by decide) ?_
    refine pw_iadd dX5_takes_21 ?_
    refine g_puti ft5 fl_X5_127 (j := 9) (by decide) ⟨rfl, rfl⟩ dX5_takes_22 (by assumption) ?_
    refine t_iload2 dX5_takes_25 ?_
    refine pw_zret dX5_takes_26 rfl ?_ ?_
    · first | rfl | exact bI_n
    · have z := bI_nz zc13
      exact ⟨rfl, rfl, rfl, _, rfl, Or.inl ⟨bI_t z, ⟨z.1, by omega⟩, hT.mv (by rw [hp, nI_1]) z.1⟩, fP.u⟩
theorem dig {v c : Nat} (h1 : c < 128) (h : 48 ≤ c) : 10 * nI v + nI c - 48 = nI (10 * v + (c - 48)) := by
  rw [show (10 : Int32) = nI 10 from rfl, pk_mul, nI_add, show (48 : Int32) = nI 48 from rfl, pk_sub (by omega)]
  congr 1
  omega
theorem fdg_9 {b : Nat → Nat} {bl p : Nat} : fdg b bl p ≤ 9 := by unfold fdg; split <;> omega
set_option maxHeartbeats 4000000 in
set_option maxRecDepth 100000 in
theorem M_readNumber {l : Launch} (hlt : l.stackTraces = false) {im : TI} {rm : TP} {lm : TL} {b : Nat → Nat} {bl p : Nat} (hM : MM rm) (hT : TT b bl p im) {w lo hi : Nat} (hw : w < 3) (hhi : hi < 10000) (hlo : lo < 1000) (h9 : 9 ≤ hi) : Con l m_X5_readNumber 2 0 0 NN [pv (some 240), .int (nI w), .int (nI lo), .int (nI hi)] im rm lm (QI (fun x im2 => x = (if (rdN b bl lo hi p).1 then 1 else 0) ∧ TT b bl (rdN b bl lo hi p).2.1 im2 ∧ fN w im im2 ∧ ((rdN b bl lo hi p).1 = true → im2 246 w = nI (rdN b bl lo hi p).2.2)) rm lm) noX := by
  have hk0 := kdM
  have hks := kds
  obtain ⟨r0, r1, r3, r5, r6, r11⟩ := id hM
  have hkt := kdt
  have hko := kdo
  obtain ⟨⟨hl, hl6⟩, hx, hp, hpl⟩ := id hT
  have h9f := fdg_9 (b := b) (bl := bl) (p := p)
  refine Con.ofN (k := 1) (L0 := [some (pv (some 240)), some (.int (nI w)), some (.int (nI lo)), some (.int (nI hi)), none]) hlt (by decide +kernel) rfl rfl (by rw [en1 pv_cat, en1 rfl, en1 rfl, en1 rfl, en0]; exact Nat.le_of_ble_eq_true rfl) (by rw [en1 pv_cat, en1 rfl, en1 rfl, en1 rfl, en0]; rfl) ?_
  have go : ¬ (fdg b bl p = 0 ∨ (fdg b bl p < lo ∧ hi < 10 * fdg b bl p)) → PW l m_X5_readNumber 2 0 0 NN 51 [some (pv (some 240)), some (.int (nI w)), some (.int (nI lo)), some (.int (nI hi)), some (.int (nI (fdg b bl p)))] [] im rm lm (QI (fun x im2 => x = (if (rdN b bl lo hi p).1 then 1 else 0) ∧ TT b bl (rdN b bl lo hi p).2.1 im2 ∧ fN w im im2 ∧ ((rdN b bl lo hi p).1 = true → im2 246 w = nI (rdN b bl lo hi p).2.2)) rm lm) noX := by
    intro hgo
    have zpl : p < bl := by apply Classical.byContradiction; intro z; exact hgo (Or.inl (if_neg (fun y => z y.1)))
    have fin : ∀ (q v : Nat) (imk : TI), v ≤ hi → TT b bl q imk → fP im imk → rnL b bl hi (bl - (p + 1)) (p + 1) (fdg b bl p) = (q, v) → PW l m_X5_readNumber 2 0 0 NN 127 [some (pv (some 240)), some (.int (nI w)), some (.int (nI lo)), some (.int (nI hi)), some (.int (nI v))] [] imk rm lm (QI (fun x im2 => x = (if (rdN b bl lo hi p).1 then 1 else 0) ∧ TT b bl (rdN b bl lo hi p).2.1 im2 ∧ fN w im im2 ∧ ((rdN b bl lo hi p).1 = true → im2 246 w = nI (rdN b bl lo hi p).2.2)) rm lm) noX := by
      intro q v imk hv hT hfr hf
      obtain ⟨⟨hl, hl6⟩, hx, hp, hpl⟩ := id hT
      refine t_aload0 dX5_readNumber_127 ?_
      refine g_getr ft5 fl_X5_25 (j := 11) (by decide) dX5_readNumber_128 (by assumption) (by assumption) ?_
      refine t_iload1 dX5_readNumber_131 ?_
      refine t_iload4 dX5_readNumber_132 ?_
      refine g_iast dX5_readNumber_134 (by assumption) (by rw [alo]; exact vin_nI hw (by decide)) ?_
      rw [nI_clamp (by omega)]
      refine t_iload4 dX5_readNumber_135 ?_
      refine t_iload2 dX5_readNumber_137 ?_
      refine pw_icmp_lt 145 dX5_readNumber_138 (by decide) (fun zc138 => ?_) (fun zc138 => ?_)
      · refine pw_iconst (0) dX5_readNumber_145 (by decide) ?_
        refine pw_zret dX5_readNumber_146 rfl ?_ ?_
        · first | rfl | exact bI_n
        · have e : rdN b bl lo hi p = (false, q, v) := by rw [rdN, if_neg hgo, hf]; dsimp only; rw [decide_eq_false (fun z => absurd ((nI_leI (by omega) (by omega)).mpr z) (Int32.not_le.mpr zc138))]
          rw [e]
          exact ⟨rfl, rfl, rfl, _, rfl, rfl, hT.told, hfr.n.u, fun z => by cases z⟩
      · refine pw_iconst (1) dX5_readNumber_141 (by decide) ?_
        refine pw_goto 146 dX5_readNumber_142 (by decide) ?_
        refine pw_zret dX5_readNumber_146 rfl ?_ ?_
        · first | rfl | exact bI_n
        · have e : rdN b bl lo hi p = (true, q, v) := by rw [rdN, if_neg hgo, hf]; dsimp only; rw [decide_eq_true ((nI_leI (by omega) (by omega)).mp (Int32.not_lt.mp zc138))]
          rw [e]
          exact ⟨rfl, rfl, rfl, _, rfl, rfl, hT.told, hfr.n.u, fun _ => by rw [ui_at, if_pos rfl]⟩
    have loop : ∀ (n q v : Nat) (imk : TI), q + n = bl → v ≤ hi → TT b bl q imk → fP im imk → rnL b bl hi (bl - (p + 1)) (p + 1) (fdg b bl p) = rnL b bl hi n q v → PW l m_X5_readNumber 2 0 0 NN 61 [some (pv (some 240)), some (.int (nI w)), some (.int (nI lo)), some (.int (nI hi)), some (.int (nI v))] [] imk rm lm (QI (fun x im2 => x = (if (rdN b bl lo hi p).1 then 1 else 0) ∧ TT b bl (rdN b bl lo hi p).2.1 im2 ∧ fN w im im2 ∧ ((rdN b bl lo hi p).1 = true → im2 246 w = nI (rdN b bl lo hi p).2.2)) rm lm) noX := by
      intro n
      induction n using Nat.strongRecOn with
      | _ n ih =>
        intro q v imk hqn hv hT hfr hf
        obtain ⟨⟨hl, hl6⟩, hx, hp, hpl⟩ := id hT
        refine t_aload0 dX5_readNumber_61 ?_
        refine pw_bipush (48) dX5_readNumber_62 (by decide) ?_
        refine pw_bipush (57) dX5_readNumber_64 (by decide) ?_
        refine g_callV2P (M_isNext (l := l) hlt hM hT (lo := 48) (hi := 57) (by omega) (by omega)) rfl ft5 rfl mc_X5_isNext ml_X5_130 mi_X5_isNext ms_X5_isNext in_X5 (okc_X5_isNext (by decide)) dX5_readNumber_66 (by assumption) (cat_le (Nat.le_of_ble_eq_true rfl)) ?_
        refine pw_if_eq 127 dX5_readNumber_69 (by decide) (fun zc69 => ?_) (fun zc69 => ?_)
        · have hstop : rnL b bl hi n q v = (q, v) := by
            cases n with
            | zero => rfl
            | succ n => rw [rnL, if_neg (fun z => bI_0.mp zc69 ⟨z.1, z.2.1⟩)]
          exact fin q v imk hv hT hfr (hf.trans hstop)
        · have zd := bI_nz zc69
          have hb := hx q zd.1
          refine pw_bipush (10) dX5_readNumber_72 (by decide) ?_
          refine t_iload4 dX5_readNumber_74 ?_
          refine pw_imul dX5_readNumber_76 ?_
          refine t_aload0 dX5_readNumber_77 ?_
          refine g_getr ft5 fl_X5_22 (j := 6) (by decide) dX5_readNumber_78 (by assumption) (by assumption) ?_
          refine t_aload0 dX5_readNumber_81 ?_
          refine g_geti ft5 fl_X5_127 (j := 9) (by decide) dX5_readNumber_82 (by assumption) ?_
          rw [hp]
          refine g_iald dX5_readNumber_85 (by assumption) (by rw [alt]; exact vin_nI (by omega) (by decide)) ?_
          rw [nI_clamp (by omega), hb.1]
          refine pw_iadd dX5_readNumber_86 ?_
          refine pw_bipush (48) dX5_readNumber_87 (by decide) ?_
          refine pw_isub dX5_readNumber_89 ?_
          rw [dig hb.2 zd.2.1]
          refine t_iload3 dX5_readNumber_90 ?_
          refine pw_icmp_gt 127 dX5_readNumber_91 (by decide) (fun zc91 => ?_) (fun zc91 => ?_)
          · have hstop : rnL b bl hi n q v = (q, v) := by
              cases n with
              | zero => rfl
              | succ n => rw [rnL, if_neg (fun z => absurd ((nI_leI (by omega) (by omega)).mpr z.2.2) (Int32.not_le.mpr zc91))]
            exact fin q v imk hv hT hfr (hf.trans hstop)
          · refine pw_bipush (10) dX5_readNumber_94 (by decide) ?_
            refine t_iload4 dX5_readNumber_96 ?_
            refine pw_imul dX5_readNumber_98 ?_
            refine t_aload0 dX5_readNumber_99 ?_
            refine g_getr ft5 fl_X5_22 (j := 6) (by decide) dX5_readNumber_100 (by assumption) (by assumption) ?_
            refine t_aload0 dX5_readNumber_103 ?_
            refine g_geti ft5 fl_X5_127 (j := 9) (by decide) dX5_readNumber_104 (by assumption) ?_
            rw [hp]
            refine g_iald dX5_readNumber_107 (by assumption) (by rw [alt]; exact vin_nI (by omega) (by decide)) ?_
            rw [nI_clamp (by omega), hb.1]
            refine pw_iadd dX5_readNumber_108 ?_
            refine pw_bipush (48) dX5_readNumber_109 (by decide) ?_
            refine pw_isub dX5_readNumber_111 ?_
            rw [dig hb.2 zd.2.1]
            refine t_istore4 dX5_readNumber_112 (by decide) okp_i ?_
            refine t_aload0 dX5_readNumber_114 ?_
            refine pw_dup dX5_readNumber_115 pv_cat ?_
            refine g_geti ft5 fl_X5_127 (j := 9) (by decide) dX5_readNumber_116 (by assumption) ?_
            rw [hp]
            refine pw_iconst (1) dX5_readNumber_119 (by decide) ?_
            refine pw_iadd dX5_readNumber_120 ?_
            rw [nI_1]
            refine g_puti ft5 fl_X5_127 (j := 9) (by decide) ⟨rfl, rfl⟩ dX5_readNumber_121 (by assumption) ?_
            refine pw_goto 61 dX5_readNumber_124 (by decide) ?_
            have zle : 10 * v + (b q - 48) ≤ hi := (nI_leI (by omega) (by omega)).mp (Int32.not_lt.mp zc91)
            exact ih (n - 1) (by omega) (q + 1) _ _ (by omega) zle (hT.mv rfl (by omega)) (hfr.trans fP.u) (by rw [hf, show n = (n - 1) + 1 by omega, rnL, if_pos ⟨zd.1, zd.2, zle⟩]; rfl)
    refine t_aload0 dX5_readNumber_51 ?_
    refine pw_dup dX5_readNumber_52 pv_cat ?_
    refine g_geti ft5 fl_X5_127 (j := 9) (by decide) dX5_readNumber_53 (by assumption) ?_
    rw [hp]
    refine pw_iconst (1) dX5_readNumber_56 (by decide) ?_
    refine pw_iadd dX5_readNumber_57 ?_
    rw [nI_1]
    refine g_puti ft5 fl_X5_127 (j := 9) (by decide) ⟨rfl, rfl⟩ dX5_readNumber_58 (by assumption) ?_
    exact loop (bl - (p + 1)) (p + 1) _ _ (by omega) (by omega) (hT.mv rfl (by omega)) fP.u rfl
  have at29 : PW l m_X5_readNumber 2 0 0 NN 29 [some (pv (some 240)), some (.int (nI w)), some (.int (nI lo)), some (.int (nI hi)), some (.int (nI (fdg b bl p)))] [] im rm lm (QI (fun x im2 => x = (if (rdN b bl lo hi p).1 then 1 else 0) ∧ TT b bl (rdN b bl lo hi p).2.1 im2 ∧ fN w im im2 ∧ ((rdN b bl lo hi p).1 = true → im2 246 w = nI (rdN b bl lo hi p).2.2)) rm lm) noX := by
    refine t_iload4 dX5_readNumber_29 ?_
    refine pw_if_eq 49 dX5_readNumber_31 (by decide) (fun zc31 => ?_) (fun zc31 => ?_)
    · refine pw_iconst (0) dX5_readNumber_49 (by decide) ?_
      refine pw_zret dX5_readNumber_50 rfl ?_ ?_
      · first | rfl | exact bI_n
      · have e : rdN b bl lo hi p = (false, p, 0) := by rw [rdN, if_pos (Or.inl ((nI_eq (b := 0) (by omega) (by decide)).mp zc31))]
        rw [e]
        exact ⟨rfl, rfl, rfl, _, rfl, rfl, hT, fP.rf.n, fun z => by cases z⟩
    · refine t_iload4 dX5_readNumber_34 ?_
      refine t_iload2 dX5_readNumber_36 ?_
      refine pw_icmp_ge 51 dX5_readNumber_37 (by decide) (fun zc37 => ?_) (fun zc37 => ?_)
      · exact go (fun z => z.elim (fun y => zc31 (by rw [y]; rfl)) (fun y => absurd ((nI_leI (by omega) (by omega)).mp zc37) (by omega)))
      · refine pw_bipush (10) dX5_readNumber_40 (by decide) ?_
        refine t_iload4 dX5_readNumber_42 ?_
        refine pw_imul dX5_readNumber_44 ?_
        rw [show (10 : Int32) * nI (fdg b bl p) = nI (10 * fdg b bl p) from pk_mul 10 _]
        refine t_iload3 dX5_readNumber_45 ?_
        refine pw_icmp_le 51 dX5_readNumber_46 (by decide) (fun zc46 => ?_) (fun zc46 => ?_)
        · exact go (fun z => z.elim (fun y => zc31 (by rw [y]; rfl)) (fun y => absurd ((nI_leI (by omega) (by omega)).mp zc46) (by omega)))
        · refine pw_iconst (0) dX5_readNumber_49 (by decide) ?_
          refine pw_zret dX5_readNumber_50 rfl ?_ ?_
          · first | rfl | exact bI_n
          · have e : rdN b bl lo hi p = (false, p, 0) := by rw [rdN, if_pos (Or.inr ⟨by apply Classical.byContradiction; intro z; exact zc37 ((nI_leI (by omega) (by omega)).mpr (by omega)), by apply Classical.byContradiction; intro z; exact zc46 ((nI_leI (by omega) (by omega)).mpr (by omega))⟩)]
            rw [e]
            exact ⟨rfl, rfl, rfl, _, rfl, rfl, hT, fP.rf.n, fun z => by cases z⟩
  refine t_aload0 dX5_readNumber_0 ?_
  refine pw_bipush (49) dX5_readNumber_1 (by decide) ?_
  refine pw_bipush (57) dX5_readNumber_3 (by decide) ?_
  refine g_callV2P (M_isNext (l := l) hlt hM hT (lo := 49) (hi := 57) (by omega) (by omega)) rfl ft5 rfl mc_X5_isNext ml_X5_130 mi_X5_isNext ms_X5_isNext in_X5 (okc_X5_isNext (by decide)) dX5_readNumber_5 (by assumption) (cat_le (Nat.le_of_ble_eq_true rfl)) ?_
  refine pw_if_eq 26 dX5_readNumber_8 (by decide) (fun zc8 => ?_) (fun zc8 => ?_)
  · refine pw_iconst (0) dX5_readNumber_26 (by decide) ?_
    refine t_istore4 dX5_readNumber_27 (by decide) okp_i ?_
    have e0 : fdg b bl p = 0 := if_neg (bI_0.mp zc8)
    have h0 := at29
    rw [e0] at h0
    exact h0
  · have zd := bI_nz zc8
    have hb := hx p zd.1
    refine t_aload0 dX5_readNumber_11 ?_
    refine g_getr ft5 fl_X5_22 (j := 6) (by decide) dX5_readNumber_12 (by assumption) (by assumption) ?_
    refine t_aload0 dX5_readNumber_15 ?_
    refine g_geti ft5 fl_X5_127 (j := 9) (by decide) dX5_readNumber_16 (by assumption) ?_
    rw [hp]
    refine g_iald dX5_readNumber_19 (by assumption) (by rw [alt]; exact vin_nI (by omega) (by decide)) ?_
    rw [nI_clamp (by omega), hb.1]
    refine pw_bipush (48) dX5_readNumber_20 (by decide) ?_
    refine pw_isub dX5_readNumber_22 ?_
    rw [show nI (b p) - 48 = nI (fdg b bl p) from by rw [show fdg b bl p = b p - 48 from if_pos zd]; exact pk_sub (b := 48) (by omega)]
    refine pw_goto 27 dX5_readNumber_23 (by decide) ?_
    refine t_istore4 dX5_readNumber_27 (by decide) okp_i ?_
    exact at29
abbrev mlP (b : Nat → Nat) (bl p : Nat) : Prop := p < bl ∧ 48 ≤ b p ∧ b p ≤ 52
set_option maxHeartbeats 4000000 in
set_option maxRecDepth 100000 in
theorem M_readMill {l : Launch} (hlt : l.stackTraces = false) {im : TI} {rm : TP} {lm : TL} {b : Nat → Nat} {bl p : Nat} (hM : MM rm) (hT : TT b bl p im) : Con l m_X5_readMill 2 0 0 NN [pv (some 240)] im rm lm (QI (fun x im2 => ((x = 1 ∧ mlP b bl p ∧ TT b bl (p + 1) im2 ∧ im2 246 0 = nI (b p - 48)) ∨ (x = 0 ∧ ¬ mlP b bl p ∧ TT b bl p im2)) ∧ fN 0 im im2) rm lm) noX := by
  have hk0 := kdM
  have hks := kds
  obtain ⟨r0, r1, r3, r5, r6, r11⟩ := id hM
  have hkt := kdt
  have hko := kdo
  obtain ⟨⟨hl, hl6⟩, hx, hp, hpl⟩ := id hT
  refine Con.ofN (k := 1) (L0 := [some (pv (some 240)), none]) hlt (by decide +kernel) rfl rfl (by rw [en1 pv_cat, en0]; exact Nat.le_of_ble_eq_true rfl) (by rw [en1 pv_cat, en0]; rfl) ?_
  refine t_aload0 dX5_readMill_0 ?_
  refine pw_bipush (48) dX5_readMill_1 (by decide) ?_
  refine pw_bipush (52) dX5_readMill_3 (by decide) ?_
  refine g_callV2P (M_isNext (l := l) hlt hM hT (lo := 48) (hi := 52) (by omega) (by omega)) rfl ft5 rfl mc_X5_isNext ml_X5_130 mi_X5_isNext ms_X5_isNext in_X5 (okc_X5_isNext (by decide)) dX5_readMill_5 (by assumption) (cat_le (Nat.le_of_ble_eq_true rfl)) ?_
  refine t_istore1 dX5_readMill_8 (by decide) okp_r ?_
  refine t_aload0 dX5_readMill_9 ?_
  refine g_getr ft5 fl_X5_25 (j := 11) (by decide) dX5_readMill_10 (by assumption) (by assumption) ?_
  refine pw_iconst (0) dX5_readMill_13 (by decide) ?_
  refine t_iload1 dX5_readMill_14 ?_
  refine pw_if_eq 33 dX5_readMill_15 (by decide) (fun zc15 => ?_) (fun zc15 => ?_)
  · refine pw_iconst (0) dX5_readMill_33 (by decide) ?_
    refine g_iast dX5_readMill_34 (by assumption) (by rw [alo]; exact vin_nI (p := 0) (n := 3) (by decide) (by decide)) ?_
    rw [show (0 : Int32).toNatClampNeg = 0 by decide]
    refine t_aload0 dX5_readMill_35 ?_
    refine pw_dup dX5_readMill_36 pv_cat ?_
    refine g_geti ft5 fl_X5_127 (j := 9) (by decide) dX5_readMill_37 (by assumption) ?_
    refine t_iload1 dX5_readMill_40 ?_
    refine pw_if_eq 48 dX5_readMill_41 (by decide) (fun zc41 => ?_) (fun zc41 => ?_)
    · refine pw_iconst (0) dX5_readMill_48 (by decide) ?_
      refine pw_iadd dX5_readMill_49 ?_
      refine g_puti ft5 fl_X5_127 (j := 9) (by decide) ⟨rfl, rfl⟩ dX5_readMill_50 (by assumption) ?_
      refine t_iload1 dX5_readMill_53 ?_
      refine pw_zret dX5_readMill_54 rfl ?_ ?_
      · first | rfl | exact bI_n
      · exact ⟨rfl, rfl, rfl, _, rfl, Or.inr ⟨zc15, bI_0.mp zc15, hT.told.mv (by rw [ui_ne (by decide), hp, Int32.add_zero]) hpl⟩, fP.rf.n.u.p fP.u⟩
    · refine pw_iconst (1) dX5_readMill_44 (by decide) ?_
      refine pw_goto 49 dX5_readMill_45 (by decide) ?_
      refine pw_iadd dX5_readMill_49 ?_
      refine g_puti ft5 fl_X5_127 (j := 9) (by decide) ⟨rfl, rfl⟩ dX5_readMill_50 (by assumption) ?_
      refine t_iload1 dX5_readMill_53 ?_
      refine pw_zret dX5_readMill_54 rfl ?_ ?_
      · first | rfl | exact bI_n
      · exact absurd zc15 zc41
  · have zd := bI_nz zc15
    have hb := hx p zd.1
    refine t_aload0 dX5_readMill_18 ?_
    refine g_getr ft5 fl_X5_22 (j := 6) (by decide) dX5_readMill_19 (by assumption) (by assumption) ?_
    refine t_aload0 dX5_readMill_22 ?_
    refine g_geti ft5 fl_X5_127 (j := 9) (by decide) dX5_readMill_23 (by assumption) ?_
    rw [hp]
    refine g_iald dX5_readMill_26 (by assumption) (by rw [alt]; exact vin_nI (by omega) (by decide)) ?_
    rw [nI_clamp (by omega), hb.1]
    refine pw_bipush (48) dX5_readMill_27 (by decide) ?_
    refine pw_isub dX5_readMill_29 ?_
    rw [show nI (b p) - 48 = nI (b p - 48) from pk_sub (b := 48) (by omega)]
    refine pw_goto 34 dX5_readMill_30 (by decide) ?_
    refine g_iast dX5_readMill_34 (by assumption) (by rw [alo]; exact vin_nI (p := 0) (n := 3) (by decide) (by decide)) ?_
    rw [show (0 : Int32).toNatClampNeg = 0 by decide]
    refine t_aload0 dX5_readMill_35 ?_
    refine pw_dup dX5_readMill_36 pv_cat ?_
    refine g_geti ft5 fl_X5_127 (j := 9) (by decide) dX5_readMill_37 (by assumption) ?_
    refine t_iload1 dX5_readMill_40 ?_
    refine pw_if_eq 48 dX5_readMill_41 (by decide) (fun zc41 => ?_) (fun zc41 => ?_)
    · refine pw_iconst (0) dX5_readMill_48 (by decide) ?_
      refine pw_iadd dX5_readMill_49 ?_
      refine g_puti ft5 fl_X5_127 (j := 9) (by decide) ⟨rfl, rfl⟩ dX5_readMill_50 (by assumption) ?_
      refine t_iload1 dX5_readMill_53 ?_
      refine pw_zret dX5_readMill_54 rfl ?_ ?_
      · first | rfl | exact bI_n
      · exact absurd zc41 zc15
    · refine pw_iconst (1) dX5_readMill_44 (by decide) ?_
      refine pw_goto 49 dX5_readMill_45 (by decide) ?_
      refine pw_iadd dX5_readMill_49 ?_
      refine g_puti ft5 fl_X5_127 (j := 9) (by decide) ⟨rfl, rfl⟩ dX5_readMill_50 (by assumption) ?_
      refine t_iload1 dX5_readMill_53 ?_
      refine pw_zret dX5_readMill_54 rfl ?_ ?_
      · first | rfl | exact bI_n
      · exact ⟨rfl, rfl, rfl, _, rfl, Or.inl ⟨bI_t (bI_nz zc15), bI_nz zc15, hT.told.mv (by rw [ui_ne (by decide), hp, nI_1]) (bI_nz zc15).1, by rw [ui_ne (by decide), ui_at, if_pos rfl]⟩, fP.rf.n.u.p fP.u⟩
