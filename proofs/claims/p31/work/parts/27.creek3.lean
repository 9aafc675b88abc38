/-! TideMills$Creek: grind, passHours -/
theorem rest0 {c m n : Nat} {S : CS} {im : TI} (hR : CR c S im) (hm : m < 5) (hn : S.2.1 m 9 = nI (n + 1)) (hn6 : n + 1 ≤ 6) : (if ¬ (0 : Int32) < 0 ∧ 0 < im (mA c m) 11 ∧ (0 : Int32) < 6 then im (mA c m + 3) (0 : Int32).toNatClampNeg else -1) = S.2.2 m 0 2 := by
  rw [if_pos ⟨by decide, by rw [w11 hR hm, hn]; exact (nI_ltI (a := 0) (by decide) (by omega)).mpr (by omega), by decide⟩]
  exact ((hR.2 m hm).2.2 0 (by decide)).2.2.1
theorem g1_cnt {S : CS} {m n : Nat} : (g1S S m (n + 1)).2.1 m 9 = nI n := by
  unfold g1S dpS upM
  dsimp only
  rw [if_pos rfl, if_pos rfl]
  rfl
theorem CR.gone {c m n : Nat} {S : CS} {im im2 : TI} (h : CR c S im) (hm : m < 5) (hn : n + 1 ≤ 6) {b : Bool} (hb : b = true ↔ fdF S m < S.1 0) {i1 : TI} (h1 : i1 = if b then ui im c 11 (im c 11 + 1) else im)
    (h2 : ∀ o q, im2 o q = if inR (mA c m) o ∧ 0 ≤ q ∧ q + 1 < n + 1 then (ui (ui i1 c 10 (i1 c 10 + 1)) (mA c m) 10 ((ui i1 c 10 (i1 c 10 + 1)) (mA c m) 10 + 1)) o (q + 1) else if o = mA c m ∧ q = 11 then nI n else (ui (ui i1 c 10 (i1 c 10 + 1)) (mA c m) 10 ((ui i1 c 10 (i1 c 10 + 1)) (mA c m) 10 + 1)) o q) : CR c (g1S S m (n + 1)) im2 ∧ fr c im im2 := by
  have z1 : CR c (if fdF S m < S.1 0 then upG S 7 (S.1 7 + 1) else S) i1 ∧ fr c im i1 := by
    subst h1
    by_cases e : b = true
    · rw [if_pos e, if_pos (hb.mp e), h.1.2.2.2.2.2 11 (by decide) (by decide)]
      exact ⟨h.g (j := 7) (by decide) (by decide), fr.u (Nat.le_refl _) (by omega)⟩
    · rw [if_neg e, if_neg (fun z => e (hb.mpr z))]
      exact ⟨h, fr.rf⟩
  obtain ⟨z1, f1⟩ := z1
  unfold g1S
  generalize (if fdF S m < S.1 0 then upG S 7 (S.1 7 + 1) else S) = S1 at z1 ⊢
  dsimp only
  have z2 := z1.g (j := 6) (x := i1 c 10 + 1) (by decide) (by decide)
  have e6 : i1 c 10 = S1.1 6 := z1.1.2.2.2.2.2 10 (by decide) (by decide)
  have z3 := z2.f (w := 8) (x := (ui i1 c 10 (i1 c 10 + 1)) (mA c m) 10 + 1) hm (by decide)
  have e8 : (ui i1 c 10 (i1 c 10 + 1)) (mA c m) 10 = (upG S1 6 (i1 c 10 + 1)).2.1 m 8 := (z2.2 m hm).2.1 8 (by decide)
  have z4 := z3.drop (n := n + 1) (p := 0) (im2 := im2) hm hn h2
  rw [e8, e6] at z4
  have f4 : fr c (ui (ui i1 c 10 (i1 c 10 + 1)) (mA c m) 10 ((ui i1 c 10 (i1 c 10 + 1)) (mA c m) 10 + 1)) im2 := fr.of hm fun o ho => funext fun q => by
    rw [h2, if_neg (fun z => by have := z.1; unfold inR at this; omega), if_neg (fun z => by have := z.1; omega)]
  exact ⟨z4, f1.trans ((fr.u (Nat.le_refl _) (by omega)).trans ((fr.m hm).trans f4))⟩
set_option maxHeartbeats 4000000 in
set_option maxRecDepth 100000 in
theorem C_grind {l : Launch} (hlt : l.stackTraces = false) {im : TI} {rm : TP} {lm : TL} {c : Nat} {S : CS} (hC : isC rm c) (hR : CR c S im) {m : Nat} {t : Int32} (hm : m < 5) (hI : CI S) : Con l m_X0_grind 3 0 0 NN [pv (some c), pv (some (mA c m)), .int (t)] im rm lm (QV (fun im2 => CR c (grS S m t) im2 ∧ fr c im im2) rm lm) noX := by
  have hkc := hC.1
  have hkm := ck_of hC hm
  have hM := hC.2.2.1 m hm
  have hc := hI.c hm
  refine Con.ofN (k := 2) (L0 := [some (pv (some c)), some (pv (some (mA c m))), some (.int (t)), none, none]) hlt (by decide +kernel) rfl rfl (by rw [en1 pv_cat, en1 pv_cat, en1 rfl, en0]; exact Nat.le_of_ble_eq_true rfl) (by rw [en1 pv_cat, en1 pv_cat, en1 rfl, en0]; rfl) ?_
  have loop : ∀ (n : Nat) (Sk : CS) (imk : TI) (tk : Int32), CR c Sk imk → Sk.2.1 m 9 = nI n → n ≤ 6 → fr c im imk → grN m (cnt S m) S t = grN m n Sk tk → PW l m_X0_grind 3 0 0 NN 8 [some (pv (some c)), some (pv (some (mA c m))), some (.int t), some (.int tk), some (.int (nI n))] [] imk rm lm (QV (fun im2 => CR c (grS S m t) im2 ∧ fr c im im2) rm lm) noX := by
    intro n
    induction n using Nat.strongRecOn with
    | _ n ih =>
      intro Sk imk tk hRk hnk hn6 hfr hf
      refine t_iload4 dX0_grind_8 ?_
      refine pw_if_le 82 dX0_grind_10 (by decide) (fun zc10 => ?_) (fun zc10 => ?_)
      · refine t_aload1 dX0_grind_82 ?_
        refine t_iload3 dX0_grind_83 ?_
        refine g_callV1V (C_grindFirst (l := l) hlt hM) rfl ft2 rfl mc_X2_grindFirst ml_X0_148 mi_X2_grindFirst ms_X2_grindFirst in_X2 (okc_X2_grindFirst (by decide)) dX0_grind_84 (by assumption) (cat_le (Nat.le_of_ble_eq_true rfl)) (fun zim84 zh84 => ?_)
        refine pw_vret dX0_grind_87 rfl ?_
        refine ⟨rfl, rfl, rfl, rfl, ?_⟩
        rw [zh84, w11 hRk hm]
        unfold grS
        have zn : n = 0 := by
          rcases Nat.eq_zero_or_pos n with z | z
          · exact z
          · exact absurd zc10 (nI_nle z (by omega))
        subst zn
        rw [hf, grN]
        dsimp only
        by_cases z : 0 < Sk.2.1 m 9
        · rw [if_pos z, if_pos z, ((hRk.2 m hm).2.2 0 (by decide)).2.2.1]
          exact ⟨hRk.k hm, hfr.trans (fr.u (by unfold mA; omega) (by unfold mA; omega))⟩
        · rw [if_neg z, if_neg z]
          exact ⟨hRk, hfr⟩
      · refine t_iload3 dX0_grind_13 ?_
        refine t_aload1 dX0_grind_14 ?_
        refine pw_iconst (0) dX0_grind_15 (by decide) ?_
        refine g_callV1P (C_restAt (l := l) hlt hM) rfl ft2 rfl mc_X2_restAt ml_X0_84 mi_X2_restAt ms_X2_restAt in_X2 (okc_X2_restAt (by decide)) dX0_grind_16 (by assumption) (cat_le (Nat.le_of_ble_eq_true rfl)) ?_
        have zn : 0 < n := (Nat.eq_zero_or_pos n).resolve_left (fun z => zc10 (by rw [z]; decide))
        obtain ⟨n', rfl⟩ : ∃ n', n = n' + 1 := ⟨n - 1, by omega⟩
        rw [rest0 hRk hm hnk (by omega)]
        refine pw_icmp_lt 82 dX0_grind_19 (by decide) (fun zc19 => ?_) (fun zc19 => ?_)
        · refine t_aload1 dX0_grind_82 ?_
          refine t_iload3 dX0_grind_83 ?_
          refine g_callV1V (C_grindFirst (l := l) hlt hM) rfl ft2 rfl mc_X2_grindFirst ml_X0_148 mi_X2_grindFirst ms_X2_grindFirst in_X2 (okc_X2_grindFirst (by decide)) dX0_grind_84 (by assumption) (cat_le (Nat.le_of_ble_eq_true rfl)) (fun zim84 zh84 => ?_)
          refine pw_vret dX0_grind_87 rfl ?_
          refine ⟨rfl, rfl, rfl, rfl, ?_⟩
          rw [zh84, w11 hRk hm]
          unfold grS
          rw [hf, grN, if_neg (Int32.not_le.mpr zc19)]
          dsimp only
          by_cases z : 0 < Sk.2.1 m 9
          · rw [if_pos z, if_pos z, ((hRk.2 m hm).2.2 0 (by decide)).2.2.1]
            exact ⟨hRk.k hm, hfr.trans (fr.u (by unfold mA; omega) (by unfold mA; omega))⟩
          · rw [if_neg z, if_neg z]
            exact ⟨hRk, hfr⟩
        · refine t_iload3 dX0_grind_22 ?_
          refine t_aload1 dX0_grind_23 ?_
          refine pw_iconst (0) dX0_grind_24 (by decide) ?_
          refine g_callV1P (C_restAt (l := l) hlt hM) rfl ft2 rfl mc_X2_restAt ml_X0_84 mi_X2_restAt ms_X2_restAt in_X2 (okc_X2_restAt (by decide)) dX0_grind_25 (by assumption) (cat_le (Nat.le_of_ble_eq_true rfl)) ?_
          rw [rest0 hRk hm hnk (by omega)]
          refine pw_isub dX0_grind_28 ?_
          refine t_istore3 dX0_grind_29 (by decide) okp_i ?_
          refine t_aload0 dX0_grind_30 ?_
          refine g_geti ft0 fl_X0_21 (j := 4) (by decide) dX0_grind_31 (by assumption) ?_
          refine t_aload1 dX0_grind_34 ?_
          refine g_callV0P (C_firstDue (l := l) hlt hM) rfl ft2 rfl mc_X2_firstDue ml_X0_101 mi_X2_firstDue ms_X2_firstDue in_X2 (okc_X2_firstDue (by decide)) dX0_grind_35 (by assumption) (cat_le (Nat.le_of_ble_eq_true rfl)) ?_
          refine pw_icmp_le 51 dX0_grind_38 (by decide) (fun zc38 => ?_) (fun zc38 => ?_)
          · refine t_aload0 dX0_grind_51 ?_
            refine pw_dup dX0_grind_52 pv_cat ?_
            refine g_geti ft0 fl_X0_39 (j := 10) (by decide) dX0_grind_53 (by assumption) ?_
            refine pw_iconst (1) dX0_grind_56 (by decide) ?_
            refine pw_iadd dX0_grind_57 ?_
            refine g_puti ft0 fl_X0_39 (j := 10) (by decide) ⟨rfl, rfl⟩ dX0_grind_58 (by assumption) ?_
            refine t_aload1 dX0_grind_61 ?_
            refine pw_dup dX0_grind_62 pv_cat ?_
            refine g_geti ft2 fl_X0_143 (j := 10) (by decide) dX0_grind_63 (by assumption) ?_
            refine pw_iconst (1) dX0_grind_66 (by decide) ?_
            refine pw_iadd dX0_grind_67 ?_
            refine g_puti ft2 fl_X0_143 (j := 10) (by decide) ⟨rfl, rfl⟩ dX0_grind_68 (by assumption) ?_
            refine t_aload1 dX0_grind_71 ?_
            refine pw_iconst (0) dX0_grind_72 (by decide) ?_
            refine g_callV1V (C_dropSack (l := l) hlt (n := n' + 1) (p := 0) hM rfl (by first | (rw [ui_at, if_neg (by decide), ui_ne (by unfold mA; omega), ui_ne (by unfold mA; omega), w11 hRk hm, hnk]) | (rw [ui_at, if_neg (by decide), ui_ne (by unfold mA; omega), w11 hRk hm, hnk])) (by omega) (by omega)) rfl ft2 rfl mc_X2_dropSack ml_X0_144 mi_X2_dropSack ms_X2_dropSack in_X2 (okc_X2_dropSack (by decide)) dX0_grind_73 (by assumption) (cat_le (Nat.le_of_ble_eq_true rfl)) (fun zim73 zh73 => ?_)
            refine t_iinc4 (-1) dX0_grind_76 (by decide) (by decide) okp_i ?_
            refine pw_goto 8 dX0_grind_79 (by decide) ?_
            rw [fd_of hRk hm, hRk.1.2.2.2.1] at zc38
            obtain ⟨zr, zf⟩ := hRk.gone (im2 := zim73) (i1 := _) hm (by omega) (b := false) ⟨fun z => (by cases z), fun z => absurd z (Int32.not_lt.mpr zc38)⟩ rfl zh73
            rw [pk_m1 n']
            exact ih n' (by omega) (g1S Sk m (n' + 1)) zim73 _ zr g1_cnt (by omega) (hfr.trans zf) (by rw [hf, grN, if_pos (Int32.not_lt.mp zc19)])
          · refine t_aload0 dX0_grind_41 ?_
            refine pw_dup dX0_grind_42 pv_cat ?_
            refine g_geti ft0 fl_X0_42 (j := 11) (by decide) dX0_grind_43 (by assumption) ?_
            refine pw_iconst (1) dX0_grind_46 (by decide) ?_
            refine pw_iadd dX0_grind_47 ?_
            refine g_puti ft0 fl_X0_42 (j := 11) (by decide) ⟨rfl, rfl⟩ dX0_grind_48 (by assumption) ?_
            refine t_aload0 dX0_grind_51 ?_
            refine pw_dup dX0_grind_52 pv_cat ?_
            refine g_geti ft0 fl_X0_39 (j := 10) (by decide) dX0_grind_53 (by assumption) ?_
            refine pw_iconst (1) dX0_grind_56 (by decide) ?_
            refine pw_iadd dX0_grind_57 ?_
            refine g_puti ft0 fl_X0_39 (j := 10) (by decide) ⟨rfl, rfl⟩ dX0_grind_58 (by assumption) ?_
            refine t_aload1 dX0_grind_61 ?_
            refine pw_dup dX0_grind_62 pv_cat ?_
            refine g_geti ft2 fl_X0_143 (j := 10) (by decide) dX0_grind_63 (by assumption) ?_
            refine pw_iconst (1) dX0_grind_66 (by decide) ?_
            refine pw_iadd dX0_grind_67 ?_
            refine g_puti ft2 fl_X0_143 (j := 10) (by decide) ⟨rfl, rfl⟩ dX0_grind_68 (by assumption) ?_
            refine t_aload1 dX0_grind_71 ?_
            refine pw_iconst (0) dX0_grind_72 (by decide) ?_
            refine g_callV1V (C_dropSack (l := l) hlt (n := n' + 1) (p := 0) hM rfl (by first | (rw [ui_at, if_neg (by decide), ui_ne (by unfold mA; omega), ui_ne (by unfold mA; omega), w11 hRk hm, hnk]) | (rw [ui_at, if_neg (by decide), ui_ne (by unfold mA; omega), w11 hRk hm, hnk])) (by omega) (by omega)) rfl ft2 rfl mc_X2_dropSack ml_X0_144 mi_X2_dropSack ms_X2_dropSack in_X2 (okc_X2_dropSack (by decide)) dX0_grind_73 (by assumption) (cat_le (Nat.le_of_ble_eq_true rfl)) (fun zim73 zh73 => ?_)
            refine t_iinc4 (-1) dX0_grind_76 (by decide) (by decide) okp_i ?_
            refine pw_goto 8 dX0_grind_79 (by decide) ?_
            rw [fd_of hRk hm, hRk.1.2.2.2.1] at zc38
            obtain ⟨zr, zf⟩ := hRk.gone (im2 := zim73) (i1 := _) hm (by omega) (b := true) ⟨fun _ => Int32.not_le.mp zc38, fun _ => rfl⟩ rfl zh73
            rw [pk_m1 n']
            exact ih n' (by omega) (g1S Sk m (n' + 1)) zim73 _ zr g1_cnt (by omega) (hfr.trans zf) (by rw [hf, grN, if_pos (Int32.not_lt.mp zc19)])
  refine t_iload2 dX0_grind_0 ?_
  refine t_istore3 dX0_grind_1 (by decide) okp_i ?_
  refine t_aload1 dX0_grind_2 ?_
  refine g_geti ft2 fl_X0_81 (j := 11) (by decide) dX0_grind_3 (by assumption) ?_
  refine t_istore4 dX0_grind_6 (by decide) okp_i ?_
  rw [w11 hR hm, hc.2]
  exact loop (cnt S m) S im t hR hc.2 hc.1 fr.rf rfl
theorem CI.keep {S S2 : CS} (h : CI S) (e : ∀ m, m < 5 → S2.2.1 m 9 = S.2.1 m 9) : CI S2 := fun m hm => by rw [e m hm]; exact h m hm
theorem liS_f9 {S : CS} {m j : Nat} : (liS S m).2.1 j 9 = S.2.1 j 9 := by
  unfold liS upF upG
  simp
theorem lwS_f9 {j : Nat} : ∀ (n m : Nat) (S : CS), (lwS n m S).2.1 j 9 = S.2.1 j 9 := by
  intro n
  induction n with
  | zero => intro m S; rfl
  | succ n ih => intro m S; show (lwS n (m + 1) (liS S m)).2.1 j 9 = _; rw [ih, liS_f9]
theorem tuS_f9 {S : CS} {m j : Nat} : (tuS S m).2.1 j 9 = S.2.1 j 9 := by
  unfold tuS upF upG
  simp
theorem g1S_f9 {S : CS} {m n j : Nat} : (g1S S m n).2.1 j 9 = if j = m then nI (n - 1) else S.2.1 j 9 := by
  unfold g1S dpS upM
  dsimp only
  by_cases e : j = m
  · subst e; rw [if_pos rfl, if_pos rfl, if_pos rfl]
  · rw [if_neg e, if_neg e]
    unfold upF upG
    split <;> simp
theorem grN_CI {m : Nat} (hm : m < 5) : ∀ (n : Nat) (S : CS) (t : Int32), n ≤ 6 → CI S → S.2.1 m 9 = nI n → CI (grN m n S t).1 := by
  intro n
  induction n with
  | zero => intro S t _ h _; exact h
  | succ n ih =>
    intro S t hn h hc
    unfold grN
    split
    · refine ih _ _ (by omega) (fun j hj => ?_) (by rw [g1S_f9, if_pos rfl]; rfl)
      rw [g1S_f9]
      by_cases e : j = m
      · rw [if_pos e]; exact ⟨n, by omega, rfl⟩
      · rw [if_neg e]; exact h j hj
    · exact h
theorem grS_CI {S : CS} {m : Nat} {t : Int32} (hm : m < 5) (h : CI S) : CI (grS S m t) := by
  unfold grS
  have k := grN_CI hm (cnt S m) S t (h.c hm).1 h (h.c hm).2
  dsimp only
  split
  · exact k.keep fun _ _ => rfl
  · exact k
theorem tmS_CI {S : CS} {o : Option Nat} (ho : ∀ m, o = some m → m < 5) (h : CI S) : CI (tmS S o) := by
  cases o with
  | none => exact h.keep fun _ _ => rfl
  | some m => exact grS_CI (ho m rfl) (h.keep fun j _ => tuS_f9)
theorem bhN_lt {S : CS} {prev : Option Nat} : ∀ (n m : Nat) (b : Option Nat), n + m ≤ 5 → (∀ q, b = some q → q < 5) → ∀ q, bhN S prev n m b = some q → q < 5 := by
  intro n
  induction n with
  | zero => intro m b _ hb; exact hb
  | succ n ih =>
    intro m b hn hb
    unfold bhN
    refine ih (m + 1) _ (by omega) ?_
    split
    · intro q hq; cases hq; omega
    · exact hb
theorem hoS_CI {S : CS} (h : CI S) : CI (hoS S) := by
  unfold hoS
  dsimp only
  exact tmS_CI (fun m e => bhN_lt 5 0 none (by decide) (fun q hq => by cases hq) m e) (h.keep fun j _ => lwS_f9 5 0 _)
theorem hsS_succ {S : CS} : ∀ n, hsS (n + 1) S = hoS (hsS n S) := by
  intro n
  induction n generalizing S with
  | zero => rfl
  | succ n ih => show hsS (n + 1) (hoS S) = _; rw [ih]; rfl
theorem hsS_step {S S2 : CS} {k : Nat} (h : lwS 5 0 (upG (hsS k S) 0 ((hsS k S).1 0 + 1)) = S2) : hsS (k + 1) S = tmS S2 (bhN S2 none 5 0 none) := by
  rw [hsS_succ]
  unfold hoS
  rw [h]
theorem tmS_n {S : CS} : tmS S none = upG (upG S 1 0) 2 ((upG S 1 0).1 2 + 1) := rfl
theorem tmS_s {S : CS} {m : Nat} : tmS S (some m) = grS (tuS (upG S 1 (nI m + 1)) m) m (tof ((upG S 1 (nI m + 1)).2.1 m) (hd (upG S 1 (nI m + 1)) m)) := rfl
theorem hsS_CI {S : CS} (h : CI S) : ∀ n, CI (hsS n S) := by
  intro n
  induction n with
  | zero => exact h
  | succ n ih => rw [hsS_succ]; exact hoS_CI ih
theorem i32_as (x : Int32) : x + 1 - 1 = x := by rw [Int32.add_sub_cancel]
set_option maxHeartbeats 4000000 in
set_option maxRecDepth 100000 in
theorem C_passHours {l : Launch} (hlt : l.stackTraces = false) {im : TI} {rm : TP} {lm : TL} {c : Nat} {S : CS} (hC : isC rm c) (hR : CR c S im) {N : Nat} {x : Int32} (hx : x = nI N) (hN : N < 2 ^ 31) (hI : CI S) : Con l m_X0_passHours 4 0 0 NN [pv (some c), .int (x)] im rm lm (QV (fun im2 => CR c (hsS N S) im2 ∧ fr c im im2) rm lm) noX := by
  have hkc := hC.1
  refine Con.ofN (k := 2) (L0 := [some (pv (some c)), some (.int (x)), none, none]) hlt (by decide +kernel) rfl rfl (by rw [en1 pv_cat, en1 rfl, en0]; exact Nat.le_of_ble_eq_true rfl) (by rw [en1 pv_cat, en1 rfl, en0]; rfl) ?_
  subst hx
  have loop : ∀ (n k : Nat) (imk : TI), k + n = N → CR c (hsS k S) imk → fr c im imk → PW l m_X0_passHours 4 0 0 NN 2 [some (pv (some c)), some (.int (nI N)), some (.int (nI k)), none] [] imk rm lm (QV (fun im2 => CR c (hsS N S) im2 ∧ fr c im im2) rm lm) noX := by
    intro n
    induction n using Nat.strongRecOn with
    | _ n ih =>
      intro k imk hkn hRk hfr
      have hIk := hsS_CI hI k
      refine t_iload2 dX0_passHours_2 ?_
      refine t_iload1 dX0_passHours_3 ?_
      refine pw_icmp_ge 68 dX0_passHours_4 (by decide) (fun zc4 => ?_) (fun zc4 => ?_)
      · refine pw_vret dX0_passHours_68 rfl ?_
        refine ⟨rfl, rfl, rfl, rfl, ?_⟩
        have zk : k = N := by
          have := (nI_leI (by omega) (by omega)).mp zc4
          omega
        subst zk
        exact ⟨hRk, hfr⟩
      · have zk : k < N := by
          rcases Nat.lt_or_ge k N with z | z
          · exact z
          · exact absurd ((nI_leI (a := N) (b := k) (by omega) (by omega)).mpr z) zc4
        have hR1 : CR c (upG (hsS k S) 0 ((hsS k S).1 0 + 1)) (ui imk c 4 (imk c 4 + 1)) := by rw [hRk.1.2.2.2.1]; exact hRk.g0
        refine t_aload0 dX0_passHours_7 ?_
        refine pw_dup dX0_passHours_8 pv_cat ?_
        refine g_geti ft0 fl_X0_21 (j := 4) (by decide) dX0_passHours_9 (by assumption) ?_
        refine pw_iconst (1) dX0_passHours_12 (by decide) ?_
        refine pw_iadd dX0_passHours_13 ?_
        refine g_puti ft0 fl_X0_21 (j := 4) (by decide) ⟨rfl, rfl⟩ dX0_passHours_14 (by assumption) ?_
        refine t_aload0 dX0_passHours_17 ?_
        refine g_callV0V (C_letWaterIn (l := l) hlt hC hR1) rfl ft0 rfl mc_X0_letWaterIn ml_X0_116 mi_X0_letWaterIn ms_X0_letWaterIn in_X0 (okc_X0_letWaterIn (by decide)) dX0_passHours_18 (by assumption) (cat_le (Nat.le_of_ble_eq_true rfl)) (fun zim18 zh18 => ?_)
        obtain ⟨hR2, hf2⟩ := zh18
        generalize hS2 : lwS 5 0 (upG (hsS k S) 0 ((hsS k S).1 0 + 1)) = S2 at hR2
        have hI2 : CI S2 := by rw [← hS2]; exact hIk.keep fun j _ => lwS_f9 5 0 _
        have hho := hsS_step hS2
        have hf3 : fr c im zim18 := hfr.trans ((fr.u (Nat.le_refl _) (by omega)).trans hf2)
        refine t_aload0 dX0_passHours_21 ?_
        refine g_null dX0_passHours_22 ?_
        refine g_callV1P (C_behind (l := l) (prev := none) hlt hC hR2 (fun q hq => by cases hq)) rfl ft0 rfl mc_X0_millBehind ml_X0_119 mi_X0_millBehind ms_X0_millBehind in_X0 (okc_X0_millBehind (by decide)) dX0_passHours_23 (by assumption) (cat_le (Nat.le_of_ble_eq_true rfl)) ?_
        have hlt5 := fun m e => bhN_lt (S := S2) (prev := none) 5 0 none (by decide) (fun q hq => by cases hq) m e
        generalize bhN S2 none 5 0 none = zo at hho hlt5 ⊢
        refine t_astore3 dX0_passHours_26 (by decide) okp_i ?_
        refine t_aload0 dX0_passHours_27 ?_
        refine t_aload3 dX0_passHours_28 ?_
        refine g_callNone (C_numNone (l := l) hlt (fun a ha => by obtain ⟨q, hq, rfl⟩ := gm_some ha; exact ck_of hC (hlt5 q hq))) rfl (by decide) dX0_passHours_29 (cat_le (Nat.le_of_ble_eq_true rfl)) ?_
        refine g_puti ft0 fl_X0_24 (j := 5) (by decide) ⟨rfl, rfl⟩ dX0_passHours_32 (by assumption) ?_
        refine t_aload3 dX0_passHours_35 ?_
        refine pw_ifnonnull 52 dX0_passHours_36 (by decide) (fun zy36 zc36 => ?_) (fun zc36 => ?_)
        · obtain ⟨zm, rfl, rfl⟩ := gm_some zc36
          have zhm := hlt5 zm rfl
          rw [gm_s, nN_s]
          have hR3 : CR c (upG S2 1 (nI zm + 1)) (ui zim18 c 5 (zim18 (mA c zm) 0)) := hR2.g1 (by rw [(hR2.2 zm zhm).1]; exact (i32_as (nI zm)).symm)
          have hI3 : CI (upG S2 1 (nI zm + 1)) := hI2.keep fun _ _ => rfl
          refine t_aload0 dX0_passHours_52 ?_
          refine t_aload3 dX0_passHours_53 ?_
          refine t_aload0 dX0_passHours_54 ?_
          refine t_aload3 dX0_passHours_55 ?_
          refine g_callV1I (C_turn (l := l) hlt hC hR3 zhm) rfl ft0 rfl mc_X0_turn ml_X0_126 mi_X0_turn ms_X0_turn in_X0 (okc_X0_turn (by decide)) dX0_passHours_56 (by assumption) (cat_le (Nat.le_of_ble_eq_true rfl)) (fun zx56 zim56 zh56 => ?_)
          obtain ⟨zx, zr2, zf2⟩ := id zh56
          refine g_callV2V (C_grind (l := l) hlt hC zr2 zhm (hI3.keep fun j _ => tuS_f9)) rfl ft0 rfl mc_X0_grind ml_X0_129 mi_X0_grind ms_X0_grind in_X0 (okc_X0_grind (by decide)) dX0_passHours_59 (by assumption) (cat_le (Nat.le_of_ble_eq_true rfl)) (fun zim59 zh59 => ?_)
          refine t_iinc2 (1) dX0_passHours_62 (by decide) (by decide) okp_i ?_
          refine pw_goto 2 dX0_passHours_65 (by decide) ?_
          obtain ⟨zr, zf⟩ := zh59
          refine PW.sub (s_e (s_e (s_e (s_n s_z)))) ?_
          rw [nI_1 k]
          exact ih (n - 1) (by omega) (k + 1) _ (by omega) (by rw [hho, tmS_s, ← zh56.1]; exact zr) (hf3.trans ((fr.u (Nat.le_refl _) (by omega)).trans (zh56.2.2.trans zf)))
        · obtain rfl := gm_none zc36
          rw [gm_n, nN_n]
          refine t_aload0 dX0_passHours_39 ?_
          refine pw_dup dX0_passHours_40 pv_cat ?_
          refine g_geti ft0 fl_X0_27 (j := 6) (by decide) dX0_passHours_41 (by assumption) ?_
          refine pw_iconst (1) dX0_passHours_44 (by decide) ?_
          refine pw_iadd dX0_passHours_45 ?_
          refine g_puti ft0 fl_X0_27 (j := 6) (by decide) ⟨rfl, rfl⟩ dX0_passHours_46 (by assumption) ?_
          refine pw_goto 62 dX0_passHours_49 (by decide) ?_
          refine t_iinc2 (1) dX0_passHours_62 (by decide) (by decide) okp_i ?_
          refine pw_goto 2 dX0_passHours_65 (by decide) ?_
          refine PW.sub (s_e (s_e (s_e (s_n s_z)))) ?_
          rw [nI_1 k]
          refine ih (n - 1) (by omega) (k + 1) _ (by omega) ?_ (hf3.trans ((fr.u (Nat.le_refl _) (by omega)).trans (fr.u (Nat.le_refl _) (by omega))))
          rw [hho]
          have z1 := hR2.g1 (x := 0) (y := -1) (by decide)
          have z2 := z1.g (j := 2) (x := (upG S2 1 0).1 2 + 1) (by decide) (by decide)
          rw [← z1.1.2.2.2.2.2 6 (by decide) (by decide)] at z2
          rw [tmS_n, ← z1.1.2.2.2.2.2 6 (by decide) (by decide)]
          exact z2
  refine pw_iconst (0) dX0_passHours_0 (by decide) ?_
  refine t_istore2 dX0_passHours_1 (by decide) okp_i ?_
  exact loop N 0 im (by omega) hR fr.rf
