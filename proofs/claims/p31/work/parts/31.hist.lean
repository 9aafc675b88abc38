/-! TideMills$History -/
def svL : List Nat := [81, 107, 133, 159, 185, 211]
def crL : List Nat := 1 :: 27 :: 53 :: svL
theorem crL_apt : ∀ a ∈ crL, ∀ b ∈ crL, a ≠ b → apt a b := by decide
theorem svL_cr {a : Nat} (h : a ∈ svL) : a ∈ crL := List.mem_cons_of_mem _ (List.mem_cons_of_mem _ (List.mem_cons_of_mem _ h))
theorem svL_in : ∀ a ∈ svL, 81 ≤ a ∧ a ≤ 211 := by decide
theorem kd79 : kd 79 = 1 := by rw [kd_eq]; decide +kernel
theorem kd80 : kd 80 = 7 := by rw [kd_eq]; decide +kernel
theorem al80 : al 80 = 6 := by rw [al_eq]; decide +kernel
def RC (rm : TP) : Prop := ∀ c ∈ crL, isC rm c
/-- the history: its rows in their order, how many are in use, what they hold -/
def HO (rm : TP) (im : TI) (hs : Nat → Nat) (n : Nat) (T : Nat → CS) : Prop := rm 79 0 = some 80 ∧ im 79 1 = nI n ∧ n ≤ 6 ∧ (∀ i, i < 6 → rm 80 i = some (hs i) ∧ hs i ∈ svL) ∧ (∀ i j, i < 6 → j < 6 → hs i = hs j → i = j) ∧ (∀ i, i < n → CR (hs i) (T i) im) ∧ ∀ i, i < 6 → NB (hs i) im
theorem ur_ne {f : TP} {o k o' : Nat} {v : Option Nat} (h : o' ≠ o) : ur f o k v o' = f o' := by unfold ur; rw [if_neg h]
theorem ur_at {f : TP} {o k p : Nat} {v : Option Nat} : ur f o k v o p = if p = k then v else f o p := by unfold ur; rw [if_pos rfl]; rfl
theorem RC.keep {rm r2 : TP} (h : RC rm) (e : ∀ o, o ≠ 80 → r2 o = rm o) : RC r2 := by
  have key : ∀ c ∈ crL, 80 < c ∨ c + 25 < 80 := by decide
  intro c hc
  have k := key c hc
  obtain ⟨h1, h2, h3, h4⟩ := h c hc
  have hm : ∀ m, m < 5 → r2 (mA c m) = rm (mA c m) := fun m hm => e _ (by unfold mA; omega)
  refine ⟨h1, by rw [e c (by omega)]; exact h2, fun m h5 => ?_, fun m h5 => by rw [hm m h5]; exact h4 m h5⟩
  obtain ⟨g1, g2, g3, g4⟩ := h3 m h5
  exact ⟨g1, g2, g3, by rw [hm m h5]; exact g4⟩
set_option maxHeartbeats 4000000 in
set_option maxRecDepth 100000 in
theorem C_stateAt {l : Launch} (hlt : l.stackTraces = false) {im : TI} {rm : TP} {lm : TL} {i h : Nat} {x : Int32} (hx : x = nI i) (hi : i < 6) (hr : rm 79 0 = some 80) (hh : rm 80 i = some h) : Con l m_X1_stateAt 0 0 0 NN [pv (some 79), .int (x)] im rm lm (QP (pv (some h)) im rm lm) noX := by
  have hkh := kd79
  have hka := kd80
  refine Con.ofN (k := 0) (L0 := [some (pv (some 79)), some (.int (x))]) hlt (by decide +kernel) rfl rfl (by rw [en1 pv_cat, en1 rfl, en0]; exact Nat.le_of_ble_eq_true rfl) (by rw [en1 pv_cat, en1 rfl, en0]; rfl) ?_
  subst hx
  refine t_iload1 dX1_stateAt_0 ?_
  refine pw_if_lt 19 dX1_stateAt_1 (by decide) (fun zc1 => ?_) (fun zc1 => ?_)
  · refine g_null dX1_stateAt_19 ?_
    refine pw_aret dX1_stateAt_20 rfl ?_
    exact absurd zc1 (nI_pos (by omega))
  · refine t_iload1 dX1_stateAt_4 ?_
    refine pw_bipush (6) dX1_stateAt_5 (by decide) ?_
    refine pw_icmp_ge 19 dX1_stateAt_7 (by decide) (fun zc7 => ?_) (fun zc7 => ?_)
    · refine g_null dX1_stateAt_19 ?_
      refine pw_aret dX1_stateAt_20 rfl ?_
      exact absurd ((nI_ltI (b := 6) (by omega) (by decide)).mpr hi) (Int32.not_lt.mpr zc7)
    · refine t_aload0 dX1_stateAt_10 ?_
      refine g_getr ft1 fl_X1_11 (j := 0) (by decide) dX1_stateAt_11 (by assumption) (by assumption) ?_
      refine t_iload1 dX1_stateAt_14 ?_
      refine g_aald dX1_stateAt_15 (by assumption) (by rw [al80]; exact vin_nI (hi) (by decide)) (Eq.trans (congrArg (rm 80) (nI_clamp (by omega))) hh) ?_
      refine pw_goto 20 dX1_stateAt_16 (by decide) ?_
      refine pw_aret dX1_stateAt_20 rfl ?_
      exact ⟨rfl, rfl, rfl, rfl, rfl⟩
set_option maxHeartbeats 4000000 in
set_option maxRecDepth 100000 in
theorem C_dropOldest {l : Launch} (hlt : l.stackTraces = false) {im : TI} {rm : TP} {lm : TL} {hs : Nat → Nat} (hr : rm 79 0 = some 80) (hh : ∀ i, i < 6 → rm 80 i = some (hs i)) (hkc : ∀ i, i < 6 → kd (hs i) = 0) : Con l m_X1_dropOldest 1 0 0 NN [pv (some 79)] im rm lm (QG (fun v i r q => v = none ∧ q = lm ∧ i = ui im 79 1 (im 79 1 - 1) ∧ (∀ o, o ≠ 80 → r o = rm o) ∧ ∀ i, i < 6 → r 80 i = if i < 5 then rm 80 (i + 1) else rm 80 0)) noX := by
  have hkh := kd79
  have hka := kd80
  refine Con.ofN (k := 2) (L0 := [some (pv (some 79)), none, none]) hlt (by decide +kernel) rfl rfl (by rw [en1 pv_cat, en0]; exact Nat.le_of_ble_eq_true rfl) (by rw [en1 pv_cat, en0]; rfl) ?_
  have loop : ∀ (n k : Nat) (rk : TP), n = 6 - k → 1 ≤ k → k ≤ 6 → (∀ o, o ≠ 80 → rk o = rm o) → (∀ i, i < 6 → rk 80 i = if i + 1 < k then rm 80 (i + 1) else rm 80 i) → PW l m_X1_dropOldest 1 0 0 NN 9 [some (pv (some 79)), some (pv (some (hs 0))), some (.int (nI k))] [] im rk lm (QG (fun v i r q => v = none ∧ q = lm ∧ i = ui im 79 1 (im 79 1 - 1) ∧ (∀ o, o ≠ 80 → r o = rm o) ∧ ∀ i, i < 6 → r 80 i = if i < 5 then rm 80 (i + 1) else rm 80 0)) noX := by
    intro n
    induction n using Nat.strongRecOn with
    | _ n ih =>
      intro k rk hn hk1 hk6 hro hrk
      have hrh : rk 79 0 = some 80 := by rw [hro 79 (by decide)]; exact hr
      refine t_iload2 dX1_dropOldest_9 ?_
      refine pw_bipush (6) dX1_dropOldest_10 (by decide) ?_
      refine pw_icmp_ge 35 dX1_dropOldest_12 (by decide) (fun zc12 => ?_) (fun zc12 => ?_)
      · refine t_aload0 dX1_dropOldest_35 ?_
        refine g_getr ft1 fl_X1_11 (j := 0) (by decide) dX1_dropOldest_36 (by first | assumption | exact hkc _ (by assumption) | exact hkc _ (by decide)) (by first | assumption | exact hrh) ?_
        refine pw_iconst (5) dX1_dropOldest_39 (by decide) ?_
        refine t_aload1 dX1_dropOldest_40 ?_
        have hrh2 : ∀ z : TP, True := fun _ => trivial
        refine g_aast dX1_dropOldest_41 (by first | assumption | exact hkc _ (by assumption) | exact hkc _ (by decide)) (by first | assumption | exact hkc _ (by assumption) | exact hkc _ (by decide)) (by rw [al80]; exact vp_in_nI (n := 5) (by decide) (by decide)) ?_
        refine t_aload0 dX1_dropOldest_42 ?_
        refine pw_dup dX1_dropOldest_43 pv_cat ?_
        refine g_geti ft1 fl_X1_17 (j := 1) (by decide) dX1_dropOldest_44 (by first | assumption | exact hkc _ (by assumption) | exact hkc _ (by decide)) ?_
        refine pw_iconst (1) dX1_dropOldest_47 (by decide) ?_
        refine pw_isub dX1_dropOldest_48 ?_
        refine g_puti ft1 fl_X1_17 (j := 1) (by decide) ⟨rfl, rfl⟩ dX1_dropOldest_49 (by first | assumption | exact hkc _ (by assumption) | exact hkc _ (by decide)) ?_
        refine pw_vret dX1_dropOldest_52 rfl ?_
        have zk : k = 6 := by
          have := (nI_leI (a := 6) (b := k) (by decide) (by omega)).mp zc12
          omega
        subst zk
        refine ⟨rfl, rfl, rfl, rfl, fun o ho => by rw [ur_ne ho]; exact hro o ho, fun i hi => ?_⟩
        rw [ur_at, show (5 : Int32).toNatClampNeg = 5 from rfl]
        by_cases e : i = 5
        · subst e
          rw [if_pos rfl, if_neg (by decide)]
          exact (hh 0 (by decide)).symm
        · rw [if_neg (by exact e), hrk i hi, if_pos (by omega), if_pos (by omega)]
      · have zk : k < 6 := by
          rcases Nat.lt_or_ge k 6 with z | z
          · exact z
          · exact absurd ((nI_leI (a := 6) (b := k) (by decide) (by omega)).mpr z) zc12
        refine t_aload0 dX1_dropOldest_15 ?_
        refine g_getr ft1 fl_X1_11 (j := 0) (by decide) dX1_dropOldest_16 (by first | assumption | exact hkc _ (by assumption) | exact hkc _ (by decide)) (by first | assumption | exact hrh) ?_
        refine t_iload2 dX1_dropOldest_19 ?_
        refine pw_iconst (1) dX1_dropOldest_20 (by decide) ?_
        refine pw_isub dX1_dropOldest_21 ?_
        rw [show nI k - 1 = nI (k - 1) by rw [show k = (k - 1) + 1 by omega, nI_pred]; rfl]
        refine t_aload0 dX1_dropOldest_22 ?_
        refine g_getr ft1 fl_X1_11 (j := 0) (by decide) dX1_dropOldest_23 (by first | assumption | exact hkc _ (by assumption) | exact hkc _ (by decide)) (by first | assumption | exact hrh) ?_
        refine t_iload2 dX1_dropOldest_26 ?_
        refine g_aald dX1_dropOldest_27 (by first | assumption | exact hkc _ (by assumption) | exact hkc _ (by decide)) (by rw [al80]; exact vin_nI (zk) (by decide)) (Eq.trans (congrArg (rk 80) (nI_clamp (show k < 2 ^ 31 by omega))) (show rk 80 k = some (hs k) by rw [hrk k zk, if_neg (by omega)]; exact hh k zk)) ?_
        refine g_aast dX1_dropOldest_28 (by first | assumption | exact hkc _ (by assumption) | exact hkc _ (by decide)) (by first | assumption | exact hkc _ (by assumption) | exact hkc _ (by decide)) (by rw [al80]; exact vin_nI (by omega) (by decide)) ?_
        refine t_iinc2 (1) dX1_dropOldest_29 (by decide) (by decide) okp_r ?_
        refine pw_goto 9 dX1_dropOldest_32 (by decide) ?_
        rw [nI_1 k]
        refine ih (n - 1) (by omega) (k + 1) _ (by omega) (by omega) (by omega) (fun o ho => by rw [ur_ne ho]; exact hro o ho) (fun i hi => ?_)
        rw [ur_at, nI_clamp (show k - 1 < 2 ^ 31 by omega)]
        by_cases e : i = k - 1
        · subst e
          rw [if_pos rfl, if_pos (by omega), show k - 1 + 1 = k by omega]
          exact (hh k zk).symm
        · rw [if_neg e, hrk i hi]
          by_cases z : i + 1 < k
          · rw [if_pos z, if_pos (by omega)]
          · rw [if_neg z, if_neg (by omega)]
  refine t_aload0 dX1_dropOldest_0 ?_
  refine g_getr ft1 fl_X1_11 (j := 0) (by decide) dX1_dropOldest_1 (by assumption) (by assumption) ?_
  refine pw_iconst (0) dX1_dropOldest_4 (by decide) ?_
  refine g_aald dX1_dropOldest_5 (by assumption) (by rw [al80]; exact vp_in_nI (n := 0) (by decide) (by decide)) (hh 0 (by decide)) ?_
  refine t_astore1 dX1_dropOldest_6 (by decide) okp_r ?_
  refine pw_iconst (1) dX1_dropOldest_7 (by decide) ?_
  refine t_istore2 dX1_dropOldest_8 (by decide) okp_r ?_
  exact loop 5 1 rm rfl (by decide) (by decide) (fun _ _ => rfl) (fun i hi => by rw [if_neg (by omega)])
