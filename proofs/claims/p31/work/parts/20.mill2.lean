/-! TideMills$Mill: its loops -/
abbrev liC (r : Nat → Int32) (h t : Int32) : Prop := h - h / 12 * 12 < r 5 ∨ r 6 < h - h / 12 * 12 ∨ t ≤ r 4
def liF (r : Nat → Int32) (h t : Int32) : Int32 := if liC r h t then 0 else if r 2 - r 3 < 2 * (t - r 4) then r 2 - r 3 else 2 * (t - r 4)
/-- the first of n places from k on -/
def fdN (p : Nat → Prop) [DecidablePred p] : Nat → Nat → Option Nat
  | 0, _ => none
  | n + 1, k => if p k then some k else fdN p n (k + 1)
/-- the first of n places from k on where p fails, or the place behind -/
def skN (p : Nat → Prop) [DecidablePred p] : Nat → Nat → Nat
  | 0, k => k
  | n + 1, k => if p k then skN p n (k + 1) else k
theorem skN_le (p : Nat → Prop) [DecidablePred p] : ∀ n k, k ≤ skN p n k ∧ skN p n k ≤ k + n := by
  intro n
  induction n with
  | zero => intro k; exact ⟨Nat.le_refl _, Nat.le_refl _⟩
  | succ n ih =>
    intro k
    unfold skN
    split
    · have := ih (k + 1); omega
    · omega
theorem nI6 : (6 : Int32) = nI 6 := rfl
/-- the cells of a mill's rows -/
abbrev inR (a o : Nat) : Prop := a + 1 ≤ o ∧ o ≤ a + 4

set_option maxHeartbeats 4000000 in
set_option maxRecDepth 100000 in
theorem C_letIn {l : Launch} (hlt : l.stackTraces = false) {im : TI} {rm : TP} {lm : TL} {a : Nat} {h t : Int32} (hk : kd a = 2) : Con l m_X2_letIn 2 0 0 NN [pv (some a), .int (h), .int (t)] im rm lm (QI (fun x im2 => x = liF (im a) h t ∧ im2 = if liC (im a) h t then im else ui im a 3 (im a 3 + liF (im a) h t)) rm lm) noX := by
  refine Con.ofN (k := 2) (L0 := [some (pv (some a)), some (.int (h)), some (.int (t)), none, none]) hlt (by decide +kernel) rfl rfl (by rw [en1 pv_cat, en1 rfl, en1 rfl, en0]; exact Nat.le_of_ble_eq_true rfl) (by rw [en1 pv_cat, en1 rfl, en1 rfl, en0]; rfl) ?_
  refine t_iload1 dX2_letIn_0 ?_
  refine pw_bipush (12) dX2_letIn_1 (by decide) ?_
  refine pw_irem dX2_letIn_3 (by decide) ?_
  refine t_istore3 dX2_letIn_4 (by decide) okp_i ?_
  refine t_iload3 dX2_letIn_5 ?_
  refine t_aload0 dX2_letIn_6 ?_
  refine g_geti ft2 fl_X2_21 (j := 5) (by decide) dX2_letIn_7 (by assumption) ?_
  refine pw_icmp_lt 29 dX2_letIn_10 (by decide) (fun zc10 => ?_) (fun zc10 => ?_)
  · refine pw_iconst (0) dX2_letIn_29 (by decide) ?_
    refine pw_iret dX2_letIn_30 rfl ?_
    exact ⟨rfl, rfl, rfl, _, rfl, by rw [liF, if_pos (Or.inl zc10)], by rw [if_pos (Or.inl zc10)]⟩
  · refine t_iload3 dX2_letIn_13 ?_
    refine t_aload0 dX2_letIn_14 ?_
    refine g_geti ft2 fl_X2_24 (j := 6) (by decide) dX2_letIn_15 (by assumption) ?_
    refine pw_icmp_gt 29 dX2_letIn_18 (by decide) (fun zc18 => ?_) (fun zc18 => ?_)
    · refine pw_iconst (0) dX2_letIn_29 (by decide) ?_
      refine pw_iret dX2_letIn_30 rfl ?_
      exact ⟨rfl, rfl, rfl, _, rfl, by rw [liF, if_pos (Or.inr (Or.inl zc18))], by rw [if_pos (Or.inr (Or.inl zc18))]⟩
    · refine t_iload2 dX2_letIn_21 ?_
      refine t_aload0 dX2_letIn_22 ?_
      refine g_geti ft2 fl_X2_18 (j := 4) (by decide) dX2_letIn_23 (by assumption) ?_
      refine pw_icmp_gt 31 dX2_letIn_26 (by decide) (fun zc26 => ?_) (fun zc26 => ?_)
      · refine pw_iconst (2) dX2_letIn_31 (by decide) ?_
        refine t_iload2 dX2_letIn_32 ?_
        refine t_aload0 dX2_letIn_33 ?_
        refine g_geti ft2 fl_X2_18 (j := 4) (by decide) dX2_letIn_34 (by assumption) ?_
        refine pw_isub dX2_letIn_37 ?_
        refine pw_imul dX2_letIn_38 ?_
        refine t_aload0 dX2_letIn_39 ?_
        refine g_geti ft2 fl_X2_9 (j := 2) (by decide) dX2_letIn_40 (by assumption) ?_
        refine t_aload0 dX2_letIn_43 ?_
        refine g_geti ft2 fl_X2_15 (j := 3) (by decide) dX2_letIn_44 (by assumption) ?_
        refine pw_isub dX2_letIn_47 ?_
        refine pw_min ma_min (by decide) dX2_letIn_48 (cat_le (Nat.le_of_ble_eq_true rfl)) ?_
        refine t_istore4 dX2_letIn_51 (by decide) okp_i ?_
        refine t_aload0 dX2_letIn_53 ?_
        refine pw_dup dX2_letIn_54 pv_cat ?_
        refine g_geti ft2 fl_X2_15 (j := 3) (by decide) dX2_letIn_55 (by assumption) ?_
        refine t_iload4 dX2_letIn_58 ?_
        refine pw_iadd dX2_letIn_60 ?_
        refine g_puti ft2 fl_X2_15 (j := 3) (by decide) ⟨rfl, rfl⟩ dX2_letIn_61 (by assumption) ?_
        refine t_iload4 dX2_letIn_64 ?_
        refine pw_iret dX2_letIn_66 rfl ?_
        have hn : ¬ liC (im a) h t := by
          rintro (q | q | q)
          · exact zc10 q
          · exact zc18 q
          · exact absurd zc26 (Int32.not_lt.mpr q)
        exact ⟨rfl, rfl, rfl, _, rfl, by rw [liF, if_neg hn], by rw [if_neg hn, liF, if_neg hn]⟩
      · refine pw_iconst (0) dX2_letIn_29 (by decide) ?_
        refine pw_iret dX2_letIn_30 rfl ?_
        exact ⟨rfl, rfl, rfl, _, rfl, by rw [liF, if_pos (Or.inr (Or.inr (Int32.not_lt.mp zc26)))], by rw [if_pos (Or.inr (Or.inr (Int32.not_lt.mp zc26)))]⟩
set_option maxHeartbeats 4000000 in
set_option maxRecDepth 100000 in
theorem C_placeOf {l : Launch} (hlt : l.stackTraces = false) {im : TI} {rm : TP} {lm : TL} {a c : Nat} {s : Int32} (ha : isM rm a) (hc : im a 11 = nI c) (hc6 : c ≤ 6) : Con l m_X2_placeOf 0 0 0 NN [pv (some a), .int (s)] im rm lm (QP (.int (oI (fdN (fun j => im (a + 1) j = s) c 0))) im rm lm) noX := by
  obtain ⟨hk, ⟨hk1, hk2, hk3, hk4⟩, ⟨ha1, ha2, ha3, ha4⟩, hr1, hr2, hr3, hr4⟩ := id ha
  refine Con.ofN (k := 1) (L0 := [some (pv (some a)), some (.int (s)), none]) hlt (by decide +kernel) rfl rfl (by rw [en1 pv_cat, en1 rfl, en0]; exact Nat.le_of_ble_eq_true rfl) (by rw [en1 pv_cat, en1 rfl, en0]; rfl) ?_
  have loop : ∀ (n k : Nat) (x : Int32), k + n = c → x = nI k → fdN (fun j => im (a + 1) j = s) c 0 = fdN (fun j => im (a + 1) j = s) n k → PW l m_X2_placeOf 0 0 0 NN 2 [some (pv (some a)), some (.int s), some (.int x)] [] im rm lm (QP (.int (oI (fdN (fun j => im (a + 1) j = s) c 0))) im rm lm) noX := by
    intro n
    induction n using Nat.strongRecOn with
    | _ n ih =>
      intro k x hkn hx hf
      subst hx
      refine t_iload2 dX2_placeOf_2 ?_
      refine t_aload0 dX2_placeOf_3 ?_
      refine g_geti ft2 fl_X2_39 (j := 11) (by decide) dX2_placeOf_4 (by assumption) ?_
      refine pw_icmp_ge 34 dX2_placeOf_7 (by decide) (fun zc7 => ?_) (fun zc7 => ?_)
      · refine pw_iconst (-1) dX2_placeOf_34 (by decide) ?_
        refine pw_iret dX2_placeOf_35 rfl ?_
        have h7 := (nI_leI (by omega) (by omega)).mp (hc ▸ zc7)
        have hn : n = 0 := by omega
        subst hn
        exact ⟨rfl, by rw [hf]; rfl, rfl, rfl, rfl⟩
      · refine t_iload2 dX2_placeOf_10 ?_
        refine pw_bipush (6) dX2_placeOf_11 (by decide) ?_
        refine pw_icmp_ge 34 dX2_placeOf_13 (by decide) (fun zc13 => ?_) (fun zc13 => ?_)
        · refine pw_iconst (-1) dX2_placeOf_34 (by decide) ?_
          refine pw_iret dX2_placeOf_35 rfl ?_
          have zh7 : ¬ c ≤ k := fun q => zc7 (hc ▸ (nI_leI (a := c) (b := k) (by omega) (by omega)).mpr q)
          have h13 := (nI_leI (by decide) (by omega)).mp (nI6 ▸ zc13)
          omega
        · refine t_aload0 dX2_placeOf_16 ?_
          refine g_getr ft2 fl_X2_42 (j := 12) (by decide) dX2_placeOf_17 (by assumption) (by assumption) ?_
          refine t_iload2 dX2_placeOf_20 ?_
          refine g_iald dX2_placeOf_21 (by assumption) (by rw [ha1]; exact vin_nI (by have zh13 : ¬ 6 ≤ k := fun q => zc13 (nI6 ▸ (nI_leI (a := 6) (b := k) (by decide) (by omega)).mpr q); omega) (by decide)) ?_
          refine t_iload1 dX2_placeOf_22 ?_
          refine pw_icmp_ne 28 dX2_placeOf_23 (by decide) (fun zc23 => ?_) (fun zc23 => ?_)
          · refine t_iinc2 (1) dX2_placeOf_28 (by decide) (by decide) okp_i ?_
            refine pw_goto 2 dX2_placeOf_31 (by decide) ?_
            obtain ⟨n', rfl⟩ : ∃ n', n = n' + 1 := ⟨n - 1, by have zh7 : ¬ c ≤ k := fun q => zc7 (hc ▸ (nI_leI (a := c) (b := k) (by omega) (by omega)).mpr q); omega⟩
            rw [nI_clamp (by omega)] at zc23
            exact ih n' (by omega) (k + 1) _ (by omega) (nI_1 k) (by rw [hf, fdN, if_neg zc23])
          · refine t_iload2 dX2_placeOf_26 ?_
            refine pw_iret dX2_placeOf_27 rfl ?_
            obtain ⟨n', rfl⟩ : ∃ n', n = n' + 1 := ⟨n - 1, by have zh7 : ¬ c ≤ k := fun q => zc7 (hc ▸ (nI_leI (a := c) (b := k) (by omega) (by omega)).mpr q); omega⟩
            rw [nI_clamp (by omega)] at zc23
            exact ⟨rfl, by rw [hf, fdN, if_pos (by first | exact zc23 | exact Classical.not_not.mp zc23)]; rfl, rfl, rfl, rfl⟩
  refine pw_iconst (0) dX2_placeOf_0 (by decide) ?_
  refine t_istore2 dX2_placeOf_1 (by decide) okp_i ?_
  exact loop c 0 _ (by omega) rfl rfl
set_option maxHeartbeats 4000000 in
set_option maxRecDepth 100000 in
theorem C_moveSack {l : Launch} (hlt : l.stackTraces = false) {im : TI} {rm : TP} {lm : TL} {a f t : Nat} {x y : Int32} (ha : isM rm a) (hx : x = nI f) (hy : y = nI t) (hf : f < 6) (ht : t < 6) : Con l m_X2_moveSack 0 0 0 NN [pv (some a), .int (x), .int (y)] im rm lm (QV (fun im2 => ∀ o p, im2 o p = if inR a o ∧ p = t then im o f else im o p) rm lm) noX := by
  obtain ⟨hk, ⟨hk1, hk2, hk3, hk4⟩, ⟨ha1, ha2, ha3, ha4⟩, hr1, hr2, hr3, hr4⟩ := id ha
  refine Con.ofN (k := 0) (L0 := [some (pv (some a)), some (.int (x)), some (.int (y))]) hlt (by decide +kernel) rfl rfl (by rw [en1 pv_cat, en1 rfl, en1 rfl, en0]; exact Nat.le_of_ble_eq_true rfl) (by rw [en1 pv_cat, en1 rfl, en1 rfl, en0]; rfl) ?_
  subst hx hy
  refine t_iload1 dX2_moveSack_0 ?_
  refine pw_if_lt 20 dX2_moveSack_1 (by decide) (fun zc1 => ?_) (fun zc1 => ?_)
  · refine pw_vret dX2_moveSack_20 rfl ?_
    exact absurd zc1 (nI_pos (by omega))
  · refine t_iload1 dX2_moveSack_4 ?_
    refine pw_bipush (6) dX2_moveSack_5 (by decide) ?_
    refine pw_icmp_ge 20 dX2_moveSack_7 (by decide) (fun zc7 => ?_) (fun zc7 => ?_)
    · refine pw_vret dX2_moveSack_20 rfl ?_
      exact absurd ((nI_leI (a := 6) (b := f) (by decide) (by omega)).mp zc7) (by omega)
    · refine t_iload2 dX2_moveSack_10 ?_
      refine pw_if_lt 20 dX2_moveSack_11 (by decide) (fun zc11 => ?_) (fun zc11 => ?_)
      · refine pw_vret dX2_moveSack_20 rfl ?_
        exact absurd zc11 (nI_pos (by omega))
      · refine t_iload2 dX2_moveSack_14 ?_
        refine pw_bipush (6) dX2_moveSack_15 (by decide) ?_
        refine pw_icmp_lt 21 dX2_moveSack_17 (by decide) (fun zc17 => ?_) (fun zc17 => ?_)
        · refine t_aload0 dX2_moveSack_21 ?_
          refine g_getr ft2 fl_X2_42 (j := 12) (by decide) dX2_moveSack_22 (by assumption) (by assumption) ?_
          refine t_iload2 dX2_moveSack_25 ?_
          refine t_aload0 dX2_moveSack_26 ?_
          refine g_getr ft2 fl_X2_42 (j := 12) (by decide) dX2_moveSack_27 (by assumption) (by assumption) ?_
          refine t_iload1 dX2_moveSack_30 ?_
          refine g_iald dX2_moveSack_31 (by assumption) (by rw [ha1]; exact vin_nI hf (by decide)) ?_
          refine g_iast dX2_moveSack_32 (by assumption) (by rw [ha1]; exact vin_nI ht (by decide)) ?_
          refine t_aload0 dX2_moveSack_33 ?_
          refine g_getr ft2 fl_X2_46 (j := 13) (by decide) dX2_moveSack_34 (by assumption) (by assumption) ?_
          refine t_iload2 dX2_moveSack_37 ?_
          refine t_aload0 dX2_moveSack_38 ?_
          refine g_getr ft2 fl_X2_46 (j := 13) (by decide) dX2_moveSack_39 (by assumption) (by assumption) ?_
          refine t_iload1 dX2_moveSack_42 ?_
          refine g_iald dX2_moveSack_43 (by assumption) (by rw [ha2]; exact vin_nI hf (by decide)) ?_
          refine g_iast dX2_moveSack_44 (by assumption) (by rw [ha2]; exact vin_nI ht (by decide)) ?_
          refine t_aload0 dX2_moveSack_45 ?_
          refine g_getr ft2 fl_X2_49 (j := 14) (by decide) dX2_moveSack_46 (by assumption) (by assumption) ?_
          refine t_iload2 dX2_moveSack_49 ?_
          refine t_aload0 dX2_moveSack_50 ?_
          refine g_getr ft2 fl_X2_49 (j := 14) (by decide) dX2_moveSack_51 (by assumption) (by assumption) ?_
          refine t_iload1 dX2_moveSack_54 ?_
          refine g_iald dX2_moveSack_55 (by assumption) (by rw [ha3]; exact vin_nI hf (by decide)) ?_
          refine g_iast dX2_moveSack_56 (by assumption) (by rw [ha3]; exact vin_nI ht (by decide)) ?_
          refine t_aload0 dX2_moveSack_57 ?_
          refine g_getr ft2 fl_X2_52 (j := 15) (by decide) dX2_moveSack_58 (by assumption) (by assumption) ?_
          refine t_iload2 dX2_moveSack_61 ?_
          refine t_aload0 dX2_moveSack_62 ?_
          refine g_getr ft2 fl_X2_52 (j := 15) (by decide) dX2_moveSack_63 (by assumption) (by assumption) ?_
          refine t_iload1 dX2_moveSack_66 ?_
          refine g_iald dX2_moveSack_67 (by assumption) (by rw [ha4]; exact vin_nI hf (by decide)) ?_
          refine g_iast dX2_moveSack_68 (by assumption) (by rw [ha4]; exact vin_nI ht (by decide)) ?_
          refine pw_vret dX2_moveSack_69 rfl ?_
          refine ⟨rfl, rfl, rfl, rfl, fun o p => ?_⟩
          simp only [nI_clamp (show f < 2 ^ 31 by omega), nI_clamp (show t < 2 ^ 31 by omega), ui_ne (show a + 2 ≠ a + 1 by omega), ui_ne (show a + 3 ≠ a + 1 by omega), ui_ne (show a + 3 ≠ a + 2 by omega), ui_ne (show a + 4 ≠ a + 1 by omega), ui_ne (show a + 4 ≠ a + 2 by omega), ui_ne (show a + 4 ≠ a + 3 by omega)]
          rcases (show o = a + 1 ∨ o = a + 2 ∨ o = a + 3 ∨ o = a + 4 ∨ ¬ inR a o by unfold inR; omega) with rfl | rfl | rfl | rfl | h
          · rw [ui_ne (by omega), ui_ne (by omega), ui_ne (by omega), ui_at]
            by_cases q : p = t <;> simp [q, inR]
          · rw [ui_ne (by omega), ui_ne (by omega), ui_at, ui_ne (by omega)]
            by_cases q : p = t <;> simp [q, inR]
          · rw [ui_ne (by omega), ui_at, ui_ne (by omega), ui_ne (by omega)]
            by_cases q : p = t <;> simp [q, inR]
          · rw [ui_at, ui_ne (by omega), ui_ne (by omega), ui_ne (by omega)]
            by_cases q : p = t <;> simp [q, inR]
          · rw [if_neg (fun z => h z.1)]
            unfold inR at h
            rw [ui_ne (by omega), ui_ne (by omega), ui_ne (by omega), ui_ne (by omega)]
        · refine pw_vret dX2_moveSack_20 rfl ?_
          exact absurd ((nI_ltI (a := t) (b := 6) (by omega) (by decide)).mpr ht) zc17
set_option maxHeartbeats 4000000 in
set_option maxRecDepth 100000 in
theorem C_dropSack {l : Launch} (hlt : l.stackTraces = false) {im : TI} {rm : TP} {lm : TL} {a n p : Nat} {x : Int32} (ha : isM rm a) (hx : x = nI p) (hn : im a 11 = nI n) (hn6 : n ≤ 6) (hp : p < n) : Con l m_X2_dropSack 1 0 0 NN [pv (some a), .int (x)] im rm lm (QV (fun im2 => ∀ o q, im2 o q = if inR a o ∧ p ≤ q ∧ q + 1 < n then im o (q + 1) else if o = a ∧ q = 11 then nI (n - 1) else im o q) rm lm) noX := by
  obtain ⟨hk, ⟨hk1, hk2, hk3, hk4⟩, ⟨ha1, ha2, ha3, ha4⟩, hr1, hr2, hr3, hr4⟩ := id ha
  refine Con.ofN (k := 1) (L0 := [some (pv (some a)), some (.int (x)), none]) hlt (by decide +kernel) rfl rfl (by rw [en1 pv_cat, en1 rfl, en0]; exact Nat.le_of_ble_eq_true rfl) (by rw [en1 pv_cat, en1 rfl, en0]; rfl) ?_
  subst hx
  have loop : ∀ (m k : Nat) (y : Int32) (imk : TI), k + m + 1 = n → p ≤ k → y = nI k → (∀ o q, imk o q = if inR a o ∧ p ≤ q ∧ q < k then im o (q + 1) else im o q) → PW l m_X2_dropSack 1 0 0 NN 11 [some (pv (some a)), some (.int (nI p)), some (.int y)] [] imk rm lm (QV (fun im2 => ∀ o q, im2 o q = if inR a o ∧ p ≤ q ∧ q + 1 < n then im o (q + 1) else if o = a ∧ q = 11 then nI (n - 1) else im o q) rm lm) noX := by
    intro m
    induction m using Nat.strongRecOn with
    | _ m ih =>
      intro k y imk hkn hpk hy hI
      subst hy
      have hc11 : imk a 11 = nI n := by rw [hI, if_neg (fun z => by have := z.1; unfold inR at this; omega), hn]
      refine t_iload2 dX2_dropSack_11 ?_
      refine t_aload0 dX2_dropSack_12 ?_
      refine g_geti ft2 fl_X2_39 (j := 11) (by decide) dX2_dropSack_13 (by assumption) ?_
      refine pw_iconst (1) dX2_dropSack_16 (by decide) ?_
      refine pw_isub dX2_dropSack_17 ?_
      refine pw_icmp_ge 35 dX2_dropSack_18 (by decide) (fun zc18 => ?_) (fun zc18 => ?_)
      · refine t_aload0 dX2_dropSack_35 ?_
        refine pw_dup dX2_dropSack_36 pv_cat ?_
        refine g_geti ft2 fl_X2_39 (j := 11) (by decide) dX2_dropSack_37 (by assumption) ?_
        refine pw_iconst (1) dX2_dropSack_40 (by decide) ?_
        refine pw_isub dX2_dropSack_41 ?_
        refine g_puti ft2 fl_X2_39 (j := 11) (by decide) ⟨rfl, rfl⟩ dX2_dropSack_42 (by assumption) ?_
        refine pw_vret dX2_dropSack_45 rfl ?_
        have zm : m = 0 := by
          rcases Nat.eq_zero_or_pos m with z | z
          · exact z
          · exfalso
            rw [hc11, show n = (n - 1) + 1 by omega, nI_pred] at zc18
            have := (nI_leI (by omega) (by omega)).mp zc18
            omega
        refine ⟨rfl, rfl, rfl, rfl, fun o q => ?_⟩
        rw [ui_ap]
        by_cases ze : o = a ∧ q = 11
        · obtain ⟨rfl, rfl⟩ := ze
          rw [if_pos ⟨rfl, rfl⟩, if_neg (fun z => by have := z.1; unfold inR at this; omega), if_pos ⟨rfl, rfl⟩, hc11, show n = (n - 1) + 1 by omega, nI_pred]
          rfl
        · rw [if_neg ze, if_neg ze, hI o q]
          by_cases zt : inR a o ∧ p ≤ q ∧ q < k
          · rw [if_pos zt, if_pos ⟨zt.1, zt.2.1, by omega⟩]
          · rw [if_neg zt, if_neg (fun z => zt ⟨z.1, z.2.1, by omega⟩)]
      · refine t_aload0 dX2_dropSack_21 ?_
        refine t_iload2 dX2_dropSack_22 ?_
        refine pw_iconst (1) dX2_dropSack_23 (by decide) ?_
        refine pw_iadd dX2_dropSack_24 ?_
        refine t_iload2 dX2_dropSack_25 ?_
        refine g_callV2V (C_moveSack (l := l) hlt (f := k + 1) (t := k) ha (nI_1 k) rfl (by have zm : 0 < m := (Nat.eq_zero_or_pos m).resolve_left (fun z => zc18 (by rw [hc11, show n = k + 1 by omega, nI_pred]; exact (nI_leI (by omega) (by omega)).mpr (Nat.le_refl _))); omega) (by omega)) rfl ft2 rfl mc_X2_moveSack ml_X2_75 mi_X2_moveSack ms_X2_moveSack in_X2 (okc_X2_moveSack (by decide)) dX2_dropSack_26 (by assumption) (cat_le (Nat.le_of_ble_eq_true rfl)) (fun zim26 zh26 => ?_)
        refine t_iinc2 (1) dX2_dropSack_29 (by decide) (by decide) okp_i ?_
        refine pw_goto 11 dX2_dropSack_32 (by decide) ?_
        have zm : 0 < m := by
          rcases Nat.eq_zero_or_pos m with z | z
          · exfalso
            refine zc18 ?_
            rw [hc11, show n = k + 1 by omega, nI_pred]
            exact (nI_leI (by omega) (by omega)).mpr (Nat.le_refl _)
          · exact z
        refine ih (m - 1) (by omega) (k + 1) _ zim26 (by omega) (by omega) (nI_1 k) (fun o q => ?_)
        rw [zh26, hI o (k + 1), hI o q]
        by_cases zr : inR a o
        · by_cases zq : q = k
          · subst zq
            rw [if_pos ⟨zr, rfl⟩, if_neg (by omega), if_pos ⟨zr, by omega, by omega⟩]
          · rw [if_neg (fun z => zq z.2)]
            by_cases zt : p ≤ q ∧ q < k
            · rw [if_pos ⟨zr, zt⟩, if_pos ⟨zr, by omega, by omega⟩]
            · rw [if_neg (fun z => zt z.2), if_neg (fun z => zt ⟨z.2.1, by omega⟩)]
        · rw [if_neg (fun z => zr z.1), if_neg (fun z => zr z.1), if_neg (fun z => zr z.1)]
  refine t_aload0 dX2_dropSack_0 ?_
  refine t_iload1 dX2_dropSack_1 ?_
  refine g_callV1P (C_isPlace (l := l) hlt hk) rfl ft2 rfl mc_X2_isPlace ml_X2_68 mi_X2_isPlace ms_X2_isPlace in_X2 (okc_X2_isPlace (by decide)) dX2_dropSack_2 (by assumption) (cat_le (Nat.le_of_ble_eq_true rfl)) ?_
  refine pw_if_ne 9 dX2_dropSack_5 (by decide) (fun zc5 => ?_) (fun zc5 => ?_)
  · refine t_iload1 dX2_dropSack_9 ?_
    refine t_istore2 dX2_dropSack_10 (by decide) okp_i ?_
    exact loop (n - 1 - p) p _ im (by omega) (Nat.le_refl _) rfl (fun o q => by rw [if_neg (by omega)])
  · refine pw_vret dX2_dropSack_8 rfl ?_
    exact absurd (by rw [if_pos ⟨nI_pos (by omega), by rw [hn]; exact (nI_ltI (by omega) (by omega)).mpr hp, (nI_ltI (b := 6) (by omega) (by decide)).mpr (by omega)⟩]; decide) zc5
set_option maxHeartbeats 4000000 in
set_option maxRecDepth 100000 in
theorem C_placeFor {l : Launch} (hlt : l.stackTraces = false) {im : TI} {rm : TP} {lm : TL} {a c : Nat} {s due : Int32} (ha : isM rm a) (hc : im a 11 = nI c) (hc6 : c ≤ 6) : Con l m_X2_placeFor 0 0 0 NN [pv (some a), .int (s), .int (due)] im rm lm (QP (.int (nI (skN (fun j => im (a + 4) j < due ∨ (im (a + 4) j = due ∧ im (a + 1) j < s)) c 0))) im rm lm) noX := by
  obtain ⟨hk, ⟨hk1, hk2, hk3, hk4⟩, ⟨ha1, ha2, ha3, ha4⟩, hr1, hr2, hr3, hr4⟩ := id ha
  refine Con.ofN (k := 1) (L0 := [some (pv (some a)), some (.int (s)), some (.int (due)), none]) hlt (by decide +kernel) rfl rfl (by rw [en1 pv_cat, en1 rfl, en1 rfl, en0]; exact Nat.le_of_ble_eq_true rfl) (by rw [en1 pv_cat, en1 rfl, en1 rfl, en0]; rfl) ?_
  have loop : ∀ (n k : Nat) (x : Int32), k + n = c → x = nI k → skN (fun j => im (a + 4) j < due ∨ (im (a + 4) j = due ∧ im (a + 1) j < s)) c 0 = skN (fun j => im (a + 4) j < due ∨ (im (a + 4) j = due ∧ im (a + 1) j < s)) n k → PW l m_X2_placeFor 0 0 0 NN 2 [some (pv (some a)), some (.int s), some (.int due), some (.int x)] [] im rm lm (QP (.int (nI (skN (fun j => im (a + 4) j < due ∨ (im (a + 4) j = due ∧ im (a + 1) j < s)) c 0))) im rm lm) noX := by
    intro n
    induction n using Nat.strongRecOn with
    | _ n ih =>
      intro k x hkn hx hf
      subst hx
      refine t_iload3 dX2_placeFor_2 ?_
      refine t_aload0 dX2_placeFor_3 ?_
      refine g_geti ft2 fl_X2_39 (j := 11) (by decide) dX2_placeFor_4 (by assumption) ?_
      refine pw_icmp_ge 52 dX2_placeFor_7 (by decide) (fun zc7 => ?_) (fun zc7 => ?_)
      · refine t_iload3 dX2_placeFor_52 ?_
        refine pw_iret dX2_placeFor_53 rfl ?_
        have zh7 := (nI_leI (by omega) (by omega)).mp (hc ▸ zc7)
        have zn : n = 0 := by omega
        subst zn
        exact ⟨rfl, by rw [hf]; unfold skN; rfl, rfl, rfl, rfl⟩
      · refine t_iload3 dX2_placeFor_10 ?_
        refine pw_bipush (6) dX2_placeFor_11 (by decide) ?_
        refine pw_icmp_ge 52 dX2_placeFor_13 (by decide) (fun zc13 => ?_) (fun zc13 => ?_)
        · refine t_iload3 dX2_placeFor_52 ?_
          refine pw_iret dX2_placeFor_53 rfl ?_
          have zh7 : ¬ c ≤ k := fun q => zc7 (hc ▸ (nI_leI (a := c) (b := k) (by omega) (by omega)).mpr q)
          have zh13 := (nI_leI (by decide) (by omega)).mp (nI6 ▸ zc13)
          omega
        · refine t_aload0 dX2_placeFor_16 ?_
          refine g_getr ft2 fl_X2_52 (j := 15) (by decide) dX2_placeFor_17 (by assumption) (by assumption) ?_
          refine t_iload3 dX2_placeFor_20 ?_
          refine g_iald dX2_placeFor_21 (by assumption) (by rw [ha4]; exact vin_nI (by have zh13 : ¬ 6 ≤ k := fun q => zc13 (nI6 ▸ (nI_leI (a := 6) (b := k) (by decide) (by omega)).mpr q); omega) (by decide)) ?_
          refine t_iload2 dX2_placeFor_22 ?_
          refine pw_icmp_lt 46 dX2_placeFor_23 (by decide) (fun zc23 => ?_) (fun zc23 => ?_)
          · refine t_iinc3 (1) dX2_placeFor_46 (by decide) (by decide) okp_i ?_
            refine pw_goto 2 dX2_placeFor_49 (by decide) ?_
            have zh7 : ¬ c ≤ k := fun q => zc7 (hc ▸ (nI_leI (a := c) (b := k) (by omega) (by omega)).mpr q)
            obtain ⟨n', rfl⟩ : ∃ n', n = n' + 1 := ⟨n - 1, by omega⟩
            rw [nI_clamp (by omega)] at zc23
            exact ih n' (by omega) (k + 1) _ (by omega) (nI_1 k) (by rw [hf, skN, if_pos (Or.inl zc23)])
          · refine t_aload0 dX2_placeFor_26 ?_
            refine g_getr ft2 fl_X2_52 (j := 15) (by decide) dX2_placeFor_27 (by assumption) (by assumption) ?_
            refine t_iload3 dX2_placeFor_30 ?_
            refine g_iald dX2_placeFor_31 (by assumption) (by rw [ha4]; exact vin_nI (by have zh13 : ¬ 6 ≤ k := fun q => zc13 (nI6 ▸ (nI_leI (a := 6) (b := k) (by decide) (by omega)).mpr q); omega) (by decide)) ?_
            refine t_iload2 dX2_placeFor_32 ?_
            refine pw_icmp_ne 52 dX2_placeFor_33 (by decide) (fun zc33 => ?_) (fun zc33 => ?_)
            · refine t_iload3 dX2_placeFor_52 ?_
              refine pw_iret dX2_placeFor_53 rfl ?_
              have zh7 : ¬ c ≤ k := fun q => zc7 (hc ▸ (nI_leI (a := c) (b := k) (by omega) (by omega)).mpr q)
              obtain ⟨n', rfl⟩ : ∃ n', n = n' + 1 := ⟨n - 1, by omega⟩
              rw [nI_clamp (by omega)] at zc23 zc33
              refine ⟨rfl, ?_, rfl, rfl, rfl⟩
              rw [hf, skN, if_neg]
              rintro (z | z)
              · exact zc23 z
              · exact zc33 z.1
            · refine t_aload0 dX2_placeFor_36 ?_
              refine g_getr ft2 fl_X2_42 (j := 12) (by decide) dX2_placeFor_37 (by assumption) (by assumption) ?_
              refine t_iload3 dX2_placeFor_40 ?_
              refine g_iald dX2_placeFor_41 (by assumption) (by rw [ha1]; exact vin_nI (by have zh13 : ¬ 6 ≤ k := fun q => zc13 (nI6 ▸ (nI_leI (a := 6) (b := k) (by decide) (by omega)).mpr q); omega) (by decide)) ?_
              refine t_iload1 dX2_placeFor_42 ?_
              refine pw_icmp_ge 52 dX2_placeFor_43 (by decide) (fun zc43 => ?_) (fun zc43 => ?_)
              · refine t_iload3 dX2_placeFor_52 ?_
                refine pw_iret dX2_placeFor_53 rfl ?_
                have zh7 : ¬ c ≤ k := fun q => zc7 (hc ▸ (nI_leI (a := c) (b := k) (by omega) (by omega)).mpr q)
                obtain ⟨n', rfl⟩ : ∃ n', n = n' + 1 := ⟨n - 1, by omega⟩
                rw [nI_clamp (by omega)] at zc23 zc33
                rw [nI_clamp (by omega)] at zc43
                refine ⟨rfl, ?_, rfl, rfl, rfl⟩
                rw [hf, skN, if_neg]
                rintro (z | z)
                · exact zc23 z
                · exact absurd z.2 (Int32.not_lt.mpr zc43)
              · refine t_iinc3 (1) dX2_placeFor_46 (by decide) (by decide) okp_i ?_
                refine pw_goto 2 dX2_placeFor_49 (by decide) ?_
                have zh7 : ¬ c ≤ k := fun q => zc7 (hc ▸ (nI_leI (a := c) (b := k) (by omega) (by omega)).mpr q)
                obtain ⟨n', rfl⟩ : ∃ n', n = n' + 1 := ⟨n - 1, by omega⟩
                rw [nI_clamp (by omega)] at zc23 zc33 zc43
                exact ih n' (by omega) (k + 1) _ (by omega) (nI_1 k) (by rw [hf, skN, if_pos (Or.inr ⟨Classical.not_not.mp zc33, Int32.not_le.mp zc43⟩)])
  refine pw_iconst (0) dX2_placeFor_0 (by decide) ?_
  refine t_istore3 dX2_placeFor_1 (by decide) okp_i ?_
  exact loop c 0 _ (by omega) rfl rfl
