/-! TideMills$Mill: its loops -/
abbrev liC (r : Nat → Int32) (h t : Int32) : Prop := h - h / 12 * 12 < r 5 ∨ r 6 < h - h / 12 * 12 ∨ t ≤ r 4
def liF (r : Nat → Int32) (h t : Int32) : Int32 := if liC r h t then 0 else if r 2 - r 3 < 2 * (t - r 4) then r 2 - r 3 else 2 * (t - r 4)
/-- the first of n places from k on -/
def fdN (p : Nat → Prop) [DecidablePred p] : Nat → Nat → Option Nat
  | 0, _ => none
  | n + 1, k => if p k then some k else fdN p n (k + 1)
/-- the first of n places from k on where p fails, or the place behind -/
def skN (p : Nat → Prop) [DecidablePred p] : Nat → Nat → Nat
  | 0, k => k
  | n + 1, k => if p k then skN p n (k + 1) else k
theorem skN_le (p : Nat → Prop) [DecidablePred p] : ∀ n k, k ≤ skN p n k ∧ skN p n k ≤ k + n := by
  intro n
  induction n with
  | zero => intro k; exact ⟨Nat.le_refl _, Nat.le_refl _⟩
  | succ n ih =>
    intro k
    unfold skN
    split
    · have := ih (k + 1); omega
    · omega
theorem nI6 : (6 : Int32) = nI 6 := rfl
/-- the cells of a mill's rows -/
abbrev inR (a o : Nat) : Prop := a + 1 ≤ o ∧ o ≤ a + 4

set_option maxHeartbeats 4000000 in
set_option maxRecDepth 100000 in
theorem C_letIn {l : Launch} (hlt : l.stackTraces = false) {im : TI} {rm : TP} {lm : TL} {a : Nat} {h t : Int32} (hk : kd a = 2) : Con l m_X2_letIn 2 0 0 NN [pv (some a), .int (h), .int (t)] im rm lm (QI (fun x im2 => x = liF (im a) h t ∧ im2 = if liC (im a) h t then im else ui im a 3 (im a 3 + liF (im a) h t)) rm lm) noX := by
  refine Con.ofN (k := 2) (L0 := [some (pv (some a)), some (.int (h)), some (.int (t)), none, none]) hlt (by decide +kernel) rfl rfl (by rw [en1 pv_cat, en1 rfl, en1 rfl, en0]; exact Nat.le_of_ble_eq_true rfl) (by rw [en1 pv_cat, en1 rfl, en1 rfl, en0]; rfl) ?_
  refine t_iload1 dX2_letIn_0 ?_
  refine pw_bipush (12) dX2_letIn_1 (by decide) ?_
  refine pw_irem dX2_letIn_3 (by decide) ?_
  refine t_istore3 dX2_letIn_4 (by decide) okp_i ?_
  refine t_iload3 dX2_letIn_5 ?_
  refine t_aload0 dX2_letIn_6 ?_
  refine g_geti ft2 fl_X2_21 (j := 5) (by decide) dX2_letIn_7 (by assumption) ?_
  refine pw_icmp_lt 29 dX2_letIn_10 (by decide) (fun zc10 => ?_) (fun zc10 => ?_)
  · refine pw_iconst (0) dX2_letIn_29 (by decide) ?_
    refine pw_iret dX2_letIn_30 rfl ?_
    exact ⟨rfl, rfl, rfl, _, rfl, by rw [liF, if_pos (Or.inl zc10)], by rw [if_pos (Or.inl zc10)]⟩
  · refine t_iload3 dX2_letIn_13 ?_
    refine t_aload0 dX2_letIn_14 ?_
    refine g_geti ft2 fl_X2_24 (j := 6) (by decide) dX2_letIn_15 (by assumption) ?_
    refine pw_icmp_gt 29 dX2_letIn_18 (by decide) (fun zc18 => ?_) (fun zc18 => ?_)
    · refine pw_iconst (0) dX2_letIn_29 (by decide) ?_
      refine pw_iret dX2_letIn_30 rfl ?_
      exact ⟨rfl, rfl, rfl, _, rfl, by rw [liF, if_pos (Or.inr (Or.inl zc18))], by rw [if_pos (Or.inr (Or.inl zc18))]⟩
    · refine t_iload2 dX2_letIn_21 ?_
      refine t_aload0 dX2_letIn_22 ?_
      refine g_geti ft2 fl_X2_18 (j := 4) (by decide) dX2_letIn_23 (by assumption) ?_
      refine pw_icmp_gt 31 dX2_letIn_26 (by decide) (fun zc26 => ?_) (fun zc26 => ?_)
      · refine pw_iconst (2) dX2_letIn_31 (by decide) ?_
        refine t_iload2 dX2_letIn_32 ?_
        refine t_aload0 dX2_letIn_33 ?_
        refine g_geti ft2 fl_X2_18 (j := 4) (by decide) dX2_letIn_34 (by assumption) ?_
        refine pw_isub dX2_letIn_37 ?_
        refine pw_imul dX2_letIn_38 ?_
        refine t_aload0 dX2_letIn_39 ?_
        refine g_geti ft2 fl_X2_9 (j := 2) (by decide) dX2_letIn_40 (by assumption) ?_
        refine t_aload0 dX2_letIn_43 ?_
        refine g_geti ft2 fl_X2_15 (j := 3) (by decide) dX2_letIn_44 (by assumption) ?_
        refine pw_isub dX2_letIn_47 ?_
        refine pw_min ma_min (by decide) dX2_letIn_48 (by decide) ?_
        refine t_istore4 dX2_letIn_51 (by decide) okp_i ?_
        refine t_aload0 dX2_letIn_53 ?_
        refine pw_dup dX2_letIn_54 pv_cat ?_
        refine g_geti ft2 fl_X2_15 (j := 3) (by decide) dX2_letIn_55 (by assumption) ?_
        refine t_iload4 dX2_letIn_58 ?_
        refine pw_iadd dX2_letIn_60 ?_
        refine g_puti ft2 fl_X2_15 (j := 3) (by decide) ⟨rfl, rfl⟩ dX2_letIn_61 (by assumption) ?_
        refine t_iload4 dX2_letIn_64 ?_
        refine pw_iret dX2_letIn_66 rfl ?_
        have hn : ¬ liC (im a) h t := by
          rintro (q | q | q)
          · exact zc10 q
          · exact zc18 q
          · exact absurd zc26 (Int32.not_lt.mpr q)
        exact ⟨rfl, rfl, rfl, _, rfl, by rw [liF, if_neg hn], by rw [if_neg hn, liF, if_neg hn]⟩
      · refine pw_iconst (0) dX2_letIn_29 (by decide) ?_
        refine pw_iret dX2_letIn_30 rfl ?_
        exact ⟨rfl, rfl, rfl, _, rfl, by rw [liF, if_pos (Or.inr (Or.inr (Int32.not_lt.mp zc26)))], by rw [if_pos (Or.inr (Or.inr (Int32.not_lt.mp zc26)))]⟩
set_option maxHeartbeats 4000000 in
set_option maxRecDepth 100000 in
theorem C_placeOf {l : Launch} (hlt : l.stackTraces = false) {im : TI} {rm : TP} {lm : TL} {a c : Nat} {s : Int32} (ha : isM rm a) (hc : im a 11 = nI c) (hc6 : c ≤ 6) : Con l m_X2_placeOf 0 0 0 NN [pv (some a), .int (s)] im rm lm (QP (.int (oI (fdN (fun j => im (a + 1) j = s) c 0))) im rm lm) noX := by
  obtain ⟨hk, ⟨hk1, hk2, hk3, hk4⟩, ⟨ha1, ha2, ha3, ha4⟩, hr1, hr2, hr3, hr4⟩ := id ha
  refine Con.ofN (k := 1) (L0 := [some (pv (some a)), some (.int (s)), none]) hlt (by decide +kernel) rfl rfl (by rw [en1 pv_cat, en1 rfl, en0]; exact Nat.le_of_ble_eq_true rfl) (by rw [en1 pv_cat, en1 rfl, en0]; rfl) ?_
  have loop : ∀ (n k : Nat) (x : Int32), k + n = c → x = nI k → fdN (fun j => im (a + 1) j = s) c 0 = fdN (fun j => im (a + 1) j = s) n k → PW l m_X2_placeOf 0 0 0 NN 2 [some (pv (some a)), some (.int s), some (.int x)] [] im rm lm (QP (.int (oI (fdN (fun j => im (a + 1) j = s) c 0))) im rm lm) noX := by
    intro n
    induction n using Nat.strongRecOn with
    | _ n ih =>
      intro k x hkn hx hf
      subst hx
      refine t_iload2 dX2_placeOf_2 ?_
      refine t_aload0 dX2_placeOf_3 ?_
      refine g_geti ft2 fl_X2_39 (j := 11) (by decide) dX2_placeOf_4 (by assumption) ?_
      refine pw_icmp_ge 34 dX2_placeOf_7 (by decide) (fun zc7 => ?_) (fun zc7 => ?_)
      · refine pw_iconst (-1) dX2_placeOf_34 (by decide) ?_
        refine pw_iret dX2_placeOf_35 rfl ?_
        have h7 := (nI_leI (by omega) (by omega)).mp (hc ▸ zc7)
        have hn : n = 0 := by omega
        subst hn
        exact ⟨rfl, by rw [hf]; rfl, rfl, rfl, rfl⟩
      · refine t_iload2 dX2_placeOf_10 ?_
        refine pw_bipush (6) dX2_placeOf_11 (by decide) ?_
        refine pw_icmp_ge 34 dX2_placeOf_13 (by decide) (fun zc13 => ?_) (fun zc13 => ?_)
        · refine pw_iconst (-1) dX2_placeOf_34 (by decide) ?_
          refine pw_iret dX2_placeOf_35 rfl ?_
          have zh7 : ¬ c ≤ k := fun q => zc7 (hc ▸ (nI_leI (a := c) (b := k) (by omega) (by omega)).mpr q)
          have h13 := (nI_leI (by decide) (by omega)).mp (nI6 ▸ zc13)
          omega
        · refine t_aload0 dX2_placeOf_16 ?_
          refine g_getr ft2 fl_X2_42 (j := 12) (by decide) dX2_placeOf_17 (by assumption) (by assumption) ?_
          refine t_iload2 dX2_placeOf_20 ?_
          refine g_iald dX2_placeOf_21 (by assumption) (by rw [ha1]; exact vin_nI (by have zh13 : ¬ 6 ≤ k := fun q => zc13 (nI6 ▸ (nI_leI (a := 6) (b := k) (by decide) (by omega)).mpr q); omega) (by decide)) ?_
          refine t_iload1 dX2_placeOf_22 ?_
          refine pw_icmp_ne 28 dX2_placeOf_23 (by decide) (fun zc23 => ?_) (fun zc23 => ?_)
          · refine t_iinc2 (1) dX2_placeOf_28 (by decide) (by decide) okp_i ?_
            refine pw_goto 2 dX2_placeOf_31 (by decide) ?_
            obtain ⟨n', rfl⟩ : ∃ n', n = n' + 1 := ⟨n - 1, by have zh7 : ¬ c ≤ k := fun q => zc7 (hc ▸ (nI_leI (a := c) (b := k) (by omega) (by omega)).mpr q); omega⟩
            rw [nI_clamp (by omega)] at zc23
            exact ih n' (by omega) (k + 1) _ (by omega) (nI_1 k) (by rw [hf, fdN, if_neg zc23])
          · refine t_iload2 dX2_placeOf_26 ?_
            refine pw_iret dX2_placeOf_27 rfl ?_
            obtain ⟨n', rfl⟩ : ∃ n', n = n' + 1 := ⟨n - 1, by have zh7 : ¬ c ≤ k := fun q => zc7 (hc ▸ (nI_leI (a := c) (b := k) (by omega) (by omega)).mpr q); omega⟩
            rw [nI_clamp (by omega)] at zc23
            exact ⟨rfl, by rw [hf, fdN, if_pos (by first | exact zc23 | exact Classical.not_not.mp zc23)]; rfl, rfl, rfl, rfl⟩
  refine pw_iconst (0) dX2_placeOf_0 (by decide) ?_
  refine t_istore2 dX2_placeOf_1 (by decide) okp_i ?_
  exact loop c 0 _ (by omega) rfl rfl
set_option maxHeartbeats 4000000 in
set_option maxRecDepth 100000 in
theorem C_moveSack {l : Launch} (hlt : l.stackTraces = false) {im : TI} {rm : TP} {lm : TL} {a f t : Nat} {x y : Int32} (ha : isM rm a) (hx : x = nI f) (hy : y = nI t) (hf : f < 6) (ht : t < 6) : Con l m_X2_moveSack 0 0 0 NN [pv (some a), .int (x), .int (y)] im rm lm (QV (fun im2 => ∀ o p, im2 o p = if inR a o ∧ p = t then im o f else im o p) rm lm) noX := by
  obtain ⟨hk, ⟨hk1, hk2, hk3, hk4⟩, ⟨ha1, ha2, ha3, ha4⟩, hr1, hr2, hr3, hr4⟩ := id ha
  refine Con.ofN (k := 0) (L0 := [some (pv (some a)), some (.int (x)), some (.int (y))]) hlt (by decide +kernel) rfl rfl (by rw [en1 pv_cat, en1 rfl, en1 rfl, en0]; exact Nat.le_of_ble_eq_true rfl) (by rw [en1 pv_cat, en1 rfl, en1 rfl, en0]; rfl) ?_
  subst hx hy
  refine t_iload1 dX2_moveSack_0 ?_
  refine pw_if_lt 20 dX2_moveSack_1 (by decide) (fun zc1 => ?_) (fun zc1 => ?_)
  · refine pw_vret dX2_moveSack_20 rfl ?_
    exact absurd zc1 (nI_pos (by omega))
  · refine t_iload1 dX2_moveSack_4 ?_
    refine pw_bipush (6) dX2_moveSack_5 (by decide) ?_
    refine pw_icmp_ge 20 dX2_moveSack_7 (by decide) (fun zc7 => ?_) (fun zc7 => ?_)
    · refine pw_vret dX2_moveSack_20 rfl ?_
      exact absurd ((nI_leI (a := 6) (b := f) (by decide) (by omega)).mp zc7) (by omega)
    · refine t_iload2 dX2_moveSack_10 ?_
      refine pw_if_lt 20 dX2_moveSack_11 (by decide) (fun zc11 => ?_) (fun zc11 => ?_)
      · refine pw_vret dX2_moveSack_20 rfl ?_
        exact absurd zc11 (nI_pos (by omega))
      · refine t_iload2 dX2_moveSack_14 ?_
        refine pw_bipush (6) dX2_moveSack_15 (by decide) ?_
        refine pw_icmp_lt 21 dX2_moveSack_17 (by decide) (fun zc17 => ?_) (fun zc17 => ?_)
        · refine t_aload0 dX2_moveSack_21 ?_
          refine g_getr ft2 fl_X2_42 (j := 12) (by decide) dX2_moveSack_22 (by assumption) (by assumption) ?_
          refine t_iload2 dX2_moveSack_25 ?_
          refine t_aload0 dX2_moveSack_26 ?_
          refine g_getr ft2 fl_X2_42 (j := 12) (by decide) dX2_moveSack_27 (by assumption) (by assumption) ?_
          refine t_iload1 dX2_moveSack_30 ?_
          refine g_iald dX2_moveSack_31 (by assumption) (by rw [ha1]; exact vin_nI hf (by decide)) ?_
          refine g_iast dX2_moveSack_32 (by assumption) (by rw [ha1]; exact vin_nI ht (by decide)) ?_
          refine t_aload0 dX2_moveSack_33 ?_
          refine g_getr ft2 fl_X2_46 (j := 13) (by decide) dX2_moveSack_34 (by assumption) (by assumption) ?_
          refine t_iload2 dX2_moveSack_37 ?_
          refine t_aload0 dX2_moveSack_38 ?_
          refine g_getr ft2 fl_X2_46 (j := 13) (by decide) dX2_moveSack_39 (by assumption) (by assumption) ?_
          refine t_iload1 dX2_moveSack_42 ?_
          refine g_iald dX2_moveSack_43 (by assumption) (by rw [ha2]; exact vin_nI hf (by decide)) ?_
          refine g_iast dX2_moveSack_44 (by assumption) (by rw [ha2]; exact vin_nI ht (by decide)) ?_
          refine t_aload0 dX2_moveSack_45 ?_
          refine g_getr ft2 fl_X2_49 (j := 14) (by decide) dX2_moveSack_46 (by assumption) (by assumption) ?_
          refine t_iload2 dX2_moveSack_49 ?_
          refine t_aload0 dX2_moveSack_50 ?_
          refine g_getr ft2 fl_X2_49 (j := 14) (by decide) dX2_moveSack_51 (by assumption) (by assumption) ?_
          refine t_iload1 dX2_moveSack_54 ?_
          refine g_iald dX2_moveSack_55 (by assumption) (by rw [ha3]; exact vin_nI hf (by decide)) ?_
          refine g_iast dX2_moveSack_56 (by assumption) (by rw [ha3]; exact vin_nI ht (by decide)) ?_
          refine t_aload0 dX2_moveSack_57 ?_
          refine g_getr ft2 fl_X2_52 (j := 15) (by decide) dX2_moveSack_58 (by assumption) (by assumption) ?_
          refine t_iload2 dX2_moveSack_61 ?_
          refine t_aload0 dX2_moveSack_62 ?_
          refine g_getr ft2 fl_X2_52 (j := 15) (by decide) dX2_moveSack_63 (by assumption) (by assumption) ?_
          refine t_iload1 dX2_moveSack_66 ?_
          refine g_iald dX2_moveSack_67 (by assumption) (by rw [ha4]; exact vin_nI hf (by decide)) ?_
          refine g_iast dX2_moveSack_68 (by assumption) (by rw [ha4]; exact vin_nI ht (by decide)) ?_
          refine pw_vret dX2_moveSack_69 rfl ?_
          refine ⟨rfl, rfl, rfl, rfl, fun o p => ?_⟩
          simp only [nI_clamp (show f < 2 ^ 31 by omega), nI_clamp (show t < 2 ^ 31 by omega), ui_ne (show a + 2 ≠ a + 1 by omega), ui_ne (show a + 3 ≠ a + 1 by omega), ui_ne (show a + 3 ≠ a + 2 by omega), ui_ne (show a + 4 ≠ a + 1 by omega), ui_ne (show a + 4 ≠ a + 2 by omega), ui_ne (show a + 4 ≠ a + 3 by omega)]
          rcases (show o = a + 1 ∨ o = a + 2 ∨ o = a + 3 ∨ o = a + 4 ∨ ¬ inR a o by unfold inR; omega) with rfl | rfl | rfl | rfl | h
          · rw [ui_ne (by omega), ui_ne (by omega), ui_ne (by omega), ui_at]
            by_cases q : p = t <;> simp [q, inR]
          · rw [ui_ne (by omega), ui_ne (by omega), ui_at, ui_ne (by omega)]
            by_cases q : p = t <;> simp [q, inR]
          · rw [ui_ne (by omega), ui_at, ui_ne (by omega), ui_ne (by omega)]
            by_cases q : p = t <;> simp [q, inR]
          · rw [ui_at, ui_ne (by omega), ui_ne (by omega), ui_ne (by omega)]
            by_cases q : p = t <;> simp [q, inR]
          · rw [if_neg (fun z => h z.1)]
            unfold inR at h
            rw [ui_ne (by omega), ui_ne (by omega), ui_ne (by omega), ui_ne (by omega)]
        · refine pw_vret dX2_moveSack_20 rfl ?_
          exact absurd ((nI_ltI (a := t) (b := 6) (by omega) (by decide)).mpr ht) zc17
