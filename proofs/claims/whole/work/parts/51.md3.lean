/-! TideMillsModel: water, sacks that come and go -/
def EqS (S S2 : CS) : Prop := (∀ j, j < 12 → S.1 j = S2.1 j) ∧ (∀ m w, m < 5 → w < 10 → S.2.1 m w = S2.2.1 m w) ∧ ∀ m p k, m < 5 → p < 6 → k < 4 → S.2.2 m p k = S2.2.2 m p k
theorem MS.ext {i0 im : TI} {S S2 : CS} (h : MS i0 S im) (e : EqS S S2) : MS i0 S2 im :=
  ⟨⟨fun j hj => (h.1.1 j hj).trans (e.1 j hj), fun m w hm hw => (h.1.2.1 m w hm hw).trans (e.2.1 m w hm hw), fun m p k hm hp hk => (h.1.2.2 m p k hm hp hk).trans (e.2.2 m p k hm hp hk)⟩, h.2⟩
theorem MS.eq {i0 im : TI} {S S2 : CS} (h : MS i0 S im) (e : S = S2) : MS i0 S2 im := by subst e; exact h
/-- the tide's step and the sills are small -/
def CB (S : CS) : Prop := (0 ≤ S.1 9 ∧ S.1 9 ≤ 15) ∧ ∀ m, m < 5 → 0 ≤ S.2.1 m 2 ∧ S.2.1 m 2 ≤ 60
theorem ab_bound (h : Int32) : 0 ≤ (ab (6 - (h - h / 12 * 12))).toInt ∧ (ab (6 - (h - h / 12 * 12))).toInt ≤ 17 := by
  have t := rm12 h
  generalize h - h / 12 * 12 = r at t ⊢
  have e : (6 - r).toInt = 6 - r.toInt := by
    rw [Jvm.Kit.i32_sub (by rw [show (6 : Int32).toInt = 6 by decide]; omega) (by rw [show (6 : Int32).toInt = 6 by decide]; omega)]
    rfl
  by_cases h0 : 6 - r < 0
  · rw [ab_n h0]
    rw [Int32.lt_iff_toInt_lt, e] at h0
    rw [show -(6 - r) = 0 - (6 - r) by simp, Jvm.Kit.i32_sub (by rw [e]; show _ ≤ (0 : Int) - _; omega) (by rw [e]; show (0 : Int) - _ < _; omega), e]
    have : (0 : Int32).toInt = 0 := by decide
    rw [this] at h0 ⊢
    omega
  · rw [ab_p h0]
    rw [Int32.lt_iff_toInt_lt, e, show (0 : Int32).toInt = 0 by decide] at h0
    rw [e]
    omega
theorem td_bound {S : CS} (hB : CB S) (h : Int32) : 0 ≤ (tdF S h).toInt ∧ (tdF S h).toInt ≤ 255 := by
  have t := ab_bound h
  obtain ⟨⟨h1, h2⟩, -⟩ := hB
  rw [Int32.le_iff_toInt_le, show (0 : Int32).toInt = 0 by decide] at h1
  rw [Int32.le_iff_toInt_le, show (15 : Int32).toInt = 15 by decide] at h2
  unfold tdF
  generalize ab (6 - (h - h / 12 * 12)) = a at t ⊢
  have p0 : 0 ≤ (S.1 9).toInt * a.toInt := Int.mul_nonneg h1 t.1
  have p1 : (S.1 9).toInt * a.toInt ≤ 15 * 17 := Int.mul_le_mul h2 t.2 t.1 (by decide)
  rw [Jvm.Kit.i32_mul (by omega) (by omega)]
  exact ⟨p0, p1⟩
theorem ov_le {S : CS} {m : Nat} (hB : CB S) (hm : m < 5) (h : Int32) : tdF S h - S.2.1 m 2 ≤ 0 ↔ tdF S h ≤ S.2.1 m 2 := by
  have h1 := td_bound hB h
  obtain ⟨h2, h3⟩ := hB.2 m hm
  rw [Int32.le_iff_toInt_le, show (0 : Int32).toInt = 0 by decide] at h2
  rw [Int32.le_iff_toInt_le, show (60 : Int32).toInt = 60 by decide] at h3
  rw [Int32.le_iff_toInt_le, Int32.le_iff_toInt_le, Jvm.Kit.i32_sub (by omega) (by omega), show (0 : Int32).toInt = 0 by decide]
  omega
theorem liS_0 {S : CS} {m : Nat} (h : clF (S.2.1 m) (S.1 0) (tdF S (S.1 0))) : EqS S (liS S m) := by
  unfold liS lwf
  rw [if_pos h]
  refine ⟨fun j _ => ?_, fun n w _ _ => ?_, fun _ _ _ _ _ _ => rfl⟩
  · show _ = if j = 3 then S.1 3 + 0 else S.1 j
    by_cases e : j = 3
    · rw [if_pos e, e, Int32.add_zero]
    · rw [if_neg e]
  · show _ = if n = m ∧ w = 1 then S.2.1 m 1 + 0 else S.2.1 n w
    by_cases e : n = m ∧ w = 1
    · rw [if_pos e, e.1, e.2, Int32.add_zero]
    · rw [if_neg e]
theorem liS_eq {S : CS} {m : Nat} {x : Int32} (h : lwf (S.2.1 m) (S.1 0) (tdF S (S.1 0)) = x) : liS S m = upG (upF S m 1 (S.2.1 m 1 + x)) 3 ((upF S m 1 (S.2.1 m 1 + x)).1 3 + x) := by subst h; rfl
theorem lwf_a {f : Nat → Int32} {h t : Int32} (h0 : ¬ clF f h t) (h1 : f 0 - f 1 ≤ 2 * (t - f 2)) : lwf f h t = f 0 - f 1 := by
  unfold lwf
  rw [if_neg h0]
  split
  · rfl
  · rename_i h2; exact (Int32.le_antisymm h1 (Int32.not_lt.mp h2)).symm
theorem lwf_b {f : Nat → Int32} {h t : Int32} (h0 : ¬ clF f h t) (h1 : ¬ f 0 - f 1 ≤ 2 * (t - f 2)) : lwf f h t = 2 * (t - f 2) := by
  unfold lwf
  rw [if_neg h0, if_neg (fun z => h1 (Int32.le_of_lt z))]
set_option maxHeartbeats 4000000 in
set_option maxRecDepth 100000 in
theorem M_fill {l : Launch} (hlt : l.stackTraces = false) {im : TI} {rm : TP} {lm : TL} {i0 : TI} {S : CS} (hM : MM rm) (hR : MS i0 S im) (hB : CB S) {m : Nat} (hm : m < 5) : Con l m_X5_fill 1 0 0 NN [pv (some 240), .int (nI m)] im rm lm (QV (fun im2 => MS i0 (liS S m) im2) rm lm) noX := by
  have hk0 := kdM
  have hks := kds
  obtain ⟨r0, r1, r3, r5, r6, r11⟩ := id hM
  refine Con.ofN (k := 3) (L0 := [some (pv (some 240)), some (.int (nI m)), none, none, none]) hlt (by decide +kernel) rfl rfl (by rw [en1 pv_cat, en1 rfl, en0]; exact Nat.le_of_ble_eq_true rfl) (by rw [en1 pv_cat, en1 rfl, en0]; rfl) ?_
  refine t_aload0 dX5_fill_0 ?_
  refine t_aload0 dX5_fill_1 ?_
  refine g_getr ft5 fl_X5_7 (j := 0) (by decide) dX5_fill_2 (by assumption) (by assumption) ?_
  refine pw_iconst (0) dX5_fill_5 (by decide) ?_
  refine m_ldG (j := 0) dX5_fill_6 hR rfl (by decide) ?_
  refine g_callV1P (M_tideIn (l := l) hlt hM hR) rfl ft5 rfl mc_X5_tideIn ml_X5_60 mi_X5_tideIn ms_X5_tideIn in_X5 (okc_X5_tideIn (by decide)) dX5_fill_7 (by assumption) (cat_le (Nat.le_of_ble_eq_true rfl)) ?_
  refine t_aload0 dX5_fill_10 ?_
  refine t_iload1 dX5_fill_11 ?_
  refine pw_iconst (2) dX5_fill_12 (by decide) ?_
  refine g_callV2P (M_of (l := l) hlt hM hR (m := m) (w := 2) hm (by decide)) rfl ft5 rfl mc_X5_of ml_X5_47 mi_X5_of ms_X5_of in_X5 (okc_X5_of (by decide)) dX5_fill_13 (by assumption) (cat_le (Nat.le_of_ble_eq_true rfl)) ?_
  refine pw_isub dX5_fill_16 ?_
  refine t_istore2 dX5_fill_17 (by decide) okp_i ?_
  refine t_iload2 dX5_fill_18 ?_
  refine pw_if_le 98 dX5_fill_19 (by decide) (fun zc19 => ?_) (fun zc19 => ?_)
  · refine pw_vret dX5_fill_98 rfl ?_
    exact ⟨rfl, rfl, rfl, rfl, hR.ext (liS_0 (Or.inr (Or.inr ((ov_le hB hm _).mp zc19))))⟩
  · refine t_aload0 dX5_fill_22 ?_
    refine g_getr ft5 fl_X5_7 (j := 0) (by decide) dX5_fill_23 (by assumption) (by assumption) ?_
    refine pw_iconst (0) dX5_fill_26 (by decide) ?_
    refine m_ldG (j := 0) dX5_fill_27 hR rfl (by decide) ?_
    refine pw_bipush (12) dX5_fill_28 (by decide) ?_
    refine pw_irem dX5_fill_30 (by decide) ?_
    refine t_aload0 dX5_fill_31 ?_
    refine t_iload1 dX5_fill_32 ?_
    refine pw_iconst (3) dX5_fill_33 (by decide) ?_
    refine g_callV2P (M_of (l := l) hlt hM hR (m := m) (w := 3) hm (by decide)) rfl ft5 rfl mc_X5_of ml_X5_47 mi_X5_of ms_X5_of in_X5 (okc_X5_of (by decide)) dX5_fill_34 (by assumption) (cat_le (Nat.le_of_ble_eq_true rfl)) ?_
    refine t_aload0 dX5_fill_37 ?_
    refine t_iload1 dX5_fill_38 ?_
    refine pw_iconst (4) dX5_fill_39 (by decide) ?_
    refine g_callV2P (M_of (l := l) hlt hM hR (m := m) (w := 4) hm (by decide)) rfl ft5 rfl mc_X5_of ml_X5_47 mi_X5_of ms_X5_of in_X5 (okc_X5_of (by decide)) dX5_fill_40 (by assumption) (cat_le (Nat.le_of_ble_eq_true rfl)) ?_
    refine g_callS3P (M_in (l := l) hlt) rfl mc_X5_in ml_X5_36 mi_X5_in in_X5 (okc_X5_in (by decide)) dX5_fill_43 (Nat.zero_le _) ?_
    refine pw_if_eq 98 dX5_fill_46 (by decide) (fun zc46 => ?_) (fun zc46 => ?_)
    · refine pw_vret dX5_fill_98 rfl ?_
      refine ⟨rfl, rfl, rfl, rfl, hR.ext (liS_0 ?_)⟩
      have q := bI_0.mp zc46
      by_cases z1 : S.1 0 - S.1 0 / 12 * 12 < S.2.1 m 3
      · exact Or.inl z1
      · by_cases z2 : S.2.1 m 4 < S.1 0 - S.1 0 / 12 * 12
        · exact Or.inr (Or.inl z2)
        · exact absurd ⟨Int32.not_lt.mp z1, Int32.not_lt.mp z2⟩ q
    · have zc : ¬ clF (S.2.1 m) (S.1 0) (tdF S (S.1 0)) := by
        have q := bI_nz zc46
        rintro (z | z | z)
        · exact Int32.not_lt.mpr q.1 z
        · exact Int32.not_lt.mpr q.2 z
        · exact zc19 ((ov_le hB hm _).mpr z)
      refine t_aload0 dX5_fill_49 ?_
      refine t_iload1 dX5_fill_50 ?_
      refine pw_iconst (0) dX5_fill_51 (by decide) ?_
      refine g_callV2P (M_of (l := l) hlt hM hR (m := m) (w := 0) hm (by decide)) rfl ft5 rfl mc_X5_of ml_X5_47 mi_X5_of ms_X5_of in_X5 (okc_X5_of (by decide)) dX5_fill_52 (by assumption) (cat_le (Nat.le_of_ble_eq_true rfl)) ?_
      refine t_aload0 dX5_fill_55 ?_
      refine t_iload1 dX5_fill_56 ?_
      refine pw_iconst (1) dX5_fill_57 (by decide) ?_
      refine g_callV2P (M_of (l := l) hlt hM hR (m := m) (w := 1) hm (by decide)) rfl ft5 rfl mc_X5_of ml_X5_47 mi_X5_of ms_X5_of in_X5 (okc_X5_of (by decide)) dX5_fill_58 (by assumption) (cat_le (Nat.le_of_ble_eq_true rfl)) ?_
      refine pw_isub dX5_fill_61 ?_
      refine t_istore3 dX5_fill_62 (by decide) okp_i ?_
      refine pw_iconst (2) dX5_fill_63 (by decide) ?_
      refine t_iload2 dX5_fill_64 ?_
      refine pw_imul dX5_fill_65 ?_
      refine t_iload3 dX5_fill_66 ?_
      refine pw_icmp_ge 76 dX5_fill_67 (by decide) (fun zc67 => ?_) (fun zc67 => ?_)
      · refine t_iload3 dX5_fill_76 ?_
        refine t_istore4 dX5_fill_77 (by decide) okp_i ?_
        refine t_aload0 dX5_fill_79 ?_
        refine t_iload1 dX5_fill_80 ?_
        refine pw_iconst (1) dX5_fill_81 (by decide) ?_
        refine t_iload4 dX5_fill_82 ?_
        refine g_callV3V (M_add (l := l) hlt hM hR (m := m) (w := 1) hm (by decide)) rfl ft5 rfl mc_X5_add ml_X5_57 mi_X5_add ms_X5_add in_X5 (okc_X5_add (by decide)) dX5_fill_84 (by assumption) (cat_le (Nat.le_of_ble_eq_true rfl)) (fun zim84 zh84 => ?_)
        have hR := zh84
        refine t_aload0 dX5_fill_87 ?_
        refine g_getr ft5 fl_X5_7 (j := 0) (by decide) dX5_fill_88 (by assumption) (by assumption) ?_
        refine pw_iconst (3) dX5_fill_91 (by decide) ?_
        refine pw_dup2 dX5_fill_92 rfl pv_cat ?_
        refine m_ldG (j := 3) dX5_fill_93 hR rfl (by decide) ?_
        refine t_iload4 dX5_fill_94 ?_
        refine pw_iadd dX5_fill_96 ?_
        refine m_stG (j := 3) dX5_fill_97 hR rfl (by decide) (fun zi97 hR => ?_)
        refine pw_vret dX5_fill_98 rfl ?_
        exact ⟨rfl, rfl, rfl, rfl, hR.eq (liS_eq (lwf_a zc zc67)).symm⟩
      · refine pw_iconst (2) dX5_fill_70 (by decide) ?_
        refine t_iload2 dX5_fill_71 ?_
        refine pw_imul dX5_fill_72 ?_
        refine pw_goto 77 dX5_fill_73 (by decide) ?_
        refine t_istore4 dX5_fill_77 (by decide) okp_i ?_
        refine t_aload0 dX5_fill_79 ?_
        refine t_iload1 dX5_fill_80 ?_
        refine pw_iconst (1) dX5_fill_81 (by decide) ?_
        refine t_iload4 dX5_fill_82 ?_
        refine g_callV3V (M_add (l := l) hlt hM hR (m := m) (w := 1) hm (by decide)) rfl ft5 rfl mc_X5_add ml_X5_57 mi_X5_add ms_X5_add in_X5 (okc_X5_add (by decide)) dX5_fill_84 (by assumption) (cat_le (Nat.le_of_ble_eq_true rfl)) (fun zim84 zh84 => ?_)
        have hR := zh84
        refine t_aload0 dX5_fill_87 ?_
        refine g_getr ft5 fl_X5_7 (j := 0) (by decide) dX5_fill_88 (by assumption) (by assumption) ?_
        refine pw_iconst (3) dX5_fill_91 (by decide) ?_
        refine pw_dup2 dX5_fill_92 rfl pv_cat ?_
        refine m_ldG (j := 3) dX5_fill_93 hR rfl (by decide) ?_
        refine t_iload4 dX5_fill_94 ?_
        refine pw_iadd dX5_fill_96 ?_
        refine m_stG (j := 3) dX5_fill_97 hR rfl (by decide) (fun zi97 hR => ?_)
        refine pw_vret dX5_fill_98 rfl ?_
        exact ⟨rfl, rfl, rfl, rfl, hR.eq (liS_eq (lwf_b zc zc67)).symm⟩
/-- the place of a sack that is put in from behind -/
def bkN (S : CS) (m : Nat) (due s : Int32) : Nat → Nat
  | 0 => 0
  | q + 1 => if cmP S m q due s then bkN S m due s q else q + 1
theorem bkN_le {S : CS} {m : Nat} {due s : Int32} : ∀ n, bkN S m due s n ≤ n := by
  intro n
  induction n with
  | zero => exact Nat.le_refl _
  | succ n ih => unfold bkN; split <;> omega
/-- sacks moved back by one down to the place q, of which k numbers are done -/
def pcS (S : CS) (m n q k : Nat) : CS := (S.1, S.2.1, fun a p j => if a = m ∧ ((q < p ∧ p ≤ n) ∨ (p = q ∧ j < k)) then S.2.2 m (p - 1) j else S.2.2 a p j)
theorem pcS_up {S : CS} {m n q k : Nat} (hq : 0 < q) : EqS (upK (pcS S m n q k) m q k ((pcS S m n q k).2.2 m (q - 1) k)) (pcS S m n q (k + 1)) := by
  refine ⟨fun _ _ => rfl, fun _ _ _ _ => rfl, fun a p j _ _ _ => ?_⟩
  unfold upK pcS
  dsimp only
  by_cases e : a = m ∧ p = q ∧ j = k
  · obtain ⟨rfl, rfl, rfl⟩ := e
    rw [if_pos ⟨rfl, rfl, rfl⟩, if_neg (by omega), if_pos (by omega)]
  · rw [if_neg e]
    by_cases e2 : a = m ∧ ((q < p ∧ p ≤ n) ∨ (p = q ∧ j < k))
    · rw [if_pos e2, if_pos (by omega)]
    · rw [if_neg e2, if_neg (by omega)]
theorem pcS_dn {S : CS} {m n q : Nat} (hq : q + 1 ≤ n) : EqS (pcS S m n (q + 1) 4) (pcS S m n q 0) := by
  refine ⟨fun _ _ => rfl, fun _ _ _ _ => rfl, fun a p j _ _ hj => ?_⟩
  unfold pcS
  dsimp only
  by_cases e2 : a = m ∧ ((q + 1 < p ∧ p ≤ n) ∨ (p = q + 1 ∧ j < 4))
  · rw [if_pos e2, if_pos (by omega)]
  · rw [if_neg e2, if_neg (by omega)]
theorem pcS_0 {S : CS} {m n : Nat} : EqS S (pcS S m n n 0) := by
  refine ⟨fun _ _ => rfl, fun _ _ _ _ => rfl, fun a p j _ _ _ => ?_⟩
  unfold pcS
  dsimp only
  rw [if_neg (by omega)]
theorem cm_pc {S : CS} {m n q : Nat} {due s : Int32} : cmP (pcS S m n (q + 1) 0) m q due s ↔ cmP S m q due s := by
  have e : ∀ j, (pcS S m n (q + 1) 0).2.2 m q j = S.2.2 m q j := fun j => by unfold pcS; dsimp only; rw [if_neg (by omega)]
  unfold cmP
  rw [e, e]
theorem pcS_in {S : CS} {m n q : Nat} {s h r due : Int32} (hq : q ≤ n) (hn : S.2.1 m 9 = nI n) : EqS (upF (upK (upK (upK (upK (pcS S m n q 0) m q 0 s) m q 1 h) m q 2 r) m q 3 due) m 9 (S.2.1 m 9 + 1)) (inS S m n q s h r due) := by
  refine ⟨fun _ _ => rfl, fun a w _ _ => ?_, fun a p j _ _ hj => ?_⟩
  · unfold upF upK pcS inS upM
    dsimp only
    by_cases e1 : a = m
    · subst e1
      by_cases e2 : w = 9
      · rw [if_pos ⟨rfl, e2⟩, if_pos rfl, if_pos e2, hn, nI_1]
      · rw [if_neg (fun z => e2 z.2), if_pos rfl, if_neg e2]
    · rw [if_neg (fun z => e1 z.1), if_neg e1]
  · unfold upF upK pcS inS upM
    dsimp only
    by_cases e1 : a = m
    · subst e1
      rw [if_pos rfl]
      rcases (show j = 0 ∨ j = 1 ∨ j = 2 ∨ j = 3 by omega) with rfl | rfl | rfl | rfl <;>
        (by_cases h1 : p < q
         · simp [h1, Nat.ne_of_lt h1, Nat.not_lt.mpr (Nat.le_of_lt h1)]
         · by_cases h2 : p = q
           · simp [h2]
           · have h3 : q < p := by omega
             by_cases h4 : p ≤ n <;> simp [h1, h2, h3, h4] <;> omega)
    · simp [e1]
set_option maxHeartbeats 4000000 in
set_option maxRecDepth 100000 in
theorem M_insert {l : Launch} (hlt : l.stackTraces = false) {im : TI} {rm : TP} {lm : TL} {i0 : TI} {S : CS} (hM : MM rm) (hR : MS i0 S im) {m n : Nat} {s h r due : Int32} (hm : m < 5) (hn : S.2.1 m 9 = nI n) (hn6 : n < 6) : Con l m_X5_insert 1 0 0 NN [pv (some 240), .int (nI m), .int (s), .int (h), .int (r), .int (due)] im rm lm (QI (fun x im2 => x = nI (bkN S m due s n) ∧ MS i0 (inS S m n (bkN S m due s n) s h r due) im2) rm lm) noX := by
  have hk0 := kdM
  have hks := kds
  obtain ⟨r0, r1, r3, r5, r6, r11⟩ := id hM
  refine Con.ofN (k := 2) (L0 := [some (pv (some 240)), some (.int (nI m)), some (.int (s)), some (.int (h)), some (.int (r)), some (.int (due)), none, none]) hlt (by decide +kernel) rfl rfl (by rw [en1 pv_cat, en1 rfl, en1 rfl, en1 rfl, en1 rfl, en1 rfl, en0]; exact Nat.le_of_ble_eq_true rfl) (by rw [en1 pv_cat, en1 rfl, en1 rfl, en1 rfl, en1 rfl, en1 rfl, en0]; rfl) ?_
  have fin : ∀ (q : Nat) (imk : TI), q ≤ n → MS i0 (pcS S m n q 0) imk → bkN S m due s n = q → PW l m_X5_insert 1 0 0 NN 86 [some (pv (some 240)), some (.int (nI m)), some (.int s), some (.int h), some (.int r), some (.int due), some (.int (nI (q))), none] [] imk rm lm (QI (fun x im2 => x = nI (bkN S m due s n) ∧ MS i0 (inS S m n (bkN S m due s n) s h r due) im2) rm lm) noX := by
    intro q imk hq hR hf
    refine t_aload0 dX5_insert_86 ?_
    refine t_iload1 dX5_insert_87 ?_
    refine t_iload6 dX5_insert_88 ?_
    refine g_callV2P (M_sackRow (l := l) hlt (m := m) (p := q)) rfl ft5 rfl mc_X5_sackRow ml_X5_51 mi_X5_sackRow ms_X5_sackRow in_X5 (okc_X5_sackRow (by decide)) dX5_insert_90 (by assumption) (cat_le (Nat.le_of_ble_eq_true rfl)) ?_
    refine t_istore7 dX5_insert_93 (by decide) okp_i ?_
    refine t_aload0 dX5_insert_95 ?_
    refine g_getr ft5 fl_X5_7 (j := 0) (by decide) dX5_insert_96 (by assumption) (by assumption) ?_
    refine t_iload7 dX5_insert_99 ?_
    refine pw_iconst (0) dX5_insert_101 (by decide) ?_
    refine pw_iadd dX5_insert_102 ?_
    refine t_iload2 dX5_insert_103 ?_
    refine m_stK (m := m) (p := q) (k := 0) dX5_insert_104 hR (nI_add _ 0) hm (by omega) (by decide) (fun zi104 hR => ?_)
    refine t_aload0 dX5_insert_105 ?_
    refine g_getr ft5 fl_X5_7 (j := 0) (by decide) dX5_insert_106 (by assumption) (by assumption) ?_
    refine t_iload7 dX5_insert_109 ?_
    refine pw_iconst (1) dX5_insert_111 (by decide) ?_
    refine pw_iadd dX5_insert_112 ?_
    refine t_iload3 dX5_insert_113 ?_
    refine m_stK (m := m) (p := q) (k := 1) dX5_insert_114 hR (nI_add _ 1) hm (by omega) (by decide) (fun zi114 hR => ?_)
    refine t_aload0 dX5_insert_115 ?_
    refine g_getr ft5 fl_X5_7 (j := 0) (by decide) dX5_insert_116 (by assumption) (by assumption) ?_
    refine t_iload7 dX5_insert_119 ?_
    refine pw_iconst (2) dX5_insert_121 (by decide) ?_
    refine pw_iadd dX5_insert_122 ?_
    refine t_iload4 dX5_insert_123 ?_
    refine m_stK (m := m) (p := q) (k := 2) dX5_insert_125 hR (nI_add _ 2) hm (by omega) (by decide) (fun zi125 hR => ?_)
    refine t_aload0 dX5_insert_126 ?_
    refine g_getr ft5 fl_X5_7 (j := 0) (by decide) dX5_insert_127 (by assumption) (by assumption) ?_
    refine t_iload7 dX5_insert_130 ?_
    refine pw_iconst (3) dX5_insert_132 (by decide) ?_
    refine pw_iadd dX5_insert_133 ?_
    refine t_iload5 dX5_insert_134 ?_
    refine m_stK (m := m) (p := q) (k := 3) dX5_insert_136 hR (nI_add _ 3) hm (by omega) (by decide) (fun zi136 hR => ?_)
    refine t_aload0 dX5_insert_137 ?_
    refine t_iload1 dX5_insert_138 ?_
    refine pw_bipush (9) dX5_insert_139 (by decide) ?_
    refine pw_iconst (1) dX5_insert_141 (by decide) ?_
    refine g_callV3V (M_add (l := l) hlt hM hR (m := m) (w := 9) hm (by decide)) rfl ft5 rfl mc_X5_add ml_X5_57 mi_X5_add ms_X5_add in_X5 (okc_X5_add (by decide)) dX5_insert_142 (by assumption) (cat_le (Nat.le_of_ble_eq_true rfl)) (fun zim142 zh142 => ?_)
    have hR := zh142
    refine t_iload6 dX5_insert_145 ?_
    refine pw_iret dX5_insert_147 rfl ?_
    exact ⟨rfl, rfl, rfl, _, rfl, by rw [hf], by rw [hf]; exact hR.ext (pcS_in hq hn)⟩
  have loop : ∀ (q : Nat) (imk : TI), q ≤ n → MS i0 (pcS S m n q 0) imk → bkN S m due s n = bkN S m due s q → PW l m_X5_insert 1 0 0 NN 9 [some (pv (some 240)), some (.int (nI m)), some (.int s), some (.int h), some (.int r), some (.int due), some (.int (nI (q))), none] [] imk rm lm (QI (fun x im2 => x = nI (bkN S m due s n) ∧ MS i0 (inS S m n (bkN S m due s n) s h r due) im2) rm lm) noX := by
    intro q
    induction q with
    | zero =>
      intro imk hq hR hf
      refine t_iload6 dX5_insert_9 ?_
      refine pw_if_le 86 dX5_insert_11 (by decide) (fun zc11 => ?_) (fun zc11 => ?_)
      · exact fin 0 imk (by omega) hR hf
      · exact absurd (by decide) zc11
    | succ q ihq =>
      intro imk hq hR hf
      refine t_iload6 dX5_insert_9 ?_
      refine pw_if_le 86 dX5_insert_11 (by decide) (fun zc11 => ?_) (fun zc11 => ?_)
      · exact absurd zc11 (nI_nle (Nat.succ_pos _) (by omega))
      · refine t_aload0 dX5_insert_14 ?_
        refine t_iload5 dX5_insert_15 ?_
        refine t_iload2 dX5_insert_17 ?_
        refine t_aload0 dX5_insert_18 ?_
        refine t_iload1 dX5_insert_19 ?_
        refine t_iload6 dX5_insert_20 ?_
        refine pw_iconst (1) dX5_insert_22 (by decide) ?_
        refine pw_isub dX5_insert_23 ?_
        rw [nI_pred]
        refine g_callV2P (M_sackRow (l := l) hlt (m := m) (p := q)) rfl ft5 rfl mc_X5_sackRow ml_X5_51 mi_X5_sackRow ms_X5_sackRow in_X5 (okc_X5_sackRow (by decide)) dX5_insert_24 (by assumption) (cat_le (Nat.le_of_ble_eq_true rfl)) ?_
        refine g_callV3P (M_comes (l := l) hlt hM hR (m := m) (p := q) hm (by omega)) rfl ft5 rfl mc_X5_comesAhead ml_X5_54 mi_X5_comesAhead ms_X5_comesAhead in_X5 (okc_X5_comesAhead (by decide)) dX5_insert_27 (by assumption) (cat_le (Nat.le_of_ble_eq_true rfl)) ?_
        refine pw_if_eq 86 dX5_insert_30 (by decide) (fun zc30 => ?_) (fun zc30 => ?_)
        · exact fin (q + 1) imk hq hR (by rw [hf, bkN, if_neg (fun z => bI_0.mp zc30 (cm_pc.mpr z))])
        · have hcm : cmP S m q due s := cm_pc.mp (bI_nz zc30)
          have inner : ∀ (z j : Nat) (imk : TI), j + z = 4 → MS i0 (pcS S m n (q + 1) j) imk → PW l m_X5_insert 1 0 0 NN 36 [some (pv (some 240)), some (.int (nI m)), some (.int s), some (.int h), some (.int r), some (.int due), some (.int (nI (q + 1))), some (.int (nI j))] [] imk rm lm (QI (fun x im2 => x = nI (bkN S m due s n) ∧ MS i0 (inS S m n (bkN S m due s n) s h r due) im2) rm lm) noX := by
            intro z
            induction z using Nat.strongRecOn with
            | _ z ih =>
              intro j imk hj hR
              refine t_iload7 dX5_insert_36 ?_
              refine pw_iconst (4) dX5_insert_38 (by decide) ?_
              refine pw_icmp_ge 80 dX5_insert_39 (by decide) (fun zc39 => ?_) (fun zc39 => ?_)
              · have zj : 4 ≤ j := (nI_leI (a := 4) (by decide) (by omega)).mp zc39
                have zn : z = 0 := by omega
                subst zn
                refine t_iinc6 (-1) dX5_insert_80 (by decide) (by decide) okp_i ?_
                refine pw_goto 9 dX5_insert_83 (by decide) ?_
                have e4 : j = 4 := by omega
                subst e4
                rw [pk_m1]
                refine PW.sub (L' := [some (pv (some 240)), some (.int (nI m)), some (.int s), some (.int h), some (.int r), some (.int due), some (.int (nI (q))), none]) (s_e (s_e (s_e (s_e (s_e (s_e (s_e (s_n s_z)))))))) ?_
                exact ihq imk (by omega) (hR.ext (pcS_dn (by omega))) (by rw [hf, bkN, if_pos hcm])
              · have zj : j < 4 := (nI_ltI (b := 4) (by omega) (by decide)).mp (Int32.not_le.mp zc39)
                obtain ⟨z', rfl⟩ : ∃ z', z = z' + 1 := ⟨z - 1, by omega⟩
                refine t_aload0 dX5_insert_42 ?_
                refine g_getr ft5 fl_X5_7 (j := 0) (by decide) dX5_insert_43 (by assumption) (by assumption) ?_
                refine t_aload0 dX5_insert_46 ?_
                refine t_iload1 dX5_insert_47 ?_
                refine t_iload6 dX5_insert_48 ?_
                refine g_callV2P (M_sackRow (l := l) hlt (m := m) (p := q + 1)) rfl ft5 rfl mc_X5_sackRow ml_X5_51 mi_X5_sackRow ms_X5_sackRow in_X5 (okc_X5_sackRow (by decide)) dX5_insert_50 (by assumption) (cat_le (Nat.le_of_ble_eq_true rfl)) ?_
                refine t_iload7 dX5_insert_53 ?_
                refine pw_iadd dX5_insert_55 ?_
                refine t_aload0 dX5_insert_56 ?_
                refine g_getr ft5 fl_X5_7 (j := 0) (by decide) dX5_insert_57 (by assumption) (by assumption) ?_
                refine t_aload0 dX5_insert_60 ?_
                refine t_iload1 dX5_insert_61 ?_
                refine t_iload6 dX5_insert_62 ?_
                refine pw_iconst (1) dX5_insert_64 (by decide) ?_
                refine pw_isub dX5_insert_65 ?_
                rw [nI_pred]
                refine g_callV2P (M_sackRow (l := l) hlt (m := m) (p := q)) rfl ft5 rfl mc_X5_sackRow ml_X5_51 mi_X5_sackRow ms_X5_sackRow in_X5 (okc_X5_sackRow (by decide)) dX5_insert_66 (by assumption) (cat_le (Nat.le_of_ble_eq_true rfl)) ?_
                refine t_iload7 dX5_insert_69 ?_
                refine pw_iadd dX5_insert_71 ?_
                refine m_ldK (m := m) (p := q) (k := j) dX5_insert_72 hR (nI_add _ _) hm (by omega) (by omega) ?_
                refine m_stK (m := m) (p := q + 1) (k := j) dX5_insert_73 hR (nI_add _ _) hm (by omega) (by omega) (fun zi73 hR => ?_)
                refine t_iinc7 (1) dX5_insert_74 (by decide) (by decide) okp_i ?_
                refine pw_goto 36 dX5_insert_77 (by decide) ?_
                rw [nI_1]
                exact ih z' (by omega) (j + 1) _ (by omega) (hR.ext (pcS_up (Nat.succ_pos _)))
          refine pw_iconst (0) dX5_insert_33 (by decide) ?_
          refine t_istore7 dX5_insert_34 (by decide) okp_i ?_
          exact inner 4 0 imk rfl hR
  refine t_aload0 dX5_insert_0 ?_
  refine t_iload1 dX5_insert_1 ?_
  refine pw_bipush (9) dX5_insert_2 (by decide) ?_
  refine g_callV2P (M_of (l := l) hlt hM hR (m := m) (w := 9) hm (by decide)) rfl ft5 rfl mc_X5_of ml_X5_47 mi_X5_of ms_X5_of in_X5 (okc_X5_of (by decide)) dX5_insert_4 (by assumption) (cat_le (Nat.le_of_ble_eq_true rfl)) ?_
  refine t_istore6 dX5_insert_7 (by decide) okp_i ?_
  rw [hn]
  exact loop n im (Nat.le_refl _) (hR.ext pcS_0) rfl
/-- sacks moved forward by one from the place p of n, up to the number i -/
def rmS (S : CS) (m p n i : Nat) : CS := (S.1, fun a w => if a = m ∧ w = 9 then nI (n - 1) else S.2.1 a w, fun a q k => if a = m ∧ 4 * p ≤ 4 * q + k ∧ 4 * q + k < i then S.2.2 m (q + 1) k else S.2.2 a q k)
theorem rmS_up {S : CS} {m p n i : Nat} (hp : 4 * p ≤ i) : EqS (upK (rmS S m p n i) m (i / 4) (i % 4) ((rmS S m p n i).2.2 m (i / 4 + 1) (i % 4))) (rmS S m p n (i + 1)) := by
  refine ⟨fun _ _ => rfl, fun _ _ _ _ => rfl, fun a q k _ _ hk => ?_⟩
  unfold upK rmS
  dsimp only
  by_cases e : a = m ∧ q = i / 4 ∧ k = i % 4
  · obtain ⟨rfl, rfl, rfl⟩ := e
    rw [if_pos ⟨rfl, rfl, rfl⟩, if_neg (by omega), if_pos (by omega)]
  · rw [if_neg e]
    by_cases e2 : a = m ∧ 4 * p ≤ 4 * q + k ∧ 4 * q + k < i
    · rw [if_pos e2, if_pos (by omega)]
    · rw [if_neg e2, if_neg (by omega)]
theorem rmS_0 {S : CS} {m p n : Nat} (hn : S.2.1 m 9 = nI (n + 1)) : EqS (upF S m 9 (S.2.1 m 9 + -1)) (rmS S m p (n + 1) (4 * p)) := by
  refine ⟨fun _ _ => rfl, fun a w _ _ => ?_, fun a q k _ _ hk => ?_⟩
  · unfold upF rmS
    dsimp only
    rw [hn, pk_m1]
    rfl
  · unfold upF rmS
    dsimp only
    rw [if_neg (by omega)]
theorem rmS_n {S : CS} {m p n : Nat} : EqS (rmS S m p (n + 1) (4 * n)) (dpS S m p (n + 1)) := by
  refine ⟨fun _ _ => rfl, fun a w _ _ => ?_, fun a q k _ _ hk => ?_⟩
  · unfold dpS rmS upM
    dsimp only
    by_cases e1 : a = m
    · subst e1
      by_cases e2 : w = 9 <;> simp [e2]
    · simp [e1]
  · unfold dpS rmS upM
    dsimp only
    by_cases e1 : a = m
    · subst e1
      by_cases e2 : p ≤ q ∧ q + 1 < n + 1
      · rw [if_pos (by omega), if_pos rfl, if_pos e2]
      · rw [if_neg (by omega), if_pos rfl, if_neg e2]
    · rw [if_neg (fun z => e1 z.1), if_neg e1]
set_option maxHeartbeats 4000000 in
set_option maxRecDepth 100000 in
theorem M_remove {l : Launch} (hlt : l.stackTraces = false) {im : TI} {rm : TP} {lm : TL} {i0 : TI} {S : CS} (hM : MM rm) (hR : MS i0 S im) {m p n : Nat} (hm : m < 5) (hn : S.2.1 m 9 = nI (n + 1)) (hn6 : n < 6) (hp : p ≤ n) : Con l m_X5_remove 1 0 0 NN [pv (some 240), .int (nI m), .int (nI p)] im rm lm (QV (fun im2 => MS i0 (dpS S m p (n + 1)) im2) rm lm) noX := by
  have hk0 := kdM
  have hks := kds
  obtain ⟨r0, r1, r3, r5, r6, r11⟩ := id hM
  refine Con.ofN (k := 1) (L0 := [some (pv (some 240)), some (.int (nI m)), some (.int (nI p)), none]) hlt (by decide +kernel) rfl rfl (by rw [en1 pv_cat, en1 rfl, en1 rfl, en0]; exact Nat.le_of_ble_eq_true rfl) (by rw [en1 pv_cat, en1 rfl, en1 rfl, en0]; rfl) ?_
  have loop : ∀ (z i : Nat) (imk : TI), i + z = 4 * n → 4 * p ≤ i → MS i0 (rmS S m p (n + 1) i) imk → PW l m_X5_remove 1 0 0 NN 15 [some (pv (some 240)), some (.int (nI m)), some (.int (nI p)), some (.int (nI (22 + 34 * m + i)))] [] imk rm lm (QV (fun im2 => MS i0 (dpS S m p (n + 1)) im2) rm lm) noX := by
    intro z
    induction z using Nat.strongRecOn with
    | _ z ih =>
      intro i imk hz hpi hR
      refine t_iload3 dX5_remove_15 ?_
      refine t_aload0 dX5_remove_16 ?_
      refine t_iload1 dX5_remove_17 ?_
      refine t_aload0 dX5_remove_18 ?_
      refine t_iload1 dX5_remove_19 ?_
      refine pw_bipush (9) dX5_remove_20 (by decide) ?_
      refine g_callV2P (M_of (l := l) hlt hM hR (m := m) (w := 9) hm (by decide)) rfl ft5 rfl mc_X5_of ml_X5_47 mi_X5_of ms_X5_of in_X5 (okc_X5_of (by decide)) dX5_remove_22 (by assumption) (cat_le (Nat.le_of_ble_eq_true rfl)) ?_
      rw [show (rmS S m p (n + 1) i).2.1 m 9 = nI n from if_pos ⟨rfl, rfl⟩]
      refine g_callV2P (M_sackRow (l := l) hlt (m := m) (p := n)) rfl ft5 rfl mc_X5_sackRow ml_X5_51 mi_X5_sackRow ms_X5_sackRow in_X5 (okc_X5_sackRow (by decide)) dX5_remove_25 (by assumption) (cat_le (Nat.le_of_ble_eq_true rfl)) ?_
      refine pw_icmp_ge 51 dX5_remove_28 (by decide) (fun zc28 => ?_) (fun zc28 => ?_)
      · have zi : 22 + 34 * m + 4 * n ≤ 22 + 34 * m + i := (nI_leI (by omega) (by omega)).mp zc28
        have ei : i = 4 * n := by omega
        subst ei
        refine pw_vret dX5_remove_51 rfl ?_
        exact ⟨rfl, rfl, rfl, rfl, hR.ext rmS_n⟩
      · have zi : 22 + 34 * m + i < 22 + 34 * m + 4 * n := (nI_ltI (by omega) (by omega)).mp (Int32.not_le.mp zc28)
        refine t_aload0 dX5_remove_31 ?_
        refine g_getr ft5 fl_X5_7 (j := 0) (by decide) dX5_remove_32 (by assumption) (by assumption) ?_
        refine t_iload3 dX5_remove_35 ?_
        refine t_aload0 dX5_remove_36 ?_
        refine g_getr ft5 fl_X5_7 (j := 0) (by decide) dX5_remove_37 (by assumption) (by assumption) ?_
        refine t_iload3 dX5_remove_40 ?_
        refine pw_iconst (4) dX5_remove_41 (by decide) ?_
        refine pw_iadd dX5_remove_42 ?_
        refine m_ldK (m := m) (p := i / 4 + 1) (k := i % 4) dX5_remove_43 hR (by rw [show (4 : Int32) = nI 4 from rfl, nI_add]; congr 1; omega) hm (by omega) (by omega) ?_
        refine m_stK (m := m) (p := i / 4) (k := i % 4) dX5_remove_44 hR (by congr 1; omega) hm (by omega) (by omega) (fun zi44 hR => ?_)
        refine t_iinc3 (1) dX5_remove_45 (by decide) (by decide) okp_i ?_
        refine pw_goto 15 dX5_remove_48 (by decide) ?_
        rw [nI_1]
        exact ih (z - 1) (by omega) (i + 1) _ (by omega) (by omega) (hR.ext (rmS_up hpi))
  refine t_aload0 dX5_remove_0 ?_
  refine t_iload1 dX5_remove_1 ?_
  refine pw_bipush (9) dX5_remove_2 (by decide) ?_
  refine pw_iconst (-1) dX5_remove_4 (by decide) ?_
  refine g_callV3V (M_add (l := l) hlt hM hR (m := m) (w := 9) hm (by decide)) rfl ft5 rfl mc_X5_add ml_X5_57 mi_X5_add ms_X5_add in_X5 (okc_X5_add (by decide)) dX5_remove_5 (by assumption) (cat_le (Nat.le_of_ble_eq_true rfl)) (fun zim5 zh5 => ?_)
  have hR := zh5
  refine t_aload0 dX5_remove_8 ?_
  refine t_iload1 dX5_remove_9 ?_
  refine t_iload2 dX5_remove_10 ?_
  refine g_callV2P (M_sackRow (l := l) hlt (m := m) (p := p)) rfl ft5 rfl mc_X5_sackRow ml_X5_51 mi_X5_sackRow ms_X5_sackRow in_X5 (okc_X5_sackRow (by decide)) dX5_remove_11 (by assumption) (cat_le (Nat.le_of_ble_eq_true rfl)) ?_
  refine t_istore3 dX5_remove_14 (by decide) okp_i ?_
  exact loop (4 * n - 4 * p) (4 * p) _ (by omega) (Nat.le_refl _) (hR.ext (rmS_0 hn))
