/-! The order of the mills: by rank, by who goes ahead, by who is chosen -/
theorem ah_irr {S : CS} {a : Nat} : ¬ ahF S a a := fun h => Nat.lt_irrefl _ ((ahF_3 rfl rfl).mp h)
theorem i32_lt_irr {x : Int32} : ¬ x < x := fun h => by rw [Int32.lt_iff_toInt_lt] at h; omega
theorem i32_lt_tr {x y z : Int32} (h : x < y) (g : y < z) : x < z := by rw [Int32.lt_iff_toInt_lt] at *; omega
theorem i32_tri {x y : Int32} (h : ¬ x = y) : x < y ∨ y < x := by
  rcases Int.lt_trichotomy x.toInt y.toInt with e | e | e
  · exact Or.inl (Int32.lt_iff_toInt_lt.mpr e)
  · exact absurd (Int32.toInt_inj.mp e) h
  · exact Or.inr (Int32.lt_iff_toInt_lt.mpr e)
theorem ah_cases {S : CS} {a b : Nat} : ahF S a b ↔ (fdF S a < fdF S b ∨ (fdF S a = fdF S b ∧ (hd S b < hd S a ∨ (hd S a = hd S b ∧ a < b)))) := by
  by_cases h : fdF S a = fdF S b
  · by_cases h2 : hd S a = hd S b
    · rw [ahF_3 h h2]
      exact ⟨fun g => Or.inr ⟨h, Or.inr ⟨h2, g⟩⟩, fun g => g.elim (fun z => absurd z (by rw [h]; exact i32_lt_irr)) (fun z => z.2.elim (fun y => absurd y (by rw [h2]; exact i32_lt_irr)) (fun y => y.2))⟩
    · rw [ahF_2 h h2]
      exact ⟨fun g => Or.inr ⟨h, Or.inl g⟩, fun g => g.elim (fun z => absurd z (by rw [h]; exact i32_lt_irr)) (fun z => z.2.elim id (fun y => absurd y.1 h2))⟩
  · rw [ahF_1 h]
    exact ⟨Or.inl, fun g => g.elim id (fun z => absurd z.1 h)⟩
theorem ah_tr {S : CS} {a b c : Nat} (h : ahF S a b) (g : ahF S b c) : ahF S a c := by
  rw [ah_cases] at *
  rcases h with h | ⟨h1, h⟩ <;> rcases g with g | ⟨g1, g⟩
  · exact Or.inl (i32_lt_tr h g)
  · exact Or.inl (by rw [← g1]; exact h)
  · exact Or.inl (by rw [h1]; exact g)
  · refine Or.inr ⟨h1.trans g1, ?_⟩
    rcases h with h | ⟨h2, h⟩ <;> rcases g with g | ⟨g2, g⟩
    · exact Or.inl (i32_lt_tr g h)
    · exact Or.inl (by rw [← g2]; exact h)
    · exact Or.inl (by rw [h2]; exact g)
    · exact Or.inr ⟨h2.trans g2, by omega⟩
theorem ah_tot {S : CS} {a b : Nat} (h : a ≠ b) : ahF S a b ∨ ahF S b a := by
  rw [ah_cases, ah_cases]
  by_cases h1 : fdF S a = fdF S b
  · by_cases h2 : hd S a = hd S b
    · rcases Nat.lt_or_gt_of_ne h with h3 | h3
      · exact Or.inl (Or.inr ⟨h1, Or.inr ⟨h2, h3⟩⟩)
      · exact Or.inr (Or.inr ⟨h1.symm, Or.inr ⟨h2.symm, h3⟩⟩)
    · rcases i32_tri h2 with h3 | h3
      · exact Or.inr (Or.inr ⟨h1.symm, Or.inl h3⟩)
      · exact Or.inl (Or.inr ⟨h1, Or.inl h3⟩)
  · rcases i32_tri h1 with h3 | h3
    · exact Or.inl (Or.inl h3)
    · exact Or.inr (Or.inl h3)
/-- how many of n from k on -/
noncomputable def ctN (p : Nat → Prop) : Nat → Nat → Nat
  | 0, _ => 0
  | n + 1, k => @ite Nat (p k) (Classical.propDecidable (p k)) 1 0 + ctN p n (k + 1)
theorem ct_t {p : Nat → Prop} {n k : Nat} (h : p k) : ctN p (n + 1) k = 1 + ctN p n (k + 1) := by rw [ctN, if_pos h]
theorem ct_f {p : Nat → Prop} {n k : Nat} (h : ¬ p k) : ctN p (n + 1) k = ctN p n (k + 1) := by rw [ctN, if_neg h, Nat.zero_add]
theorem ct_mono {p q : Nat → Prop} : ∀ n k, (∀ j, k ≤ j → j < k + n → p j → q j) → ctN p n k ≤ ctN q n k := by
  intro n
  induction n with
  | zero => intro k _; exact Nat.le_refl _
  | succ n ih =>
    intro k h
    have g := ih (k + 1) (fun j h1 h2 => h j (by omega) (by omega))
    by_cases hp : p k
    · rw [ct_t hp, ct_t (h k (Nat.le_refl _) (by omega) hp)]; omega
    · rw [ct_f hp]
      by_cases hq : q k
      · rw [ct_t hq]; omega
      · rw [ct_f hq]; exact g
theorem ct_congr {p q : Nat → Prop} (n k : Nat) (h : ∀ j, k ≤ j → j < k + n → (p j ↔ q j)) : ctN p n k = ctN q n k :=
  Nat.le_antisymm (ct_mono n k fun j a b => (h j a b).mp) (ct_mono n k fun j a b => (h j a b).mpr)
theorem ct_or {p : Nat → Prop} {a : Nat} (ha : ¬ p a) : ∀ n k, k ≤ a → a < k + n → ctN (fun j => p j ∨ j = a) n k = ctN p n k + 1 := by
  intro n
  induction n with
  | zero => intro k h1 h2; omega
  | succ n ih =>
    intro k h1 h2
    by_cases e : k = a
    · subst e
      rw [ct_t (Or.inr rfl), ct_f ha, ct_congr (p := fun j => p j ∨ j = k) (q := p) n (k + 1) (fun j h3 _ => ⟨fun z => z.elim id (fun y => by omega), Or.inl⟩)]
      omega
    · have g := ih (k + 1) (by omega) (by omega)
      by_cases hp : p k
      · rw [ct_t (Or.inl hp), ct_t hp, g]; omega
      · rw [ct_f (fun z => z.elim hp e), ct_f hp, g]
theorem ct_le {p : Nat → Prop} : ∀ n k, ctN p n k ≤ n := by
  intro n
  induction n with
  | zero => intro k; exact Nat.le_refl _
  | succ n ih =>
    intro k
    have := ih (k + 1)
    by_cases hp : p k
    · rw [ct_t hp]; omega
    · rw [ct_f hp]; omega
theorem ct_zero {p : Nat → Prop} : ∀ n k, ctN p n k = 0 ↔ ∀ j, k ≤ j → j < k + n → ¬ p j := by
  intro n
  induction n with
  | zero => intro k; exact ⟨fun _ j h1 h2 => by omega, fun _ => rfl⟩
  | succ n ih =>
    intro k
    by_cases hp : p k
    · rw [ct_t hp]
      exact ⟨fun h => by omega, fun h => absurd hp (h k (Nat.le_refl _) (by omega))⟩
    · rw [ct_f hp, ih]
      refine ⟨fun h j h1 h2 => ?_, fun h j h1 h2 => h j (by omega) (by omega)⟩
      by_cases e : j = k
      · rw [e]; exact hp
      · exact h j (by omega) (by omega)
theorem sm_ct {p : Nat → Prop} {g : Nat → Int32} (h1 : ∀ j, p j → g j = 1) (h0 : ∀ j, ¬ p j → g j = 0) : ∀ n k x, smN g n k (nI x) = nI (ctN p n k + x) := by
  intro n
  induction n with
  | zero => intro k x; rw [smN, ctN, Nat.zero_add]
  | succ n ih =>
    intro k x
    rw [smN]
    by_cases hp : p k
    · rw [h1 k hp, nI_1, ih, ct_t hp]
      congr 1
      omega
    · rw [h0 k hp, Int32.add_zero, ih, ct_f hp]
noncomputable def rcN (S : CS) (m : Nat) : Nat := ctN (rnP S m) 5 0
theorem rn_of {S : CS} {m : Nat} (h : rsF S m = 0) : rnS S m = nI (rcN S m) := by
  unfold rnS
  rw [if_pos h]
  exact sm_ct (p := rnP S m) (fun j hj => if_pos hj) (fun j hj => if_neg hj) 5 0 0
theorem rc_or {S : CS} {m : Nat} (hm : m < 5) : ctN (fun j => rnP S m j ∨ j = m) 5 0 = rcN S m + 1 := ct_or (fun z => z.1 rfl) 5 0 (Nat.zero_le _) (by omega)
theorem rc_le {S : CS} {m : Nat} (hm : m < 5) : rcN S m ≤ 4 := by
  have h1 := rc_or (S := S) hm
  have h2 := ct_le (p := fun j => rnP S m j ∨ j = m) 5 0
  omega
/-- who goes ahead has the lower rank -/
theorem rc_lt {S : CS} {a b : Nat} (ha : a < 5) (hA : rsF S a = 0) (h : ahF S a b) : rcN S a < rcN S b := by
  have h1 := rc_or (S := S) ha
  have h2 : ctN (fun j => rnP S a j ∨ j = a) 5 0 ≤ rcN S b := ct_mono 5 0 fun j _ _ hj => by
    rcases hj with hj | rfl
    · refine ⟨fun e => ?_, hj.2.1, ah_tr hj.2.2 h⟩
      subst e
      exact ah_irr (ah_tr hj.2.2 h)
    · exact ⟨fun e => ah_irr (by rw [e] at h; exact h), hA, h⟩
  omega
theorem rc_inj {S : CS} {a b : Nat} (ha : a < 5) (hb : b < 5) (hA : rsF S a = 0) (hB : rsF S b = 0) (h : rcN S a = rcN S b) : a = b := by
  apply Classical.byContradiction
  intro e
  rcases ah_tot (S := S) e with g | g
  · have := rc_lt ha hA g; omega
  · have := rc_lt hb hB g; omega
def cdP (S : CS) (prev : Option Nat) (m : Nat) : Prop := rsF S m = 0 ∧ ∀ q, prev = some q → ahF S q m
theorem bh_spec {S : CS} {prev : Option Nat} : ∀ n k b, (∀ q, b = some q → q < k ∧ cdP S prev q ∧ ∀ m, m < k → m ≠ q → cdP S prev m → ahF S q m) → (b = none → ∀ m, m < k → ¬ cdP S prev m) →
    (∀ q, bhN S prev n k b = some q → q < k + n ∧ cdP S prev q ∧ ∀ m, m < k + n → m ≠ q → cdP S prev m → ahF S q m) ∧ (bhN S prev n k b = none → ∀ m, m < k + n → ¬ cdP S prev m) := by
  intro n
  induction n with
  | zero => intro k b h1 h2; exact ⟨h1, h2⟩
  | succ n ih =>
    intro k b h1 h2
    rw [bhN, show k + (n + 1) = (k + 1) + n by omega]
    refine ih (k + 1) _ (fun q hq => ?_) (fun hq => ?_)
    · split at hq
      · rename_i hc
        cases hq
        refine ⟨by omega, hc.1, fun m hm hne hcm => ?_⟩
        rcases hb : b with _ | q0
        · exact absurd hcm (h2 hb m (by omega))
        · obtain ⟨g1, g2, g3⟩ := h1 q0 hb
          have g4 := hc.2 q0 hb
          by_cases e : m = q0
          · rw [e]; exact g4
          · exact ah_tr g4 (g3 m (by omega) e hcm)
      · rename_i hc
        obtain ⟨g1, g2, g3⟩ := h1 q hq
        refine ⟨by omega, g2, fun m hm hne hcm => ?_⟩
        by_cases e : m = k
        · subst e
          rcases ah_tot (S := S) hne with g | g
          · exact absurd ⟨hcm, fun q1 hq1 => by rw [hq] at hq1; cases hq1; exact g⟩ hc
          · exact g
        · exact g3 m (by omega) hne hcm
    · split at hq
      · cases hq
      · rename_i hc
        intro m hm hcm
        by_cases e : m = k
        · subst e
          exact hc ⟨hcm, fun q1 hq1 => by rw [hq] at hq1; cases hq1⟩
        · exact h2 hq m (by omega) hcm
theorem bh_some {S : CS} {prev : Option Nat} {q : Nat} (h : bhN S prev 5 0 none = some q) : q < 5 ∧ cdP S prev q ∧ ∀ m, m < 5 → m ≠ q → cdP S prev m → ahF S q m := by
  have := (bh_spec (S := S) (prev := prev) 5 0 none (fun _ z => by cases z) (fun _ m hm => by omega)).1 q h
  simpa using this
theorem bh_none {S : CS} {prev : Option Nat} (h : bhN S prev 5 0 none = none) : ∀ m, m < 5 → ¬ cdP S prev m := by
  have := (bh_spec (S := S) (prev := prev) 5 0 none (fun _ z => by cases z) (fun _ m hm => by omega)).2 h
  simpa using this
theorem rk_spec {S : CS} : ∀ k, (∀ e, rkS S k = some e → e < 5 ∧ rsF S e = 0 ∧ rcN S e = k) ∧ (rkS S k = none → ∀ m, m < 5 → rsF S m = 0 → rcN S m < k) := by
  intro k
  induction k with
  | zero =>
    refine ⟨fun e he => ?_, fun he m hm hA => ?_⟩
    · obtain ⟨h1, h2, h3⟩ := bh_some he
      refine ⟨h1, h2.1, (ct_zero 5 0).mpr fun j _ hj hp => ?_⟩
      have := h3 j (by omega) hp.1 ⟨hp.2.1, fun _ z => by cases z⟩
      exact ah_irr (ah_tr this hp.2.2)
    · exact absurd ⟨hA, fun _ z => by cases z⟩ (bh_none he m hm)
  | succ k ih =>
    rcases hk : rkS S k with _ | e
    · refine ⟨fun q hq => ?_, fun _ m hm hA => ?_⟩
      · rw [rkS, hk] at hq; cases hq
      · have := ih.2 hk m hm hA; omega
    · obtain ⟨g1, g2, g3⟩ := ih.1 e hk
      have hs : rkS S (k + 1) = bhN S (some e) 5 0 none := by rw [rkS, hk]
      rw [hs]
      refine ⟨fun q hq => ?_, fun hq m hm hA => ?_⟩
      · obtain ⟨h1, h2, h3⟩ := bh_some hq
        refine ⟨h1, h2.1, ?_⟩
        have he := h2.2 e rfl
        rw [← g3, ← rc_or g1]
        refine ct_congr 5 0 fun j _ hj => ⟨fun hp => ?_, fun hp => ?_⟩
        · by_cases ej : j = e
          · exact Or.inr ej
          · refine Or.inl ⟨ej, hp.2.1, ?_⟩
            rcases ah_tot (S := S) ej with g | g
            · exact g
            · have := h3 j (by omega) hp.1 ⟨hp.2.1, fun q1 z => by cases z; exact g⟩
              exact (ah_irr (ah_tr this hp.2.2)).elim
        · rcases hp with hp | rfl
          · refine ⟨fun z => ?_, hp.2.1, ah_tr hp.2.2 he⟩
            subst z
            exact ah_irr (ah_tr hp.2.2 he)
          · exact ⟨fun z => by rw [z] at he; exact ah_irr he, g2, he⟩
      · have h := bh_none hq m hm
        by_cases em : m = e
        · rw [em, g3]; omega
        · rcases ah_tot (S := S) em with g | g
          · have := rc_lt hm hA g; omega
          · exact absurd ⟨hA, fun q1 z => by cases z; exact g⟩ h
theorem fdN_is {p : Nat → Prop} [DecidablePred p] {n k e : Nat} (h1 : k ≤ e) (h2 : e < k + n) (hp : p e) (hu : ∀ m, k ≤ m → m < k + n → p m → m = e) : fdN p n k = some e := by
  rcases hf : fdN p n k with _ | q
  · exact absurd hp (fdN_none n k hf e h1 h2)
  · obtain ⟨a, b, c⟩ := fdN_some n k q hf
    rw [hu q a b c]
theorem fdN_no {p : Nat → Prop} [DecidablePred p] {n k : Nat} (hu : ∀ m, k ≤ m → m < k + n → ¬ p m) : fdN p n k = none := by
  rcases hf : fdN p n k with _ | q
  · rfl
  · obtain ⟨a, b, c⟩ := fdN_some n k q hf
    exact absurd c (hu q a b)
theorem rn_is {S : CS} {m k : Nat} (hm : m < 5) (hk : k < 2 ^ 31) (h : rnS S m = nI k) : rsF S m = 0 ∧ rcN S m = k := by
  by_cases hA : rsF S m = 0
  · rw [rn_of hA] at h
    exact ⟨hA, (nI_eq (by have := rc_le (S := S) hm; omega) hk).mp h⟩
  · unfold rnS at h
    rw [if_neg hA] at h
    have := nI_pos hk
    rw [← h] at this
    exact absurd (by decide) this
/-- the reference's rank is the class's -/
theorem rkM_eq {S : CS} {k : Nat} (hk : k < 2 ^ 31) : rkM S (nI k) = rkS S k := by
  rcases h : rkS S k with _ | e
  · refine fdN_no fun m _ hm z => ?_
    obtain ⟨h1, h2⟩ := rn_is (by omega) hk z
    have := (rk_spec k).2 h m (by omega) h1
    omega
  · obtain ⟨h1, h2, h3⟩ := (rk_spec k).1 e h
    refine fdN_is (Nat.zero_le _) (by omega) (by rw [rn_of h2, h3]) fun m _ hm z => ?_
    obtain ⟨g1, g2⟩ := rn_is (by omega) hk z
    exact rc_inj (by omega) h1 g1 h2 (g2.trans h3.symm)
theorem rkS_big {S : CS} {k : Nat} (hk : 5 ≤ k) : rkS S k = none := by
  rcases h : rkS S k with _ | e
  · rfl
  · obtain ⟨h1, h2, h3⟩ := (rk_spec k).1 e h
    have := rc_le (S := S) h1
    omega
theorem rk0 {S : CS} : rkM S 0 = bhN S none 5 0 none := rkM_eq (k := 0) (by decide)
theorem ch_eq {S : CS} : chS S = rkM S 0 := by
  unfold chS rkM
  refine fdN_congr 5 0 fun m _ hm => ⟨fun h => ?_, fun h => ?_⟩
  · rw [rn_of h.1, show rcN S m = 0 from (ct_zero 5 0).mpr fun j _ hj hp => h.2 j (by omega) hp.1 hp.2.1 hp.2.2]
    rfl
  · obtain ⟨h1, h2⟩ := rn_is (k := 0) (by omega) (by decide) h
    exact ⟨h1, fun o ho hne hA hP => (ct_zero 5 0).mp h2 o (Nat.zero_le _) (by omega) ⟨hne, hA, hP⟩⟩
