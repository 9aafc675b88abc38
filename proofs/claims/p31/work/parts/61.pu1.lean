/-! Both ways of looking for a sack, of adding up rests, of finding a sack's place -/
theorem fdN_min {p : Nat → Prop} [DecidablePred p] : ∀ (n k q : Nat), fdN p n k = some q → ∀ j, k ≤ j → j < q → ¬ p j := by
  intro n
  induction n with
  | zero => intro k q h; cases h
  | succ n ih =>
    intro k q h j h1 h2
    unfold fdN at h
    split at h
    · cases h; omega
    · rename_i hp
      by_cases e : j = k
      · rw [e]; exact hp
      · exact ih (k + 1) q h j (by omega) h2
theorem fdN_fst {p : Nat → Prop} [DecidablePred p] {n k e : Nat} (h1 : k ≤ e) (h2 : e < k + n) (hp : p e) (hu : ∀ m, k ≤ m → m < e → ¬ p m) : fdN p n k = some e := by
  rcases hf : fdN p n k with _ | q
  · exact absurd hp (fdN_none n k hf e h1 h2)
  · obtain ⟨a, b, c⟩ := fdN_some n k q hf
    rcases Nat.lt_trichotomy q e with h | h | h
    · exact absurd c (hu q a h)
    · rw [h]
    · exact absurd hp (fdN_min n k q hf e h1 h)
theorem moS_f {S : CS} {x : Int32} {m : Nat} (h : moS S x = some m) : ∀ j, j < m → poS S j x = none := fun j hj => Classical.not_not.mp (fdN_min 5 0 m h j (Nat.zero_le _) hj)
theorem moS_n {S : CS} {x : Int32} (h : moS S x = none) : ∀ j, j < 5 → poS S j x = none := fun j hj => Classical.not_not.mp (fdN_none 5 0 h j (Nat.zero_le _) (by omega))
theorem poS_n {S : CS} {m : Nat} {x : Int32} (h : poS S m x = none) : ∀ p, p < cnt S m → ¬ S.2.2 m p 0 = x := fun p hp => fdN_none _ 0 h p (Nat.zero_le _) (by omega)
theorem wh_some {S : CS} {x : Int32} {m p : Nat} (hI : CI S) (hm : moS S x = some m) (hp : poS S m x = some p) : whS S x = some (6 * m + p) ∧ m < 5 ∧ p < 6 ∧ p < cnt S m := by
  have m5 := (moS_lt hm).1
  obtain ⟨p1, p6, pk⟩ := poS_lt hI m5 hp
  refine ⟨fdN_fst (Nat.zero_le _) (by omega) ?_ fun j _ hj => ?_, m5, p6, p1⟩
  · rw [show (6 * m + p) % 6 = p by omega, show (6 * m + p) / 6 = m by omega]
    exact ⟨(lt_cnt hI m5 (by omega)).mpr p1, pk⟩
  · rintro ⟨z1, z2⟩
    have z3 := (lt_cnt hI (by omega) (by omega)).mp z1
    rcases Nat.lt_or_ge (j / 6) m with h | h
    · exact poS_n (moS_f hm _ h) _ z3 z2
    · have e : j / 6 = m := by omega
      rw [e] at z2 z3
      exact fdN_min _ 0 p hp (j % 6) (Nat.zero_le _) (by omega) z2
theorem wh_none {S : CS} {x : Int32} (hI : CI S) (hm : moS S x = none) : whS S x = none := by
  refine fdN_no fun j _ hj => ?_
  rintro ⟨z1, z2⟩
  exact poS_n (moS_n hm (j / 6) (by omega)) _ ((lt_cnt hI (by omega) (by omega)).mp z1) z2
theorem mo_po {S : CS} {x : Int32} {m : Nat} (hm : moS S x = some m) : ∃ p, poS S m x = some p := by
  rcases h : poS S m x with _ | p
  · exact absurd h (moS_lt hm).2
  · exact ⟨p, rfl⟩
theorem wh_iff {S : CS} {x : Int32} (hI : CI S) : whS S x = none ↔ ∀ m, m < 5 → poS S m x = none := by
  constructor
  · intro h
    rcases hm : moS S x with _ | m
    · exact moS_n hm
    · obtain ⟨p, hp⟩ := mo_po hm
      rw [(wh_some hI hm hp).1] at h
      cases h
  · intro h
    refine wh_none hI ?_
    rcases hm : moS S x with _ | m
    · rfl
    · exact absurd (h m (moS_lt hm).1) (moS_lt hm).2
theorem smN_add {g : Nat → Int32} : ∀ a b k x, smN g (a + b) k x = smN g b (k + a) (smN g a k x) := by
  intro a
  induction a with
  | zero => intro b k x; rw [Nat.zero_add]; rfl
  | succ a ih => intro b k x; rw [show a + 1 + b = (a + b) + 1 by omega, smN, smN, ih, show k + 1 + a = k + (a + 1) by omega]
theorem smN_congr {g h : Nat → Int32} {k2 : Nat} : ∀ n k x, (∀ j, j < n → g (k + j) = h (k2 + j)) → smN g n k x = smN h n k2 x := by
  intro n
  induction n generalizing k2 with
  | zero => intro k x _; rfl
  | succ n ih =>
    intro k x e
    rw [smN, smN, show g k = h k2 from e 0 (Nat.succ_pos _)]
    exact ih (k + 1) _ fun j hj => by rw [show k + 1 + j = k + (j + 1) by omega, show k2 + 1 + j = k2 + (j + 1) by omega]; exact e (j + 1) (by omega)
theorem smN_0 {g : Nat → Int32} : ∀ n k x, (∀ j, j < n → g (k + j) = 0) → smN g n k x = x := by
  intro n
  induction n with
  | zero => intro k x _; rfl
  | succ n ih =>
    intro k x e
    rw [smN, show g k = 0 from e 0 (Nat.succ_pos _), Int32.add_zero]
    exact ih (k + 1) _ fun j hj => by rw [show k + 1 + j = k + (j + 1) by omega]; exact e (j + 1) (by omega)
theorem rs_six {S : CS} (hI : CI S) {m : Nat} (hm : m < 5) (x : Int32) : smN (rsG S) 6 (6 * m) x = smN (fun p => S.2.2 m p 2) (cnt S m) 0 x := by
  have hc := (hI.c hm).1
  rw [show 6 = cnt S m + (6 - cnt S m) by omega, smN_add, show cnt S m + (6 - cnt S m) = 6 by omega]
  rw [smN_0 (6 - cnt S m)]
  · refine smN_congr _ _ _ fun j hj => ?_
    unfold rsG
    rw [show (6 * m + j) / 6 = m by omega, show (6 * m + j) % 6 = j by omega, if_pos hj, Nat.zero_add]
  · intro j hj
    unfold rsG
    rw [show (6 * m + cnt S m + j) / 6 = m by omega, show (6 * m + cnt S m + j) % 6 = cnt S m + j by omega, if_neg (by omega)]
theorem rm_rt {S : CS} (hI : CI S) : rmT S = rtS S := by
  unfold rmT rtS
  rw [show 30 = 6 + 24 from rfl, smN_add, show 24 = 6 + 18 from rfl, smN_add, show 18 = 6 + 12 from rfl, smN_add, show 12 = 6 + 6 from rfl, smN_add]
  rw [rtN, rtN, rtN, rtN, rtN, rtN]
  have h0 := rs_six hI (m := 0) (by decide)
  have h1 := rs_six hI (m := 1) (by decide)
  have h2 := rs_six hI (m := 2) (by decide)
  have h3 := rs_six hI (m := 3) (by decide)
  have h4 := rs_six hI (m := 4) (by decide)
  rw [← h0, ← h1, ← h2, ← h3, ← h4]
/-! sacks in order -/
def ltk (a s b t : Int32) : Prop := a < b ∨ (a = b ∧ s < t)
theorem ltk_tr {a s b t c u : Int32} (h : ltk a s b t) (g : ltk b t c u) : ltk a s c u := by
  rcases h with h | ⟨rfl, h⟩ <;> rcases g with g | ⟨rfl, g⟩
  · exact Or.inl (i32_lt_tr h g)
  · exact Or.inl h
  · exact Or.inl g
  · exact Or.inr ⟨rfl, i32_lt_tr h g⟩
theorem ltk_irr {a s : Int32} : ¬ ltk a s a s := fun h => h.elim i32_lt_irr (fun z => i32_lt_irr z.2)
theorem ltk_tot {a s b t : Int32} (h : s ≠ t) : ltk a s b t ∨ ltk b t a s := by
  by_cases e : a = b
  · rcases i32_tri h with g | g
    · exact Or.inl (Or.inr ⟨e, g⟩)
    · exact Or.inr (Or.inr ⟨e.symm, g⟩)
  · rcases i32_tri e with g | g
    · exact Or.inl (Or.inl g)
    · exact Or.inr (Or.inl g)
def SOm (S : CS) (m : Nat) : Prop := ∀ p, p + 1 < cnt S m → ltk (S.2.2 m p 3) (S.2.2 m p 0) (S.2.2 m (p + 1) 3) (S.2.2 m (p + 1) 0)
theorem SOm.lt {S : CS} {m : Nat} (h : SOm S m) : ∀ d p, p + d + 1 < cnt S m → ltk (S.2.2 m p 3) (S.2.2 m p 0) (S.2.2 m (p + d + 1) 3) (S.2.2 m (p + d + 1) 0) := by
  intro d
  induction d with
  | zero => intro p hp; exact h p hp
  | succ d ih => intro p hp; exact ltk_tr (ih p (by omega)) (h (p + d + 1) (by omega))
theorem SOm.ltn {S : CS} {m i j : Nat} (h : SOm S m) (hij : i < j) (hj : j < cnt S m) : ltk (S.2.2 m i 3) (S.2.2 m i 0) (S.2.2 m j 3) (S.2.2 m j 0) := by
  have := h.lt (j - i - 1) i (by omega)
  rw [show i + (j - i - 1) + 1 = j by omega] at this
  exact this
theorem skN_spec {p : Nat → Prop} [DecidablePred p] : ∀ n k, (∀ i, k ≤ i → i < skN p n k → p i) ∧ (skN p n k = k + n ∨ ¬ p (skN p n k)) := by
  intro n
  induction n with
  | zero => intro k; exact ⟨fun i h1 h2 => absurd h2 (by show ¬ i < k; omega), Or.inl rfl⟩
  | succ n ih =>
    intro k
    unfold skN
    split
    · rename_i hp
      obtain ⟨h1, h2⟩ := ih (k + 1)
      refine ⟨fun i a b => ?_, h2.elim (fun z => Or.inl (by rw [z]; omega)) Or.inr⟩
      by_cases e : i = k
      · rw [e]; exact hp
      · exact h1 i (by omega) b
    · rename_i hp
      exact ⟨fun i a b => by omega, Or.inr hp⟩
theorem bkN_spec {S : CS} {m : Nat} {due s : Int32} : ∀ n, (bkN S m due s n = 0 ∨ ¬ cmP S m (bkN S m due s n - 1) due s) ∧ ∀ i, bkN S m due s n ≤ i → i < n → cmP S m i due s := by
  intro n
  induction n with
  | zero => exact ⟨Or.inl rfl, fun i _ h => by omega⟩
  | succ n ih =>
    unfold bkN
    split
    · rename_i hp
      refine ⟨ih.1, fun i h1 h2 => ?_⟩
      by_cases e : i = n
      · rw [e]; exact hp
      · exact ih.2 i h1 (by omega)
    · rename_i hp
      exact ⟨Or.inr hp, fun i h1 h2 => by omega⟩
/-- no sack of a mill bears a number -/
def NOm (S : CS) (m : Nat) (s : Int32) : Prop := ∀ p, p < cnt S m → S.2.2 m p 0 ≠ s
theorem bk_pl {S : CS} {m : Nat} {due s : Int32} (hS : SOm S m) (hN : NOm S m s) : bkN S m due s (cnt S m) = plS S m s due := by
  have hb := bkN_spec (S := S) (m := m) (due := due) (s := s) (cnt S m)
  have hk := skN_spec (p := fun j => S.2.2 m j 3 < due ∨ (S.2.2 m j 3 = due ∧ S.2.2 m j 0 < s)) (cnt S m) 0
  have hl := bkN_le (S := S) (m := m) (due := due) (s := s) (cnt S m)
  have hkl := skN_le (fun j => S.2.2 m j 3 < due ∨ (S.2.2 m j 3 = due ∧ S.2.2 m j 0 < s)) (cnt S m) 0
  have e : plS S m s due = skN (fun j => S.2.2 m j 3 < due ∨ (S.2.2 m j 3 = due ∧ S.2.2 m j 0 < s)) (cnt S m) 0 := rfl
  rw [e]
  generalize skN (fun j => S.2.2 m j 3 < due ∨ (S.2.2 m j 3 = due ∧ S.2.2 m j 0 < s)) (cnt S m) 0 = q2 at hk hkl ⊢
  generalize bkN S m due s (cnt S m) = q1 at hb hl ⊢
  have lo : ∀ i, i < q1 → ltk (S.2.2 m i 3) (S.2.2 m i 0) due s := by
    intro i hi
    have h1 : ¬ cmP S m (q1 - 1) due s := hb.1.resolve_left (by omega)
    have h2 : ltk (S.2.2 m (q1 - 1) 3) (S.2.2 m (q1 - 1) 0) due s := (ltk_tot (hN (q1 - 1) (by omega))).resolve_right h1
    by_cases e : i = q1 - 1
    · rw [e]; exact h2
    · exact ltk_tr (hS.ltn (by omega) (by omega)) h2
  rcases Nat.lt_trichotomy q1 q2 with h | h | h
  · have h1 : ltk (S.2.2 m q1 3) (S.2.2 m q1 0) due s := hk.1 q1 (Nat.zero_le _) h
    have h2 : ltk due s (S.2.2 m q1 3) (S.2.2 m q1 0) := by
      rcases hb.2 q1 (Nat.le_refl _) (by omega) with z | ⟨z1, z2⟩
      · exact Or.inl z
      · exact Or.inr ⟨z1, z2⟩
    exact absurd (ltk_tr h1 h2) ltk_irr
  · exact h
  · exact absurd (lo q2 h) (hk.2.resolve_left (by omega))
