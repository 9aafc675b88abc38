/-! what writes do to the creek's picture -/
theorem ui_row {f : TI} {o k : Nat} {v : Int32} {o' : Nat} (h : o' ≠ o) : ui f o k v o' = f o' := ui_ne h
theorem MA.off {c m : Nat} {f : Nat → Int32} {k : Nat → Nat → Int32} {im : TI} {j : Nat} {x : Int32} (hm : m < 5) (h : MA (mA c m) m f k im) : MA (mA c m) m f k (ui im c j x) :=
  h.keep fun o h1 _ => ui_ne (by unfold mA at h1; omega)
theorem CR.g {c : Nat} {S : CS} {im : TI} (h : CR c S im) {j : Nat} {x : Int32} (h2 : 2 ≤ j) (h8 : j ≤ 8) : CR c (upG S j x) (ui im c (j + 4) x) := by
  refine ⟨⟨?_, ?_, ?_, ?_, ?_, fun q h6 h12 => ?_⟩, fun m hm => (h.2 m hm).off hm⟩
  · rw [ui_at, if_neg (by omega)]; show _ = (if 9 = j then x else S.1 9); rw [if_neg (by omega)]; exact h.1.1
  · rw [ui_at, if_neg (by omega)]; show _ = (if 10 = j then x else S.1 10); rw [if_neg (by omega)]; exact h.1.2.1
  · rw [ui_at, if_neg (by omega)]; show _ = (if 11 = j then x else S.1 11); rw [if_neg (by omega)]; exact h.1.2.2.1
  · rw [ui_at, if_neg (by omega)]; show _ = (if 0 = j then x else S.1 0); rw [if_neg (by omega)]; exact h.1.2.2.2.1
  · rw [ui_at, if_neg (by omega)]; show _ = (if 1 = j then x else S.1 1) - 1; rw [if_neg (by omega)]; exact h.1.2.2.2.2.1
  · rw [ui_at]
    show _ = (if q - 4 = j then x else S.1 (q - 4))
    by_cases e : q = j + 4
    · rw [if_pos e, if_pos (by omega)]
    · rw [if_neg e, if_neg (by omega)]; exact h.1.2.2.2.2.2 q h6 h12
theorem CR.g0 {c : Nat} {S : CS} {im : TI} (h : CR c S im) {x : Int32} : CR c (upG S 0 x) (ui im c 4 x) := by
  refine ⟨⟨?_, ?_, ?_, ?_, ?_, fun q h6 h12 => ?_⟩, fun m hm => (h.2 m hm).off hm⟩
  · rw [ui_at]; exact h.1.1
  · rw [ui_at]; exact h.1.2.1
  · rw [ui_at]; exact h.1.2.2.1
  · rw [ui_at]; rfl
  · rw [ui_at]; exact h.1.2.2.2.2.1
  · rw [ui_at, if_neg (by omega)]
    show _ = (if q - 4 = 0 then x else S.1 (q - 4))
    rw [if_neg (by omega)]; exact h.1.2.2.2.2.2 q h6 h12
theorem CR.g1 {c : Nat} {S : CS} {im : TI} (h : CR c S im) {x y : Int32} (hy : y = x - 1) : CR c (upG S 1 x) (ui im c 5 y) := by
  refine ⟨⟨?_, ?_, ?_, ?_, ?_, fun q h6 h12 => ?_⟩, fun m hm => (h.2 m hm).off hm⟩
  · rw [ui_at]; exact h.1.1
  · rw [ui_at]; exact h.1.2.1
  · rw [ui_at]; exact h.1.2.2.1
  · rw [ui_at]; exact h.1.2.2.2.1
  · rw [ui_at]; exact hy
  · rw [ui_at, if_neg (by omega)]
    show _ = (if q - 4 = 1 then x else S.1 (q - 4))
    rw [if_neg (by omega)]; exact h.1.2.2.2.2.2 q h6 h12
/-- a setting -/
theorem CR.s {c : Nat} {S : CS} {im : TI} (h : CR c S im) {j : Nat} {x : Int32} (h1 : 1 ≤ j) (h3 : j ≤ 3) : CR c (upG S (j + 8) x) (ui im c j x) := by
  refine ⟨⟨?_, ?_, ?_, ?_, ?_, fun q h6 h12 => ?_⟩, fun m hm => (h.2 m hm).off hm⟩
  · rw [ui_at]; show _ = (if 9 = j + 8 then x else S.1 9); by_cases e : 1 = j
    · rw [if_pos e, if_pos (by omega)]
    · rw [if_neg e, if_neg (by omega)]; exact h.1.1
  · rw [ui_at]; show _ = (if 10 = j + 8 then x else S.1 10); by_cases e : 2 = j
    · rw [if_pos e, if_pos (by omega)]
    · rw [if_neg e, if_neg (by omega)]; exact h.1.2.1
  · rw [ui_at]; show _ = (if 11 = j + 8 then x else S.1 11); by_cases e : 3 = j
    · rw [if_pos e, if_pos (by omega)]
    · rw [if_neg e, if_neg (by omega)]; exact h.1.2.2.1
  · rw [ui_at, if_neg (by omega)]; show _ = (if 0 = j + 8 then x else S.1 0); rw [if_neg (by omega)]; exact h.1.2.2.2.1
  · rw [ui_at, if_neg (by omega)]; show _ = (if 1 = j + 8 then x else S.1 1) - 1; rw [if_neg (by omega)]; exact h.1.2.2.2.2.1
  · rw [ui_at, if_neg (by omega)]
    show _ = (if q - 4 = j + 8 then x else S.1 (q - 4))
    by_cases e : q - 4 = j + 8
    · omega
    · rw [if_neg e]; exact h.1.2.2.2.2.2 q h6 h12
/-- one mill's part -/
theorem CR.mill {c m : Nat} {S : CS} {im im2 : TI} {f : Nat → Int32} {k : Nat → Nat → Int32} (h : CR c S im) (hm : m < 5) (h2 : MA (mA c m) m f k im2) (hk : ∀ o, (o < mA c m ∨ mA c m + 4 < o) → im2 o = im o) : CR c (upM S m f k) im2 := by
  have hc : im2 c = im c := hk c (Or.inl (by unfold mA; omega))
  refine ⟨⟨by rw [hc]; exact h.1.1, by rw [hc]; exact h.1.2.1, by rw [hc]; exact h.1.2.2.1, by rw [hc]; exact h.1.2.2.2.1, by rw [hc]; exact h.1.2.2.2.2.1, fun q h6 h12 => by rw [hc]; exact h.1.2.2.2.2.2 q h6 h12⟩, fun n hn => ?_⟩
  by_cases e : n = m
  · subst e
    have e1 : (upM S n f k).2.1 n = f := if_pos rfl
    have e2 : (upM S n f k).2.2 n = k := if_pos rfl
    rw [e1, e2]
    exact h2
  · have e1 : (upM S m f k).2.1 n = S.2.1 n := if_neg e
    have e2 : (upM S m f k).2.2 n = S.2.2 n := if_neg e
    rw [e1, e2]
    refine (h.2 n hn).keep fun o h3 h4 => hk o ?_
    unfold mA at *
    omega
theorem CR.f {c m w : Nat} {S : CS} {im : TI} {x : Int32} (h : CR c S im) (hm : m < 5) (hw : w < 10) : CR c (upF S m w x) (ui im (mA c m) (w + 2) x) := by
  have key := h.mill (im2 := ui im (mA c m) (w + 2) x) (f := fun v => if v = w then x else S.2.1 m v) (k := S.2.2 m) hm ⟨by rw [ui_at, if_neg (by omega)]; exact (h.2 m hm).1, fun v hv => by
      rw [ui_at]
      show _ = (if v = w then x else S.2.1 m v)
      by_cases e : v = w
      · rw [if_pos (by omega), if_pos e]
      · rw [if_neg (by omega), if_neg e]; exact (h.2 m hm).2.1 v hv, fun p hp => by
      rw [ui_ne (by omega), ui_ne (by omega), ui_ne (by omega), ui_ne (by omega)]; exact (h.2 m hm).2.2 p hp⟩ (fun o ho => ui_ne (by omega))
  have e : upM S m (fun v => if v = w then x else S.2.1 m v) (S.2.2 m) = upF S m w x := by
    unfold upM upF
    congr 2
    · funext n v
      by_cases e1 : n = m
      · subst e1; by_cases e2 : v = w <;> simp [e2]
      · simp [e1]
    · funext n
      by_cases e1 : n = m
      · subst e1; simp
      · simp [e1]
  rw [e] at key
  exact key
theorem fr.rf {c : Nat} {im : TI} : fr c im im := fun _ _ => rfl
theorem fr.trans {c : Nat} {a b d : TI} (h : fr c a b) (g : fr c b d) : fr c a d := fun o ho => (g o ho).trans (h o ho)
theorem fr.u {c o k : Nat} {im : TI} {x : Int32} (h1 : c ≤ o) (h2 : o ≤ c + 25) : fr c im (ui im o k x) := fun q hq => ui_ne (by omega)
theorem fr.m {c m k : Nat} {im : TI} {x : Int32} (hm : m < 5) : fr c im (ui im (mA c m) k x) := fr.u (by unfold mA; omega) (by unfold mA; omega)
theorem fr.of {c m : Nat} {im im2 : TI} (hm : m < 5) (h : ∀ o, (o < mA c m ∨ mA c m + 4 < o) → im2 o = im o) : fr c im im2 := fun o ho => h o (by unfold mA; omega)
theorem fdN_congr {p q : Nat → Prop} [DecidablePred p] [DecidablePred q] : ∀ (n k : Nat), (∀ j, k ≤ j → j < k + n → (p j ↔ q j)) → fdN p n k = fdN q n k := by
  intro n
  induction n with
  | zero => intro k _; rfl
  | succ n ih =>
    intro k h
    have h0 := h k (Nat.le_refl _) (by omega)
    unfold fdN
    rw [ih (k + 1) (fun j h1 h2 => h j (by omega) (by omega))]
    by_cases e : p k
    · rw [if_pos e, if_pos (h0.mp e)]
    · rw [if_neg e, if_neg (fun z => e (h0.mpr z))]
theorem skN_congr {p q : Nat → Prop} [DecidablePred p] [DecidablePred q] : ∀ (n k : Nat), (∀ j, k ≤ j → j < k + n → (p j ↔ q j)) → skN p n k = skN q n k := by
  intro n
  induction n with
  | zero => intro k _; rfl
  | succ n ih =>
    intro k h
    have h0 := h k (Nat.le_refl _) (by omega)
    unfold skN
    rw [ih (k + 1) (fun j h1 h2 => h j (by omega) (by omega))]
    by_cases e : p k
    · rw [if_pos e, if_pos (h0.mp e)]
    · rw [if_neg e, if_neg (fun z => e (h0.mpr z))]
theorem fdN_some {p : Nat → Prop} [DecidablePred p] : ∀ (n k q : Nat), fdN p n k = some q → k ≤ q ∧ q < k + n ∧ p q := by
  intro n
  induction n with
  | zero => intro k q h; cases h
  | succ n ih =>
    intro k q h
    unfold fdN at h
    by_cases e : p k
    · rw [if_pos e] at h; cases h; exact ⟨Nat.le_refl _, by omega, e⟩
    · rw [if_neg e] at h
      have := ih (k + 1) q h
      exact ⟨by omega, by omega, this.2.2⟩
theorem fdN_none {p : Nat → Prop} [DecidablePred p] : ∀ (n k : Nat), fdN p n k = none → ∀ j, k ≤ j → j < k + n → ¬ p j := by
  intro n
  induction n with
  | zero => intro k _ j h1 h2; omega
  | succ n ih =>
    intro k h j h1 h2
    unfold fdN at h
    by_cases e : p k
    · rw [if_pos e] at h; cases h
    · rw [if_neg e] at h
      rcases Nat.eq_or_lt_of_le h1 with z | z
      · rw [← z]; exact e
      · exact ih (k + 1) h j z (by omega)
/-- how many sacks a mill has; where a sack is there -/
def cnt (S : CS) (m : Nat) : Nat := (S.2.1 m 9).toNatClampNeg
def poS (S : CS) (m : Nat) (s : Int32) : Option Nat := fdN (fun j => S.2.2 m j 0 = s) (cnt S m) 0
theorem CI.c {S : CS} (h : CI S) {m : Nat} (hm : m < 5) : cnt S m ≤ 6 ∧ S.2.1 m 9 = nI (cnt S m) := by
  obtain ⟨n, hn, e⟩ := h m hm
  have : cnt S m = n := by unfold cnt; rw [e, nI_clamp (by omega)]
  rw [this]
  exact ⟨hn, e⟩
theorem oI_none {o : Option Nat} (h : ∀ p, o = some p → p < 2 ^ 31) : oI o = -1 ↔ o = none := by
  cases o with
  | none => exact ⟨fun _ => rfl, fun _ => rfl⟩
  | some p =>
    refine ⟨fun e => ?_, fun e => by cases e⟩
    have h1 : ¬ nI p < 0 := nI_pos (h p rfl)
    rw [show nI p = -1 from e] at h1
    exact absurd (by decide) h1
