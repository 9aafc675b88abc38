/-! The class's reader and the reference's: one text, one reading -/
def rnI (B : Nat → Int32) (q : Nat) : Nat → TI → TI
  | 0, im => im
  | i + 1, im => (tkA (rnI B q i im) (B (q + i))).2
def acI (B : Nat → Int32) (q i : Nat) (im : TI) : Prop := ∀ j, j < i → (tkA (rnI B q j im) (B (q + j))).1 = 1
theorem rnI_add {B : Nat → Int32} {q i : Nat} {im : TI} : ∀ j, rnI B q (i + j) im = rnI B (q + i) j (rnI B q i im) := by
  intro j
  induction j with
  | zero => rfl
  | succ j ih => rw [show i + (j + 1) = (i + j) + 1 by omega, rnI, rnI, ih, show q + (i + j) = q + i + j by omega]
theorem acI_add {B : Nat → Int32} {q i j : Nat} {im : TI} (h : acI B q i im) (g : acI B (q + i) j (rnI B q i im)) : acI B q (i + j) im := by
  intro k hk
  by_cases e : k < i
  · exact h k e
  · have := g (k - i) (by omega)
    rw [← rnI_add, show q + i + (k - i) = q + k by omega, show i + (k - i) = k by omega] at this
    exact this
theorem rdE_ac {B : Nat → Int32} {q : Nat} {im : TI} : ∀ i n, acI B q i im → rdE B (n + i) q im = rdE B n (q + i) (rnI B q i im) := by
  intro i
  induction i with
  | zero => intro n _; rfl
  | succ i ih =>
    intro n h
    rw [show n + (i + 1) = (n + 1) + i by omega, ih (n + 1) (fun j hj => h j (by omega)), rdE, if_neg (by rw [h i (by omega)]; decide)]
    rfl
theorem rnI_fr {B : Nat → Int32} {q o : Nat} (h1 : o ≠ 238) (h2 : o ≠ 239) : ∀ i im, rnI B q i im o = im o := by
  intro i
  induction i with
  | zero => intro im; rfl
  | succ i ih => intro im; rw [rnI, tkA_fr h1 h2, ih]
/-- from a place on to another one, and no ';' on the way -/
def GO (B : Nat → Int32) (b : Nat → Nat) (q : Nat) (im : TI) (q2 : Nat) (im2 : TI) : Prop := q ≤ q2 ∧ acI B q (q2 - q) im ∧ rnI B q (q2 - q) im = im2 ∧ ∀ j, q ≤ j → j < q2 → b j ≠ 59
theorem GO.rf {B : Nat → Int32} {b : Nat → Nat} {q : Nat} {im : TI} : GO B b q im q im := ⟨Nat.le_refl _, fun j hj => by omega, by rw [Nat.sub_self]; rfl, fun j h1 h2 => by omega⟩
theorem GO.trans {B : Nat → Int32} {b : Nat → Nat} {q q2 q3 : Nat} {im im2 im3 : TI} (h : GO B b q im q2 im2) (g : GO B b q2 im2 q3 im3) : GO B b q im q3 im3 := by
  obtain ⟨h1, h2, h3, h4⟩ := h
  obtain ⟨g1, g2, g3, g4⟩ := g
  refine ⟨by omega, ?_, ?_, fun j a c => ?_⟩
  · rw [show q3 - q = (q2 - q) + (q3 - q2) by omega]
    refine acI_add h2 ?_
    rw [h3, show q + (q2 - q) = q2 by omega]
    exact g2
  · rw [show q3 - q = (q2 - q) + (q3 - q2) by omega, rnI_add, h3, show q + (q2 - q) = q2 by omega, g3]
  · by_cases e : j < q2
    · exact h4 j a e
    · exact g4 j (by omega) c
theorem GO.one {B : Nat → Int32} {b : Nat → Nat} {q : Nat} {im im2 : TI} (h : tkA im (B q) = (1, im2)) (hb : b q ≠ 59) : GO B b q im (q + 1) im2 := by
  refine ⟨Nat.le_succ _, fun j hj => ?_, ?_, fun j h1 h2 => by rw [show j = q by omega]; exact hb⟩
  · rw [show j = 0 by omega]
    show (tkA im (B (q + 0))).1 = 1
    rw [Nat.add_zero, h]
  · rw [show q + 1 - q = 0 + 1 by omega]
    show (tkA im (B (q + 0))).2 = im2
    rw [Nat.add_zero, h]
def lsN (k r : Nat) : Nat := if k = 43 then 1 else if r = 0 then 0 else if k = 115 then 1 else 8
def msN (k r : Nat) : Nat := if k = 43 then 48 else if r = 0 then 4 else if k = 103 then 60 else if r = 1 then 999 else 9999
def KR (k r : Nat) : Prop := (k = 43 ∨ k = 103 ∨ k = 115) ∧ r < 3
theorem ls_n {k r : Nat} (h : KR k r) : lsI (nI k) (nI r) = nI (lsN k r) ∧ msI (nI k) (nI r) = nI (msN k r) ∧ lsN k r ≤ 8 ∧ msN k r ≤ 9999 := by
  obtain ⟨h1, h2⟩ := h
  rcases h1 with rfl | rfl | rfl <;> rcases (show r = 0 ∨ r = 1 ∨ r = 2 by omega) with rfl | rfl | rfl <;> exact ⟨by decide, by decide, by decide, by decide⟩
def okN (lo hi w : Nat) : Prop := (w = 0 ∧ lo = 0) ∨ (w ≠ 0 ∧ w ≤ hi ∧ (lo ≤ w ∨ 10 * w ≤ hi))
theorem cb_step {w : Nat} : nI w * 10 = nI (w * 10) := pk_mul w 10
theorem cb_9 {w : Nat} : nI w + 9 = nI (w + 9) := nI_add w 9
theorem cb_step9 {w : Nat} : nI w * 10 + 9 = nI (w * 10 + 9) := by rw [cb_step]; exact nI_add (w * 10) 9
theorem cbL_ok {lo hi w : Nat} (hl : lo ≤ 8) (hh : hi ≤ 9999) (hw : w < 100000) (h0 : w ≠ 0) : cbL (nI lo) (nI hi) 4 (nI w) (nI w) ↔ (w ≤ hi ∧ (lo ≤ w ∨ 10 * w ≤ hi)) := by
  rw [cbL_s, cbL_s, cbL_s, cbL_s]
  simp only [cb_step, cb_9]
  rw [nI_leI (by omega) (by omega), nI_leI (by omega) (by omega), nI_leI (by omega) (by omega), nI_leI (by omega) (by omega), nI_leI (by omega) (by omega), nI_leI (by omega) (by omega), nI_leI (by omega) (by omega), nI_leI (by omega) (by omega)]
  have := cbL_0 (lo := nI lo) (hi := nI hi) (a := nI (w * 10 * 10 * 10 * 10)) (b := nI ((((w * 10 + 9) * 10 + 9) * 10 + 9) * 10 + 9))
  constructor
  · rintro (h | h | h | h | h)
    · omega
    · omega
    · omega
    · omega
    · exact absurd h this
  · rintro ⟨h1, h2⟩
    by_cases e : lo ≤ w
    · exact Or.inl ⟨h1, e⟩
    · exact Or.inr (Or.inl (by omega))
theorem cbP_ok {k r w : Nat} (h : KR k r) (hw : w < 100000) : cbP (nI k) (nI r) (nI w) ↔ okN (lsN k r) (msN k r) w := by
  obtain ⟨e1, e2, e3, e4⟩ := ls_n h
  unfold cbP okN
  rw [e1, e2]
  by_cases h0 : w = 0
  · subst h0
    refine ⟨fun z => z.elim (fun y => Or.inl ⟨rfl, (nI_eq (b := 0) (by omega) (by decide)).mp y.2⟩) (fun y => absurd rfl y.1), fun z => z.elim (fun y => Or.inl ⟨rfl, by rw [y.2]; rfl⟩) (fun y => absurd rfl y.1)⟩
  · rw [cbL_ok e3 e4 hw h0]
    have hn := nI_ne0 (n := w) (by omega) (by omega)
    exact ⟨fun z => z.elim (fun y => absurd y.1 hn) (fun y => Or.inr ⟨h0, y.2⟩), fun z => z.elim (fun y => absurd y.1 h0) (fun y => Or.inr ⟨hn, y.2⟩)⟩
/-- the reader's rows: its kind, which number, how many digits, its value -/
def AT (k r d v : Nat) (im : TI) : Prop := im 238 0 = nI k ∧ im 238 2 = nI r ∧ im 238 3 = nI d ∧ im 239 r = nI v
def kpt (r : Nat) (im im2 : TI) : Prop := ∀ j, j ≠ r → im2 239 j = im 239 j
theorem nu_at {im : TI} {r : Nat} (h : r < 3) : nuI im (nI r) = im 239 r := by
  unfold nuI
  rw [if_pos ⟨nI_pos (by omega), (nI_ltI (b := 3) (by omega) (by decide)).mpr h⟩, nI_clamp (by omega)]
theorem knd_ne {k r : Nat} (h : KR k r) : ¬ nI k = -1 := nI_m1 (by have := h.1; omega)
theorem AT.nw {k r d v : Nat} {im : TI} (h : AT k r d v im) (hk : KR k r) (hd : d < 1000) (hv : v < 100000) : nwP im ↔ (0 < d ∧ lsN k r ≤ v ∧ v ≤ msN k r) := by
  obtain ⟨h1, h2, h3, h4⟩ := h
  obtain ⟨e1, e2, e3, e4⟩ := ls_n hk
  unfold nwP
  rw [h1, h2, h3, nu_at hk.2, h4, e1, e2, nI_leI (by omega) (by omega), nI_leI (by omega) (by omega)]
  exact and_congr (nI_ltI (a := 0) (by decide) (by omega)) Iff.rfl
def lnN (k : Nat) : Nat := if k = 43 then 0 else 2
theorem ln_n {k r : Nat} (h : KR k r) : lnI (nI k) = nI (lnN k) ∧ lnN k ≤ 2 := by
  obtain ⟨h1, -⟩ := h
  rcases h1 with rfl | rfl | rfl <;> exact ⟨by decide, by decide⟩
theorem AT.pw {k r d v : Nat} {im : TI} (h : AT k r d v im) (hk : KR k r) (hd : d < 1000) (hv : v < 100000) : pwP im ↔ (r = lnN k ∧ 0 < d ∧ lsN k r ≤ v ∧ v ≤ msN k r) := by
  have hn := h.nw hk hd hv
  obtain ⟨h1, h2, h3, h4⟩ := h
  unfold pwP
  rw [hn, h1, h2, (ln_n hk).1, nI_eq (by have := hk.2; omega) (by have := (ln_n hk).2; omega)]
  exact ⟨fun z => z.2, fun z => ⟨knd_ne hk, z⟩⟩
/-- a digit -/
theorem AT.dig {k r d v c : Nat} {im : TI} (h : AT k r d v im) (hk : KR k r) (hd : d < 1000) (hv : v < 10000) (h1 : 48 ≤ c) (h2 : c ≤ 57) :
    ((¬ (0 < d ∧ v = 0) ∧ okN (lsN k r) (msN k r) (10 * v + (c - 48))) → ∃ im2, tkA im (nI c) = (1, im2) ∧ AT k r (d + 1) (10 * v + (c - 48)) im2 ∧ kpt r im im2) ∧
    (¬ (¬ (0 < d ∧ v = 0) ∧ okN (lsN k r) (msN k r) (10 * v + (c - 48))) → (tkA im (nI c)).1 = 0) := by
  obtain ⟨a1, a2, a3, a4⟩ := h
  have e : tkA im (nI c) = tkD im (nI (c - 48)) := by
    unfold tkA
    rw [a1, if_neg (knd_ne hk), if_pos ⟨(nI_leI (a := 48) (by decide) (by omega)).mpr h1, (nI_leI (b := 57) (by omega) (by decide)).mpr h2⟩, show nI c - 48 = nI (c - 48) from pk_sub (b := 48) h1]
  have ev : nuI im (im 238 2) * 10 + nI (c - 48) = nI (10 * v + (c - 48)) := by
    rw [a2, nu_at hk.2, a4, cb_step, nI_add]
    congr 1
    omega
  have et : tdP im (nI (c - 48)) ↔ (¬ (0 < d ∧ v = 0) ∧ okN (lsN k r) (msN k r) (10 * v + (c - 48))) := by
    unfold tdP
    rw [ev, a1, a2, a3, nu_at hk.2, a4, cbP_ok hk (by omega)]
    refine ⟨fun z => ⟨fun y => z.1 ⟨(nI_ltI (a := 0) (by decide) (by omega)).mpr y.1, by rw [y.2]; rfl⟩, z.2.1⟩, fun z => ⟨fun y => z.1 ⟨(nI_ltI (a := 0) (by decide) (by omega)).mp y.1, (nI_eq (b := 0) (by omega) (by decide)).mp y.2⟩, z.2, nI_pos (by have := hk.2; omega), (nI_ltI (b := 3) (by have := hk.2; omega) (by decide)).mpr hk.2⟩⟩
  rw [e]
  unfold tkD
  constructor
  · intro z
    rw [if_pos (et.mpr z), ev, a2, a3, nI_clamp (by have := hk.2; omega)]
    refine ⟨_, rfl, ⟨?_, ?_, ?_, ?_⟩, fun j hj => ?_⟩
    · rw [ui_at, if_neg (by decide), ui_ne (by decide)]; exact a1
    · rw [ui_at, if_neg (by decide), ui_ne (by decide)]; exact a2
    · rw [ui_at, if_pos rfl, nI_1]
    · rw [ui_ne (by decide), ui_at, if_pos rfl]
    · rw [ui_ne (by decide), ui_at, if_neg hj]
  · intro z
    rw [if_neg (fun y => z (et.mp y))]
theorem bgM_at {im : TI} {r : Nat} (h : r < 3) : (bgM im (nI r)) 238 0 = im 238 0 ∧ (bgM im (nI r)) 238 2 = nI r ∧ (bgM im (nI r)) 238 3 = nI 0 ∧ (bgM im (nI r)) 239 r = nI 0 ∧ kpt r im (bgM im (nI r)) := by
  unfold bgM
  rw [if_pos ⟨nI_pos (by omega), (nI_ltI (b := 3) (by omega) (by decide)).mpr h⟩, nI_clamp (by omega)]
  refine ⟨?_, ?_, ?_, ?_, fun j hj => ?_⟩
  · rw [ui_ne (by decide), ui_at, if_neg (by decide), ui_at, if_neg (by decide)]
  · rw [ui_ne (by decide), ui_at, if_neg (by decide), ui_at, if_pos rfl]
  · rw [ui_ne (by decide), ui_at, if_pos rfl]; rfl
  · rw [ui_at, if_pos rfl]; rfl
  · rw [ui_at, if_neg hj, ui_ne (by decide), ui_ne (by decide)]
/-- a comma -/
theorem AT.com {k r d v : Nat} {im : TI} (h : AT k r d v im) (hk : KR k r) (hd : d < 1000) (hv : v < 100000) :
    ((0 < d ∧ lsN k r ≤ v ∧ v ≤ msN k r) ∧ r < lnN k → ∃ im2, tkA im (nI 44) = (1, im2) ∧ AT k (r + 1) 0 0 im2 ∧ kpt (r + 1) im im2) ∧ (¬ ((0 < d ∧ lsN k r ≤ v ∧ v ≤ msN k r) ∧ r < lnN k) → (tkA im (nI 44)).1 = 0) := by
  have hn := h.nw hk hd hv
  obtain ⟨a1, a2, a3, a4⟩ := h
  have hl := (ln_n hk).2
  have e : tkA im (nI 44) = tkC im := by
    unfold tkA
    rw [a1, if_neg (knd_ne hk), if_neg (by decide), if_pos (by decide)]
  have et : (nwP im ∧ im 238 2 < lnI (im 238 0)) ↔ ((0 < d ∧ lsN k r ≤ v ∧ v ≤ msN k r) ∧ r < lnN k) := by
    rw [hn, a1, a2, (ln_n hk).1, nI_ltI (by have := hk.2; omega) (by omega)]
  rw [e]
  unfold tkC
  constructor
  · intro z
    rw [if_pos (et.mpr z), a2, nI_1]
    obtain ⟨b1, b2, b3, b4, b5⟩ := bgM_at (im := im) (r := r + 1) (by have := z.2; omega)
    exact ⟨_, rfl, ⟨b1.trans a1, b2, b3, b4⟩, b5⟩
  · intro z
    rw [if_neg (fun y => z (et.mp y))]
/-- a ';' -/
theorem tkA_sep {im : TI} {k : Nat} {r : Nat} (h : im 238 0 = nI k) (hk : KR k r) : tkA im (nI 59) = tkS im := by
  unfold tkA
  rw [h, if_neg (knd_ne hk), if_neg (by decide), if_neg (by decide), if_pos (by decide)]
/-- anything else -/
theorem tkA_no {im : TI} {k r c : Nat} (h : im 238 0 = nI k) (hk : KR k r) (hc : c < 128) (h1 : ¬ (48 ≤ c ∧ c ≤ 57)) (h2 : c ≠ 44) (h3 : c ≠ 59) : (tkA im (nI c)).1 = 0 := by
  unfold tkA
  rw [h, if_neg (knd_ne hk), if_neg (fun z => h1 ⟨(nI_leI (a := 48) (by decide) (by omega)).mp z.1, (nI_leI (b := 57) (by omega) (by decide)).mp z.2⟩), if_neg (show ¬ nI c = 44 from lt_ne hc (k := 44) (by decide) h2), if_neg (show ¬ nI c = 59 from lt_ne hc (k := 59) (by decide) h3)]
theorem tkA_0 {im : TI} {x : Int32} (h : (tkA im x).1 = 0) : (tkA im x).2 = im := by
  have key : ∀ (p : Prop) [Decidable p] (i : TI), (if p then ((1 : Int32), i) else (0, im)).1 = 0 → (if p then ((1 : Int32), i) else (0, im)).2 = im := by
    intro p _ i hz
    by_cases hp : p
    · rw [if_pos hp] at hz; exact absurd (show (1 : Int32) = 0 from hz) (by decide)
    · rw [if_neg hp]
  unfold tkA at h ⊢
  by_cases h1 : im 238 0 = -1
  · rw [if_pos h1] at h ⊢; exact key _ _ h
  rw [if_neg h1] at h ⊢
  by_cases h2 : 48 ≤ x ∧ x ≤ 57
  · rw [if_pos h2] at h ⊢; exact key _ _ h
  rw [if_neg h2] at h ⊢
  by_cases h3 : x = 44
  · rw [if_pos h3] at h ⊢; exact key _ _ h
  rw [if_neg h3] at h ⊢
  by_cases h4 : x = 59
  · rw [if_pos h4] at h ⊢; exact key _ _ h
  rw [if_neg h4]
