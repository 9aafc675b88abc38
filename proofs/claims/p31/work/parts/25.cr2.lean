/-! an hour's parts: what they do to the creek -/
theorem liF_of {a m : Nat} {f : Nat → Int32} {k : Nat → Nat → Int32} {im : TI} {h t : Int32} (g : MA a m f k im) : liF (im a) h t = lwf f h t ∧ (liC (im a) h t ↔ clF f h t) := by
  have e0 := g.2.1 0 (by decide)
  have e1 := g.2.1 1 (by decide)
  have e2 := g.2.1 2 (by decide)
  have e3 := g.2.1 3 (by decide)
  have e4 := g.2.1 4 (by decide)
  constructor
  · unfold liF lwf liC clF
    rw [e0, e1, e2, e3, e4]
  · unfold liC clF
    rw [e2, e3, e4]
theorem upF_id {S : CS} {m w : Nat} : upF S m w (S.2.1 m w) = S := by
  unfold upF
  have : (fun n v => if n = m ∧ v = w then S.2.1 m w else S.2.1 n v) = S.2.1 := by
    funext n v
    by_cases e : n = m ∧ v = w
    · rw [if_pos e, e.1, e.2]
    · rw [if_neg e]
  rw [this]
theorem CR.li {c m : Nat} {S : CS} {im im2 : TI} {x : Int32} (h : CR c S im) (hm : m < 5) (hx : x = liF (im (mA c m)) (S.1 0) (tdF S (S.1 0))) (h2 : im2 = if liC (im (mA c m)) (S.1 0) (tdF S (S.1 0)) then im else ui im (mA c m) 3 (im (mA c m) 3 + x)) : CR c (liS S m) (ui im2 c 7 (im c 7 + x)) := by
  obtain ⟨e1, e2⟩ := liF_of (h := S.1 0) (t := tdF S (S.1 0)) (h.2 m hm)
  rw [e1] at hx
  have e3 : im c 7 = S.1 3 := h.1.2.2.2.2.2 7 (by decide) (by decide)
  have e4 : im (mA c m) 3 = S.2.1 m 1 := (h.2 m hm).2.1 1 (by decide)
  unfold liS
  rw [← hx]
  dsimp only
  by_cases z : liC (im (mA c m)) (S.1 0) (tdF S (S.1 0))
  · rw [if_pos z] at h2
    have x0 : x = 0 := by rw [hx]; unfold lwf; rw [if_pos (e2.mp z)]
    subst h2
    have k := h.g (j := 3) (x := S.1 3 + x) (by decide) (by decide)
    rw [e3]
    have e5 : upF (upG S 3 (S.1 3 + x)) m 1 (S.2.1 m 1 + x) = upG S 3 (S.1 3 + x) := by
      rw [x0, Int32.add_zero, Int32.add_zero]
      exact upF_id (S := upG S 3 (S.1 3))
    rw [e5]
    exact k
  · rw [if_neg z, e4] at h2
    subst h2
    rw [e3]
    exact (h.f (w := 1) (x := S.2.1 m 1 + x) hm (by decide)).g (j := 3) (by decide) (by decide)
def tof (f : Nat → Int32) (t : Int32) : Int32 := if 0 < f 6 then t * f 5 / f 6 else 0
theorem toF_of {a m : Nat} {f : Nat → Int32} {k : Nat → Nat → Int32} {im : TI} {t : Int32} (g : MA a m f k im) : toF (im a) t = tof f t := by
  unfold toF tof
  rw [g.2.1 6 (by decide), g.2.1 5 (by decide)]
def tuS (S : CS) (m : Nat) : CS :=
  let S1 := upF S m 1 (S.2.1 m 1 - S.1 11)
  let S2 := upG S1 4 (S1.1 4 + S1.1 11)
  upF S2 m 7 (S2.2.1 m 7 + 1)
/-- a sack goes: place p of n -/
def dpS (S : CS) (m p n : Nat) : CS := upM S m (fun w => if w = 9 then nI (n - 1) else S.2.1 m w) (fun q j => if p ≤ q ∧ q + 1 < n then S.2.2 m (q + 1) j else S.2.2 m q j)
theorem CR.drop {c m p n : Nat} {S : CS} {im im2 : TI} (h : CR c S im) (hm : m < 5) (hn : n ≤ 6) (h2 : ∀ o q, im2 o q = if inR (mA c m) o ∧ p ≤ q ∧ q + 1 < n then im o (q + 1) else if o = mA c m ∧ q = 11 then nI (n - 1) else im o q) : CR c (dpS S m p n) im2 := by
  have g := h.2 m hm
  refine h.mill hm ⟨?_, fun w hw => ?_, fun q hq => ?_⟩ (fun o ho => funext fun q => ?_)
  · rw [h2, if_neg (fun z => by have := z.1; unfold inR at this; omega), if_neg (by omega)]; exact g.1
  · rw [h2, if_neg (fun z => by have := z.1; unfold inR at this; omega)]
    show _ = (if w = 9 then nI (n - 1) else S.2.1 m w)
    by_cases e : w = 9
    · rw [if_pos e, if_pos ⟨rfl, by omega⟩]
    · rw [if_neg e, if_neg (by omega)]; exact g.2.1 w hw
  · have hr : ∀ o, inR (mA c m) o → im2 o q = if p ≤ q ∧ q + 1 < n then im o (q + 1) else im o q := by
      intro o ho
      rw [h2]
      by_cases e : p ≤ q ∧ q + 1 < n
      · rw [if_pos ⟨ho, e⟩, if_pos e]
      · rw [if_neg (fun z => e z.2), if_neg e, if_neg (fun z => by have := z.1; unfold inR at ho; omega)]
    show im2 (mA c m + 1) q = (if p ≤ q ∧ q + 1 < n then S.2.2 m (q + 1) 0 else S.2.2 m q 0) ∧ im2 (mA c m + 2) q = (if p ≤ q ∧ q + 1 < n then S.2.2 m (q + 1) 1 else S.2.2 m q 1) ∧ im2 (mA c m + 3) q = (if p ≤ q ∧ q + 1 < n then S.2.2 m (q + 1) 2 else S.2.2 m q 2) ∧ im2 (mA c m + 4) q = (if p ≤ q ∧ q + 1 < n then S.2.2 m (q + 1) 3 else S.2.2 m q 3)
    rw [hr _ (by unfold inR; omega), hr _ (by unfold inR; omega), hr _ (by unfold inR; omega), hr _ (by unfold inR; omega)]
    by_cases e : p ≤ q ∧ q + 1 < n
    · simp only [if_pos e]
      exact g.2.2 (q + 1) (by omega)
    · simp only [if_neg e]
      exact g.2.2 q hq
  · rw [h2, if_neg (fun z => by have := z.1; unfold inR at this; omega), if_neg (fun z => by have := z.1; omega)]
/-- a rest -/
theorem CR.k {c m p : Nat} {S : CS} {im : TI} {x : Int32} (h : CR c S im) (hm : m < 5) : CR c (upK S m p 2 x) (ui im (mA c m + 3) p x) := by
  have g := h.2 m hm
  have key := h.mill (im2 := ui im (mA c m + 3) p x) (f := S.2.1 m) (k := fun q j => if q = p ∧ j = 2 then x else S.2.2 m q j) hm ⟨by rw [ui_ne (by omega)]; exact g.1, fun w hw => by rw [ui_ne (by omega)]; exact g.2.1 w hw, fun q hq => by
      rw [ui_ne (by omega), ui_ne (by omega), ui_at, ui_ne (by omega)]
      have g2 := g.2.2 q hq
      refine ⟨g2.1.trans (by simp), g2.2.1.trans (by simp), ?_, g2.2.2.2.trans (by simp)⟩
      by_cases e : q = p
      · simp [e]
      · simp only [e, false_and, if_false]; exact g2.2.2.1⟩ (fun o ho => ui_ne (by omega))
  have e : upM S m (S.2.1 m) (fun q j => if q = p ∧ j = 2 then x else S.2.2 m q j) = upK S m p 2 x := by
    unfold upM upK
    congr 2
    · funext n
      by_cases e1 : n = m
      · subst e1; simp
      · simp [e1]
    · funext n q j
      by_cases e1 : n = m
      · subst e1; by_cases e2 : q = p ∧ j = 2 <;> simp [e2]
      · simp [e1]
  rw [e] at key
  exact key
def g1S (S : CS) (m n : Nat) : CS :=
  let S1 := if fdF S m < S.1 0 then upG S 7 (S.1 7 + 1) else S
  let S2 := upG S1 6 (S1.1 6 + 1)
  let S3 := upF S2 m 8 (S2.2.1 m 8 + 1)
  dpS S3 m 0 n
/-- grinding: n sacks stand, t turns are left -/
def grN (m : Nat) : Nat → CS → Int32 → CS × Int32
  | 0, S, t => (S, t)
  | n + 1, S, t => if S.2.2 m 0 2 ≤ t then grN m n (g1S S m (n + 1)) (t - S.2.2 m 0 2) else (S, t)
def grS (S : CS) (m : Nat) (t : Int32) : CS := let r := grN m (cnt S m) S t; if 0 < r.1.2.1 m 9 then upK r.1 m 0 2 (r.1.2.2 m 0 2 - r.2) else r.1
/-- an hour -/
def tmS (S : CS) : Option Nat → CS
  | none => upG (upG S 1 0) 2 (S.1 2 + 1)
  | some m => let S1 := upG S 1 (nI m + 1); grS (tuS S1 m) m (tof (S1.2.1 m) (hd S1 m))
def hoS (S : CS) : CS := let S1 := lwS 5 0 (upG S 0 (S.1 0 + 1)); tmS S1 (bhN S1 none 5 0 none)
def hsS : Nat → CS → CS
  | 0, S => S
  | n + 1, S => hsS n (hoS S)
