/-! What the creek is: numbers of all, numbers of a mill, its sacks; what an hour does to them -/
abbrev CG : Type := Nat → Int32
abbrev CF : Type := Nat → Nat → Int32
abbrev CK : Type := Nat → Nat → Nat → Int32
abbrev CS : Type := CG × CF × CK
def hdf (f : Nat → Int32) (t : Int32) : Int32 := (if 0 < f 0 then f 1 * 100 / f 0 else 0) - t
def ab (x : Int32) : Int32 := if 0 ≤ x then x else 0 - x
def tdF (S : CS) (h : Int32) : Int32 := S.1 9 * ab (6 - (h - h / 12 * 12))
def hd (S : CS) (m : Nat) : Int32 := hdf (S.2.1 m) (tdF S (S.1 0))
def rsF (S : CS) (m : Nat) : Int32 := if S.2.1 m 9 = 0 then 1 else if hd S m < S.1 10 then 2 else if S.2.1 m 1 < S.1 11 then 3 else 0
def fdF (S : CS) (m : Nat) : Int32 := if 0 < S.2.1 m 9 then S.2.2 m 0 3 else -1
abbrev ahF (S : CS) (a b : Nat) : Prop := if fdF S a = fdF S b then (if hd S a = hd S b then a < b else hd S b < hd S a) else fdF S a < fdF S b
/-- what comes over a mill's sill in the hour h at the tide t -/
abbrev clF (f : Nat → Int32) (h t : Int32) : Prop := h - h / 12 * 12 < f 3 ∨ f 4 < h - h / 12 * 12 ∨ t ≤ f 2
def lwf (f : Nat → Int32) (h t : Int32) : Int32 := if clF f h t then 0 else if f 0 - f 1 < 2 * (t - f 2) then f 0 - f 1 else 2 * (t - f 2)
def upG (S : CS) (k : Nat) (x : Int32) : CS := (fun j => if j = k then x else S.1 j, S.2)
def upF (S : CS) (m w : Nat) (x : Int32) : CS := (S.1, fun n v => if n = m ∧ v = w then x else S.2.1 n v, S.2.2)
def upK (S : CS) (m p k : Nat) (x : Int32) : CS := (S.1, S.2.1, fun n q j => if n = m ∧ q = p ∧ j = k then x else S.2.2 n q j)
def upM (S : CS) (m : Nat) (f : Nat → Int32) (k : Nat → Nat → Int32) : CS := (S.1, fun n => if n = m then f else S.2.1 n, fun n => if n = m then k else S.2.2 n)
/-- the water of one mill -/
def liS (S : CS) (m : Nat) : CS := let x := lwf (S.2.1 m) (S.1 0) (tdF S (S.1 0)); upF (upG S 3 (S.1 3 + x)) m 1 (S.2.1 m 1 + x)
/-- the water of the mills from m on, n of them -/
def lwS : Nat → Nat → CS → CS
  | 0, _, S => S
  | n + 1, m, S => lwS n (m + 1) (liS S m)
/-- going through n mills from m on: the first behind prev so far is b -/
def bhN (S : CS) (prev : Option Nat) : Nat → Nat → Option Nat → Option Nat
  | 0, _, b => b
  | n + 1, m, b => bhN S prev n (m + 1) (if (rsF S m = 0 ∧ ∀ q, prev = some q → ahF S q m) ∧ ∀ q, b = some q → ahF S m q then some m else b)
/-! how the class holds it: a mill at a, the creek at c -/
def MA (a m : Nat) (f : Nat → Int32) (k : Nat → Nat → Int32) (im : TI) : Prop := im a 0 = nI m ∧ (∀ w, w < 10 → im a (w + 2) = f w) ∧ ∀ p, p < 6 → im (a + 1) p = k p 0 ∧ im (a + 2) p = k p 1 ∧ im (a + 3) p = k p 2 ∧ im (a + 4) p = k p 3
abbrev mA (c m : Nat) : Nat := c + 21 - 5 * m
def mo (c m : Nat) : Option Nat := if m < 5 then some (mA c m) else none
def gm (c : Nat) (o : Option Nat) : Option Nat := o.map (mA c)
def isC (rm : TP) (c : Nat) : Prop := kd c = 0 ∧ rm c 0 = mo c 0 ∧ (∀ m, m < 5 → isM rm (mA c m)) ∧ ∀ m, m < 5 → rm (mA c m) 1 = mo c (m + 1)
def CR (c : Nat) (S : CS) (im : TI) : Prop := (im c 1 = S.1 9 ∧ im c 2 = S.1 10 ∧ im c 3 = S.1 11 ∧ im c 4 = S.1 0 ∧ im c 5 = S.1 1 - 1 ∧ ∀ j, 6 ≤ j → j ≤ 12 → im c j = S.1 (j - 4)) ∧ ∀ m, m < 5 → MA (mA c m) m (S.2.1 m) (S.2.2 m) im
/-- as many sacks as a mill may have -/
def CI (S : CS) : Prop := ∀ m, m < 5 → ∃ n, n ≤ 6 ∧ S.2.1 m 9 = nI n
def fr (c : Nat) (im im2 : TI) : Prop := ∀ o, (o < c ∨ c + 25 < o) → im2 o = im o
theorem mo_some {c m y : Nat} (h : mo c m = some y) : m < 5 ∧ y = mA c m := by
  unfold mo at h
  split at h
  · exact ⟨by assumption, (Option.some.inj h).symm⟩
  · cases h
theorem mo_none {c m : Nat} (h : mo c m = none) : 5 ≤ m := by
  unfold mo at h
  split at h
  · cases h
  · omega
theorem mo_of {c m : Nat} (h : m < 5) : mo c m = some (mA c m) := if_pos h
theorem gm_some {c y : Nat} {o : Option Nat} (h : gm c o = some y) : ∃ q, o = some q ∧ y = mA c q := by
  cases o with
  | none => cases h
  | some q => exact ⟨q, rfl, (Option.some.inj h).symm⟩
theorem gm_none {c : Nat} {o : Option Nat} (h : gm c o = none) : o = none := by
  cases o with
  | none => rfl
  | some q => cases h
theorem gm_s {c q : Nat} : gm c (some q) = some (mA c q) := rfl
theorem gm_n {c : Nat} : gm c none = none := rfl
theorem hdF_of {a m : Nat} {f : Nat → Int32} {k : Nat → Nat → Int32} {im : TI} {t : Int32} (h : MA a m f k im) : hdF (im a) t = hdf f t := by
  unfold hdF hdf
  rw [h.2.1 0 (by decide), h.2.1 1 (by decide)]
theorem MA.w {a m : Nat} {f : Nat → Int32} {k : Nat → Nat → Int32} {im : TI} (h : MA a m f k im) {w : Nat} (hw : w < 10) : im a (w + 2) = f w := h.2.1 w hw
theorem MA.keep {a m : Nat} {f : Nat → Int32} {k : Nat → Nat → Int32} {im im2 : TI} (h : MA a m f k im) (e : ∀ o, a ≤ o → o ≤ a + 4 → im2 o = im o) : MA a m f k im2 := by
  refine ⟨by rw [e a (Nat.le_refl _) (by omega)]; exact h.1, fun w hw => by rw [e a (Nat.le_refl _) (by omega)]; exact h.2.1 w hw, fun p hp => ?_⟩
  rw [e (a + 1) (by omega) (by omega), e (a + 2) (by omega) (by omega), e (a + 3) (by omega) (by omega), e (a + 4) (by omega) (by omega)]
  exact h.2.2 p hp
/-- a nest mate's static method -/
theorem g_callNone {l : Launch} {mt : MT} {d dc mc ms pc : Nat} {L : List (Option Value)} {rest : List Value} {im : TI} {rm : TP} {lm : TL} {Q : TQ} {X : TX} {a1 x : Value} (hC : Con l m_X4_numberOrNone dc 0 0 NN [a1] im rm lm (QP x im rm lm) noX) (hcl : mt.1.cls = "TideMills$Creek") (hok : dc + 1 ≤ d) (hd : decode mt.2.1 pc = .ok (.invokestatic 123, 3)) (hcat : (rest.map fun v => v.category).sum ≤ 8) (K : PW l mt d mc ms NN (pc + 3) L (x :: rest) im rm lm Q X) :
    PW l mt d mc ms NN pc L (a1 :: rest) im rm lm Q X := by
  intro p e s m args below meth c D A ad cy MC MS Z H locs cells slots ls hF hW hL hc hs hR hT2
  have hG : GoodIn wsAll (cw m_X4_numberOrNone :: wsAll) := goodAll mc_X4_numberOrNone
  have hown : s.vm.findClass "TideMills$Creek" = some m.cls := by rw [← hcl]; exact hF.2.2.2.2.1
  have hrun := vx_runSN (l := l) (p := p) (e := e) (R := rmd d MC MS) (s := s) (m := m) (args := args) (below := below) (meth := meth) (c := c) (H := H) (locs := locs) (cells := cells) (slots := slots) (As := [tr ad a1]) (rest := rest.map (tr ad)) (g := F0 m pc ls ((a1 :: rest).map (tr ad))) ⟨hF.1, hF.2.1, hF.2.2.1, hown, hF.2.2.2.2.2.1⟩ (hC D ad cy H.size)
    ⟨va_cnB 1 hF.2.2.2.2.2.1 hG rfl rfl rfl hF.2.2.2.2.2.2.2.2.2.2.2.1.2.2.2.2.1 (hF.2.2.2.2.2.1 _ in_X4) ⟨by decide, by decide, by decide +kernel⟩ (room_ok hok (by decide)), hF.2.2.2.2.2.1 _ mi_X4_numberOrNone, trivial⟩ ⟨CP.blind, call_pre hF hW [a1]⟩ rfl rfl hL.1 rfl (lv_room (by rw [cat_sum]; exact hcat)) hd ⟨by show cells + 0 ≤ MC; omega, by show slots + 0 ≤ MS; omega⟩
  exact call_core (mc := mc) (ms := ms) hrun (fun N v i r q h => Or.inl h.1) (fun N v i r q h => by obtain ⟨rfl, rfl, rfl, rfl, rfl⟩ := h; exact K) hF hW hL (by omega) (by omega) (prop_x (fun _ _ _ _ h => h.elim) (by omega) (by omega) hT2) hR hT2
/-- fewer locals, by their places -/
def subL (L' L : List (Option Value)) : Prop := ∀ (i : Nat) (v : Value), L'[i]? = some (some v) → L[i]? = some (some v)
theorem s_z {L : List (Option Value)} : subL [] L := fun i v h => by simp at h
theorem s_e {x : Option Value} {L' L : List (Option Value)} (h : subL L' L) : subL (x :: L') (x :: L) := fun i v hv => by
  cases i with
  | zero => exact hv
  | succ i => exact h i v (by simpa using hv)
theorem s_n {x : Option Value} {L' L : List (Option Value)} (h : subL L' L) : subL (none :: L') (x :: L) := fun i v hv => by
  cases i with
  | zero => simp at hv
  | succ i => exact h i v (by simpa using hv)
theorem PW.sub {l : Launch} {mt : MT} {d mc ms N pc : Nat} {L L' : List (Option Value)} {st : List Value} {im : TI} {rm : TP} {lm : TL} {Q : TQ} {X : TX} (h : subL L' L) (k : PW l mt d mc ms N pc L' st im rm lm Q X) : PW l mt d mc ms N pc L st im rm lm Q X := PW.less h k
theorem Con.mono {l : Launch} {mt : MT} {d mc ms N : Nat} {as : List Value} {im : TI} {rm : TP} {lm : TL} {Q Q' : TQ} {X : TX} (h : Con l mt d mc ms N as im rm lm Q X) (hQ : ∀ N v a b c, Q N v a b c → Q' N v a b c) : Con l mt d mc ms N as im rm lm Q' X := by
  intro D ad cy sz p e hadm hcas hclk s m args below hf happ hP hrest
  obtain ⟨k, o, h1, h2, h3, h4⟩ := h D ad cy sz p e hadm hcas hclk s m args below hf happ hP hrest
  refine ⟨k, o, h1, h2, h3, ?_⟩
  rcases h4 with ⟨⟨⟨v, N', ad', cy', im', rm', lm', e1, e2, e3⟩, e4⟩, e5⟩ | h5
  · exact Or.inl ⟨⟨⟨v, N', ad', cy', im', rm', lm', e1, hQ _ _ _ _ _ e2, e3⟩, e4⟩, e5⟩
  · exact Or.inr h5
