/-! Pure rows of the second way's words, as far as the first way's facts use them -/
/-! TideMillsModel: its row as the creek's numbers -/
def RW (f : Nat → Int32) (S : CS) : Prop := (∀ j, j < 12 → f j = S.1 j) ∧ (∀ m w, m < 5 → w < 10 → f (12 + 34 * m + w) = S.2.1 m w) ∧ ∀ m p k, m < 5 → p < 6 → k < 4 → f (22 + 34 * m + 4 * p + k) = S.2.2 m p k
def MS (i0 : TI) (S : CS) (im : TI) : Prop := RW (im 241) S ∧ ∀ o, o ≠ 241 → im o = i0 o
/-- what divides is above nothing -/
def CJ (S : CS) : Prop := ∀ m, m < 5 → 0 < S.2.1 m 0 ∧ 0 < S.2.1 m 6
theorem CJ.c {S : CS} (h : CJ S) {m : Nat} (hm : m < 5) : ¬ S.2.1 m 0 = 0 := fun z => by have := (h m hm).1; rw [z] at this; exact absurd this (by decide)
theorem ab_n {x : Int32} (h : x < 0) : ab x = -x := by unfold ab; rw [if_neg (Int32.not_le.mpr h)]; simp
theorem ab_p {x : Int32} (h : ¬ x < 0) : ab x = x := by unfold ab; rw [if_pos (Int32.not_lt.mp h)]
theorem rsF_cnt {S : CS} {m : Nat} (h : rsF S m = 0) : ¬ S.2.1 m 9 = 0 := fun z => by
  unfold rsF at h; rw [if_pos z] at h; exact absurd h (by decide)
theorem ahF_1 {S : CS} {a b : Nat} (h : ¬ fdF S a = fdF S b) : ahF S a b ↔ fdF S a < fdF S b := by unfold ahF; rw [if_neg h]
theorem ahF_2 {S : CS} {a b : Nat} (h : fdF S a = fdF S b) (h2 : ¬ hd S a = hd S b) : ahF S a b ↔ hd S b < hd S a := by unfold ahF; rw [if_pos h, if_neg h2]
theorem ahF_3 {S : CS} {a b : Nat} (h : fdF S a = fdF S b) (h2 : hd S a = hd S b) : ahF S a b ↔ a < b := by unfold ahF; rw [if_pos h, if_pos h2]
def rnP (S : CS) (m o : Nat) : Prop := ¬ o = m ∧ rsF S o = 0 ∧ ahF S o m
noncomputable def rnG (S : CS) (m o : Nat) : Int32 := if ¬ o = m ∧ rsF S o = 0 ∧ ahF S o m then 1 else 0
/-- how many go ahead -/
noncomputable def rnS (S : CS) (m : Nat) : Int32 := if rsF S m = 0 then smN (rnG S m) 5 0 0 else -1
noncomputable def rkM (S : CS) (r : Int32) : Option Nat := fdN (fun m => rnS S m = r) 5 0
abbrev cmP (S : CS) (m p : Nat) (due s : Int32) : Prop := due < S.2.2 m p 3 ∨ (due = S.2.2 m p 3 ∧ s < S.2.2 m p 0)
def whS (S : CS) (x : Int32) : Option Nat := fdN (fun k => nI (k % 6) < S.2.1 (k / 6) 9 ∧ S.2.2 (k / 6) (k % 6) 0 = x) 30 0
/-! TideMillsModel: water, sacks that come and go -/
def EqS (S S2 : CS) : Prop := (∀ j, j < 12 → S.1 j = S2.1 j) ∧ (∀ m w, m < 5 → w < 10 → S.2.1 m w = S2.2.1 m w) ∧ ∀ m p k, m < 5 → p < 6 → k < 4 → S.2.2 m p k = S2.2.2 m p k
theorem MS.ext {i0 im : TI} {S S2 : CS} (h : MS i0 S im) (e : EqS S S2) : MS i0 S2 im :=
  ⟨⟨fun j hj => (h.1.1 j hj).trans (e.1 j hj), fun m w hm hw => (h.1.2.1 m w hm hw).trans (e.2.1 m w hm hw), fun m p k hm hp hk => (h.1.2.2 m p k hm hp hk).trans (e.2.2 m p k hm hp hk)⟩, h.2⟩
/-- the tide's step and the sills are small -/
def CB (S : CS) : Prop := (0 ≤ S.1 9 ∧ S.1 9 ≤ 15) ∧ ∀ m, m < 5 → 0 ≤ S.2.1 m 2 ∧ S.2.1 m 2 ≤ 60
theorem ab_bound (h : Int32) : 0 ≤ (ab (6 - (h - h / 12 * 12))).toInt ∧ (ab (6 - (h - h / 12 * 12))).toInt ≤ 17 := by
  have t := rm12 h
  generalize h - h / 12 * 12 = r at t ⊢
  have e : (6 - r).toInt = 6 - r.toInt := by
    rw [Jvm.Kit.i32_sub (by rw [show (6 : Int32).toInt = 6 by decide]; omega) (by rw [show (6 : Int32).toInt = 6 by decide]; omega)]
    rfl
  by_cases h0 : 6 - r < 0
  · rw [ab_n h0]
    rw [Int32.lt_iff_toInt_lt, e] at h0
    rw [show -(6 - r) = 0 - (6 - r) by simp, Jvm.Kit.i32_sub (by rw [e]; show _ ≤ (0 : Int) - _; omega) (by rw [e]; show (0 : Int) - _ < _; omega), e]
    have : (0 : Int32).toInt = 0 := by decide
    rw [this] at h0 ⊢
    omega
  · rw [ab_p h0]
    rw [Int32.lt_iff_toInt_lt, e, show (0 : Int32).toInt = 0 by decide] at h0
    rw [e]
    omega
theorem td_bound {S : CS} (hB : CB S) (h : Int32) : 0 ≤ (tdF S h).toInt ∧ (tdF S h).toInt ≤ 255 := by
  have t := ab_bound h
  obtain ⟨⟨h1, h2⟩, -⟩ := hB
  rw [Int32.le_iff_toInt_le, show (0 : Int32).toInt = 0 by decide] at h1
  rw [Int32.le_iff_toInt_le, show (15 : Int32).toInt = 15 by decide] at h2
  unfold tdF
  generalize ab (6 - (h - h / 12 * 12)) = a at t ⊢
  have p0 : 0 ≤ (S.1 9).toInt * a.toInt := Int.mul_nonneg h1 t.1
  have p1 : (S.1 9).toInt * a.toInt ≤ 15 * 17 := Int.mul_le_mul h2 t.2 t.1 (by decide)
  rw [Jvm.Kit.i32_mul (by omega) (by omega)]
  exact ⟨p0, p1⟩
/-- the place of a sack that is put in from behind -/
def bkN (S : CS) (m : Nat) (due s : Int32) : Nat → Nat
  | 0 => 0
  | q + 1 => if cmP S m q due s then bkN S m due s q else q + 1
theorem bkN_le {S : CS} {m : Nat} {due s : Int32} : ∀ n, bkN S m due s n ≤ n := by
  intro n
  induction n with
  | zero => exact Nat.le_refl _
  | succ n ih => unfold bkN; split <;> omega
/-! TideMillsModel: a turn, an hour -/
/-- what an hour leaves as it was -/
theorem liS_f {S : CS} {m j w : Nat} (h : w ≠ 1) : (liS S m).2.1 j w = S.2.1 j w := by
  unfold liS upF upG; dsimp only; rw [if_neg (fun z => h z.2)]
theorem liS_g {S : CS} {m j : Nat} (h : j ≠ 3) : (liS S m).1 j = S.1 j := by
  unfold liS upF upG; dsimp only; rw [if_neg h]
theorem lwS_f {j w : Nat} (h : w ≠ 1) : ∀ (n m : Nat) (S : CS), (lwS n m S).2.1 j w = S.2.1 j w := by
  intro n
  induction n with
  | zero => intro m S; rfl
  | succ n ih => intro m S; rw [lwS, ih, liS_f h]
theorem lwS_g {j : Nat} (h : j ≠ 3) : ∀ (n m : Nat) (S : CS), (lwS n m S).1 j = S.1 j := by
  intro n
  induction n with
  | zero => intro m S; rfl
  | succ n ih => intro m S; rw [lwS, ih, liS_g h]
theorem tuS_f {S : CS} {m j w : Nat} (h : w ≠ 1) (h7 : w ≠ 7) : (tuS S m).2.1 j w = S.2.1 j w := by
  unfold tuS upF upG; dsimp only; rw [if_neg (fun z => h7 z.2), if_neg (fun z => h z.2)]
theorem tuS_g {S : CS} {m j : Nat} (h : j ≠ 4) : (tuS S m).1 j = S.1 j := by
  unfold tuS upF upG; dsimp only; rw [if_neg h]
theorem g1S_f {S : CS} {m n j w : Nat} (h8 : w ≠ 8) (h9 : w ≠ 9) : (g1S S m n).2.1 j w = S.2.1 j w := by
  unfold g1S dpS upM
  dsimp only
  have e : ∀ a, (upF (upG (if fdF S m < S.1 0 then upG S 7 (S.1 7 + 1) else S) 6 ((if fdF S m < S.1 0 then upG S 7 (S.1 7 + 1) else S).1 6 + 1)) m 8 a).2.1 j w = S.2.1 j w := fun a => by
    unfold upF
    dsimp only
    rw [if_neg (fun z => h8 z.2)]
    split <;> rfl
  by_cases e1 : j = m
  · rw [if_pos e1, if_neg h9, ← e1]
    rw [← e1] at e
    exact e _
  · rw [if_neg e1]
    exact e _
theorem g1S_g {S : CS} {m n j : Nat} (h6 : j ≠ 6) (h7 : j ≠ 7) : (g1S S m n).1 j = S.1 j := by
  unfold g1S dpS upM upF upG
  dsimp only
  rw [if_neg h6]
  split
  · dsimp only; rw [if_neg h7]
  · rfl
theorem grN_f {m j w : Nat} (h8 : w ≠ 8) (h9 : w ≠ 9) : ∀ (n : Nat) (S : CS) (t : Int32), (grN m n S t).1.2.1 j w = S.2.1 j w := by
  intro n
  induction n with
  | zero => intro S t; rfl
  | succ n ih =>
    intro S t
    unfold grN
    split
    · rw [ih, g1S_f h8 h9]
    · rfl
theorem grN_g {m j : Nat} (h6 : j ≠ 6) (h7 : j ≠ 7) : ∀ (n : Nat) (S : CS) (t : Int32), (grN m n S t).1.1 j = S.1 j := by
  intro n
  induction n with
  | zero => intro S t; rfl
  | succ n ih =>
    intro S t
    unfold grN
    split
    · rw [ih, g1S_g h6 h7]
    · rfl
theorem grS_f {S : CS} {m j w : Nat} {t : Int32} (h8 : w ≠ 8) (h9 : w ≠ 9) : (grS S m t).2.1 j w = S.2.1 j w := by
  unfold grS
  dsimp only
  split
  · exact grN_f h8 h9 _ _ _
  · exact grN_f h8 h9 _ _ _
theorem grS_g {S : CS} {m j : Nat} {t : Int32} (h6 : j ≠ 6) (h7 : j ≠ 7) : (grS S m t).1 j = S.1 j := by
  unfold grS
  dsimp only
  split
  · exact grN_g h6 h7 _ _ _
  · exact grN_g h6 h7 _ _ _
theorem tmS_f {S : CS} {o : Option Nat} {j w : Nat} (h1 : w ≠ 1) (h7 : w ≠ 7) (h8 : w ≠ 8) (h9 : w ≠ 9) : (tmS S o).2.1 j w = S.2.1 j w := by
  cases o with
  | none => rfl
  | some m => rw [tmS_s, grS_f h8 h9, tuS_f h1 h7]; rfl
theorem tmS_g {S : CS} {o : Option Nat} {j : Nat} (h : j = 0 ∨ j = 3 ∨ j = 5 ∨ 8 ≤ j) : (tmS S o).1 j = S.1 j := by
  cases o with
  | none =>
    rw [tmS_n]; unfold upG; dsimp only
    rw [if_neg (by omega), if_neg (by omega)]
  | some m =>
    rw [tmS_s, grS_g (by omega) (by omega), tuS_g (by omega)]
    unfold upG; dsimp only
    rw [if_neg (by omega)]
theorem hoS_f {S : CS} {j w : Nat} (h1 : w ≠ 1) (h7 : w ≠ 7) (h8 : w ≠ 8) (h9 : w ≠ 9) : (hoS S).2.1 j w = S.2.1 j w := by
  unfold hoS
  dsimp only
  rw [tmS_f h1 h7 h8 h9, lwS_f h1]
  rfl
theorem hoS_g {S : CS} {j : Nat} (h : j = 5 ∨ 8 ≤ j) : (hoS S).1 j = S.1 j := by
  unfold hoS
  dsimp only
  rw [tmS_g (by omega), lwS_g (by omega)]
  unfold upG; dsimp only
  rw [if_neg (by omega)]
theorem hsS_f {S : CS} {j w : Nat} (h1 : w ≠ 1) (h7 : w ≠ 7) (h8 : w ≠ 8) (h9 : w ≠ 9) : ∀ n, (hsS n S).2.1 j w = S.2.1 j w := by
  intro n
  induction n with
  | zero => rfl
  | succ n ih => rw [hsS_succ, hoS_f h1 h7 h8 h9, ih]
theorem hsS_g {S : CS} {j : Nat} (h : j = 5 ∨ 8 ≤ j) : ∀ n, (hsS n S).1 j = S.1 j := by
  intro n
  induction n with
  | zero => rfl
  | succ n ih => rw [hsS_succ, hoS_g h, ih]
theorem CJ.keep {S S2 : CS} (h : CJ S) (e : ∀ m w, m < 5 → w = 0 ∨ w = 6 → S2.2.1 m w = S.2.1 m w) : CJ S2 := fun m hm => by rw [e m 0 hm (Or.inl rfl), e m 6 hm (Or.inr rfl)]; exact h m hm
theorem CB.keep {S S2 : CS} (h : CB S) (e9 : S2.1 9 = S.1 9) (e : ∀ m, m < 5 → S2.2.1 m 2 = S.2.1 m 2) : CB S2 := ⟨by rw [e9]; exact h.1, fun m hm => by rw [e m hm]; exact h.2 m hm⟩
def CW (S : CS) : Prop := CI S ∧ CJ S ∧ CB S
theorem CW.hours {S : CS} (h : CW S) (n : Nat) : CW (hsS n S) :=
  ⟨hsS_CI h.1 n, h.2.1.keep fun m w _ hw => hsS_f (by omega) (by omega) (by omega) (by omega) n, h.2.2.keep (hsS_g (by omega) n) fun m _ => hsS_f (by omega) (by omega) (by omega) (by omega) n⟩
theorem lt_cnt {S : CS} {m p : Nat} (hI : CI S) (hm : m < 5) (hp : p < 2 ^ 31) : nI p < S.2.1 m 9 ↔ p < cnt S m := by
  obtain ⟨h1, h2⟩ := hI.c hm
  rw [h2]
  exact nI_ltI hp (by omega)
def rsG (S : CS) (k : Nat) : Int32 := if k % 6 < cnt S (k / 6) then S.2.2 (k / 6) (k % 6) 2 else 0
def rmT (S : CS) : Int32 := smN (rsG S) 30 0 0
theorem RW.congr {f g : Nat → Int32} {S : CS} (h : RW f S) (e : ∀ j, j < 182 → g j = f j) : RW g S :=
  ⟨fun j hj => by rw [e j (by omega)]; exact h.1 j hj, fun m w hm hw => by rw [e _ (by omega)]; exact h.2.1 m w hm hw, fun m p k hm hp hk => by rw [e _ (by omega)]; exact h.2.2 m p k hm hp hk⟩
def MV (n : Nat) (T : Nat → CS) (im : TI) : Prop := im 240 2 = nI n ∧ n ≤ 6 ∧ ∀ k, k < n → RW (fun j => im 242 (182 * k + j)) (T k)
/-- the whole reference: its row, what is saved, the snapshot, the text -/
def MZ (Y : TI) (S : CS) (n : Nat) (T : Nat → CS) (sn : Option CS) (bl : Nat) (B : Nat → Int32) (im : TI) : Prop := RW (im 241) S ∧ MV n T im ∧ (im 240 4 = (if sn.isSome then 1 else 0) ∧ ∀ s, sn = some s → RW (im 243) s) ∧ (im 240 7 = nI bl ∧ bl ≤ 60) ∧ (∀ j, j < 60 → im 245 j = B j) ∧ ∀ o, o < 240 → im o = Y o
theorem MZ.keep {Y : TI} {S : CS} {n : Nat} {T : Nat → CS} {sn : Option CS} {bl : Nat} {B : Nat → Int32} {im im2 : TI} (h : MZ Y S n T sn bl B im) (e : ∀ o, o < 240 ∨ o = 241 ∨ o = 242 ∨ o = 243 ∨ o = 245 → im2 o = im o) (e0 : ∀ j, j = 2 ∨ j = 4 ∨ j = 7 → im2 240 j = im 240 j) : MZ Y S n T sn bl B im2 := by
  obtain ⟨h1, ⟨h2, h3, h4⟩, ⟨h5, h6⟩, ⟨h7, h8⟩, h9⟩ := h
  refine ⟨by rw [e 241 (by decide)]; exact h1, ⟨by rw [e0 2 (by decide)]; exact h2, h3, by rw [e 242 (by decide)]; exact h4⟩, ⟨by rw [e0 4 (by decide)]; exact h5, by rw [e 243 (by decide)]; exact h6⟩, ⟨by rw [e0 7 (by decide)]; exact h7, h8⟩, ⟨by rw [e 245 (by decide)]; exact h9.1, fun o ho => (e o (Or.inl ho)).trans (h9.2 o ho)⟩⟩
def gmS (S : CS) (x : Int32) : Option Nat := if whS S x = none then none else fdN (fun h => whS (hsS h S) x = none) 201 0
def lfM (S : CS) (m j : Nat) : Int32 := rmT (hsS 24 (upF S m 6 (nI (60 - 4 * j))))
def bmN (S : CS) (m : Nat) : Nat → Nat → Int32 → Int32 → Int32
  | 0, _, best, _ => best
  | n + 1, j, best, least => if best = 0 ∨ lfM S m j < least then bmN S m n (j + 1) (nI (60 - 4 * j)) (lfM S m j) else bmN S m n (j + 1) best least
theorem CW.stone {S : CS} {m j : Nat} (h : CW S) (hj : j < 14) : CW (upF S m 6 (nI (60 - 4 * j))) := by
  refine ⟨h.1.keep fun a _ => ?_, fun a ha => ?_, h.2.2.keep rfl fun a _ => ?_⟩
  · unfold upF; dsimp only; rw [if_neg (by omega)]
  · unfold upF; dsimp only
    rw [if_neg (by omega)]
    refine ⟨(h.2.1 a ha).1, ?_⟩
    by_cases e : a = m
    · rw [if_pos ⟨e, rfl⟩]; exact (nI_ltI (a := 0) (by decide) (by omega)).mpr (by omega)
    · rw [if_neg (fun z => e z.1)]; exact (h.2.1 a ha).2
  · unfold upF; dsimp only; rw [if_neg (by omega)]
theorem hr_lt {S : CS} {m : Nat} (hI : CI S) (hm : m < 5) (h : hrP S m) : cnt S m < 6 := by
  have h1 := h.1
  rw [(hI.c hm).2] at h1
  exact (nI_ltI (b := 6) (by have := (hI.c hm).1; omega) (by decide)).mp h1
theorem dp_o {S : CS} {m t p n : Nat} (h : m ≠ t) : (dpS S m p n).2.1 t = S.2.1 t ∧ (dpS S m p n).2.2 t = S.2.2 t := by
  unfold dpS upM
  exact ⟨if_neg (fun z => h z.symm), if_neg (fun z => h z.symm)⟩
theorem in_dp {S : CS} {m t p n c pl : Nat} {s h r due : Int32} (hne : m ≠ t) : EqS (inS (dpS S m p n) t c pl s h r due) (dpS (inS S t c pl s h r due) m p n) := by
  refine ⟨fun _ _ => rfl, fun a w _ _ => ?_, fun a q k _ _ _ => ?_⟩
  · unfold inS dpS upM
    dsimp only
    by_cases e1 : a = t
    · subst e1; simp [hne, Ne.symm hne]
    · by_cases e2 : a = m
      · subst e2; simp [hne]
      · simp [e1, e2]
  · unfold inS dpS upM
    dsimp only
    by_cases e1 : a = t
    · subst e1; simp [hne, Ne.symm hne]
    · by_cases e2 : a = m
      · subst e2; simp [hne]
      · simp [e1, e2]
