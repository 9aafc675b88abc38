/-! What the numbers may be; hours keep it, and the rests become less by them -/
def bxM (f : Nat → Int32) : Prop := (50 ≤ (f 0).toInt ∧ (f 0).toInt ≤ 500) ∧ (0 ≤ (f 1).toInt ∧ (f 1).toInt ≤ (f 0).toInt) ∧ (0 ≤ (f 2).toInt ∧ (f 2).toInt ≤ 60) ∧ (0 ≤ (f 3).toInt ∧ (f 3).toInt ≤ (f 4).toInt ∧ (f 4).toInt ≤ 11) ∧ (8 ≤ (f 5).toInt ∧ (f 5).toInt ≤ 60) ∧ 8 ≤ (f 6).toInt ∧ (f 6).toInt ≤ 60
def bxK (k : Nat → Int32) : Prop := 1 ≤ (k 2).toInt ∧ (k 2).toInt ≤ (k 1).toInt ∧ (k 1).toInt ≤ 999
def bxG (G : CG) : Prop := (1 ≤ (G 9).toInt ∧ (G 9).toInt ≤ 15) ∧ (0 ≤ (G 10).toInt ∧ (G 10).toInt ≤ 100) ∧ 5 ≤ (G 11).toInt ∧ (G 11).toInt ≤ 100
def bxS (S : CS) : Prop := bxG S.1 ∧ (∀ m, m < 5 → bxM (S.2.1 m)) ∧ ∀ m p, m < 5 → p < cnt S m → bxK (S.2.2 m p)
theorem bx_0 : (0 : Int32).toInt = 0 := by decide
theorem bxM.congr {f g : Nat → Int32} (h : bxM f) (e : ∀ w, w ≤ 6 → g w = f w) : bxM g := by
  unfold bxM
  rw [e 0 (by decide), e 1 (by decide), e 2 (by decide), e 3 (by decide), e 4 (by decide), e 5 (by decide), e 6 (by decide)]
  exact h
theorem bxK.congr {f g : Nat → Int32} (h : bxK f) (e : ∀ w, 1 ≤ w → w ≤ 2 → g w = f w) : bxK g := by
  unfold bxK
  rw [e 1 (by decide) (by decide), e 2 (by decide) (by decide)]
  exact h
theorem bxG.congr {f g : CG} (h : bxG f) (e : ∀ w, 9 ≤ w → w ≤ 11 → g w = f w) : bxG g := by
  unfold bxG
  rw [e 9 (by decide) (by decide), e 10 (by decide) (by decide), e 11 (by decide) (by decide)]
  exact h
theorem bxS.cb {S : CS} (h : bxS S) : CB S := by
  refine ⟨?_, fun m hm => ?_⟩
  · rw [Int32.le_iff_toInt_le, Int32.le_iff_toInt_le, bx_0, show (15 : Int32).toInt = 15 by decide]
    have := h.1.1
    omega
  · rw [Int32.le_iff_toInt_le, Int32.le_iff_toInt_le, bx_0, show (60 : Int32).toInt = 60 by decide]
    exact (h.2.1 m hm).2.2.1
theorem bx_F2 {S : CS} {m w v : Nat} {x y : Int32} (h : bxS S) (hw : w ≠ 9) (hv : v ≠ 9) (hx : m < 5 → bxM (fun u => if u = v then y else if u = w then x else S.2.1 m u)) : bxS (upF (upF S m w x) m v y) := by
  refine ⟨h.1, fun n hn => ?_, fun n p hn hp => h.2.2 n p hn (by rw [cnt_upF hv, cnt_upF hw] at hp; exact hp)⟩
  by_cases e : n = m
  · subst e
    refine (hx hn).congr fun u _ => ?_
    unfold upF
    dsimp only
    by_cases e3 : u = v
    · rw [if_pos ⟨rfl, e3⟩, if_pos e3]
    · rw [if_neg (fun z => e3 z.2), if_neg e3]
      by_cases e4 : u = w
      · rw [if_pos ⟨rfl, e4⟩, if_pos e4]
      · rw [if_neg (fun z => e4 z.2), if_neg e4]
  · refine (h.2.1 n hn).congr fun u _ => ?_
    unfold upF
    dsimp only
    rw [if_neg (fun z => e z.1), if_neg (fun z => e z.1)]
theorem bx_F {S : CS} {m w : Nat} {x : Int32} (h : bxS S) (hw : w ≠ 9) (hx : m < 5 → bxM (fun u => if u = w then x else S.2.1 m u)) : bxS (upF S m w x) := by
  refine ⟨h.1, fun n hn => ?_, fun n p hn hp => h.2.2 n p hn (by rw [cnt_upF hw] at hp; exact hp)⟩
  by_cases e : n = m
  · subst e
    refine (hx hn).congr fun u _ => ?_
    unfold upF
    dsimp only
    by_cases e3 : u = w
    · rw [if_pos ⟨rfl, e3⟩, if_pos e3]
    · rw [if_neg (fun z => e3 z.2), if_neg e3]
  · refine (h.2.1 n hn).congr fun u _ => ?_
    unfold upF
    dsimp only
    rw [if_neg (fun z => e z.1)]
theorem bx_F7 {S : CS} {m w : Nat} {x : Int32} (h : bxS S) (hw : 6 < w) (h9 : w ≠ 9) : bxS (upF S m w x) := bx_F h h9 fun hm => (h.2.1 m hm).congr fun u hu => if_neg (by omega)
theorem bx_G {S : CS} {k : Nat} {x : Int32} (h : bxS S) (hk : k ≤ 8) : bxS (upG S k x) := ⟨h.1.congr fun w h1 _ => if_neg (by omega), h.2.1, h.2.2⟩
theorem bx_lwf {f : Nat → Int32} {h t : Int32} (hf : bxM f) (ht : 0 ≤ t.toInt ∧ t.toInt ≤ 255) : 0 ≤ (lwf f h t).toInt ∧ (lwf f h t).toInt ≤ (f 0).toInt - (f 1).toInt := by
  obtain ⟨a, b, c, d⟩ := hf
  unfold lwf
  have e1 : (f 0 - f 1).toInt = (f 0).toInt - (f 1).toInt := Jvm.Kit.i32_sub (by omega) (by omega)
  split
  · rw [bx_0]; omega
  · rename_i hc
    have h2 : f 2 < t := Int32.not_le.mp (fun z => hc (Or.inr (Or.inr z)))
    rw [Int32.lt_iff_toInt_lt] at h2
    have e2 : (t - f 2).toInt = t.toInt - (f 2).toInt := Jvm.Kit.i32_sub (by omega) (by omega)
    have e3 : (2 * (t - f 2)).toInt = 2 * (t.toInt - (f 2).toInt) := by
      rw [Jvm.Kit.i32_mul (by rw [e2, show (2 : Int32).toInt = 2 by decide]; omega) (by rw [e2, show (2 : Int32).toInt = 2 by decide]; omega), e2]; rfl
    split
    · rw [e1]; omega
    · rename_i h3
      rw [Int32.lt_iff_toInt_lt, e1, e3] at h3
      rw [e3]; omega
theorem bx_hdf {f : Nat → Int32} {t : Int32} (hf : bxM f) (ht : 0 ≤ t.toInt ∧ t.toInt ≤ 255) : -255 ≤ (hdf f t).toInt ∧ (hdf f t).toInt ≤ 100 := by
  obtain ⟨a, b, c, d⟩ := hf
  unfold hdf
  have h0 : 0 < f 0 := by rw [Int32.lt_iff_toInt_lt, bx_0]; omega
  rw [if_pos h0]
  have e1 : (f 1 * 100).toInt = (f 1).toInt * 100 := by
    rw [Jvm.Kit.i32_mul (by rw [show (100 : Int32).toInt = 100 by decide]; omega) (by rw [show (100 : Int32).toInt = 100 by decide]; omega)]; rfl
  have e2 : (f 1 * 100 / f 0).toInt = (f 1).toInt * 100 / (f 0).toInt := by
    rw [Jvm.Kit.i32_div (by rw [e1]; omega), e1, Int.tdiv_eq_ediv_of_nonneg (by omega)]
  have q1 : 0 ≤ (f 1).toInt * 100 / (f 0).toInt := Int.ediv_nonneg (by omega) (by omega)
  have q2 : (f 1).toInt * 100 / (f 0).toInt ≤ 100 := Int.ediv_le_of_le_mul (by omega) (by omega)
  rw [Jvm.Kit.i32_sub (by rw [e2]; omega) (by rw [e2]; omega), e2]
  omega
theorem bx_tof {f : Nat → Int32} {t : Int32} (hf : bxM f) (ht : 0 ≤ t.toInt ∧ t.toInt ≤ 100) : 0 ≤ (tof f t).toInt ∧ (tof f t).toInt ≤ 6000 := by
  obtain ⟨a, b, c, d, g, h⟩ := hf
  unfold tof
  have h0 : 0 < f 6 := by rw [Int32.lt_iff_toInt_lt, bx_0]; omega
  rw [if_pos h0]
  have p0 : 0 ≤ t.toInt * (f 5).toInt := Int.mul_nonneg ht.1 (by omega)
  have p1 : t.toInt * (f 5).toInt ≤ 100 * 60 := Int.mul_le_mul ht.2 g.2 (by omega) (by decide)
  have e1 : (t * f 5).toInt = t.toInt * (f 5).toInt := Jvm.Kit.i32_mul (by omega) (by omega)
  rw [Jvm.Kit.i32_div (by rw [e1]; omega), e1, Int.tdiv_eq_ediv_of_nonneg p0]
  generalize t.toInt * (f 5).toInt = z at p0 p1 ⊢
  exact ⟨Int.ediv_nonneg p0 (by omega), Int.le_trans (Int.ediv_le_self _ p0) (by omega)⟩
/-! sums of rests -/
def sI (g : Nat → Int) : Nat → Int
  | 0 => 0
  | n + 1 => sI g n + g n
theorem sI_congr {g h : Nat → Int} : ∀ n, (∀ p, p < n → g p = h p) → sI g n = sI h n := by
  intro n
  induction n with
  | zero => intro _; rfl
  | succ n ih => intro e; rw [sI, sI, ih (fun p hp => e p (by omega)), e n (by omega)]
theorem sI_shift {g : Nat → Int} : ∀ n, sI g (n + 1) = g 0 + sI (fun p => g (p + 1)) n := by
  intro n
  induction n with
  | zero => show (0 : Int) + g 0 = g 0 + 0; omega
  | succ n ih => rw [sI, ih, sI]; omega
theorem sI_b {g : Nat → Int} : ∀ n : Nat, (∀ p, p < n → 0 ≤ g p ∧ g p ≤ 999) → 0 ≤ sI g n ∧ sI g n ≤ 999 * n := by
  intro n
  induction n with
  | zero => intro _; exact ⟨Int.le_refl _, Int.le_refl _⟩
  | succ n ih =>
    intro e
    have h1 := ih fun p hp => e p (by omega)
    have h2 := e n (by omega)
    rw [sI]
    omega
def RIm (S : CS) (m : Nat) : Int := sI (fun p => (S.2.2 m p 2).toInt) (cnt S m)
def RI (S : CS) : Int := RIm S 0 + RIm S 1 + RIm S 2 + RIm S 3 + RIm S 4
theorem RI_eq {S S2 : CS} (hc : ∀ j, cnt S2 j = cnt S j) (hk : ∀ j p, S2.2.2 j p 2 = S.2.2 j p 2) : RI S2 = RI S := by
  have h : ∀ j, RIm S2 j = RIm S j := fun j => by
    unfold RIm
    rw [hc]
    exact sI_congr _ fun p _ => by rw [hk]
  unfold RI
  rw [h, h, h, h, h]
theorem RI_one {S S2 : CS} {m : Nat} (hm : m < 5) (h : ∀ j, j ≠ m → RIm S2 j = RIm S j) : RI S2 - RIm S2 m = RI S - RIm S m := by
  unfold RI
  rcases (show m = 0 ∨ m = 1 ∨ m = 2 ∨ m = 3 ∨ m = 4 by omega) with rfl | rfl | rfl | rfl | rfl
  · rw [h 1 (by decide), h 2 (by decide), h 3 (by decide), h 4 (by decide)]; omega
  · rw [h 0 (by decide), h 2 (by decide), h 3 (by decide), h 4 (by decide)]; omega
  · rw [h 0 (by decide), h 1 (by decide), h 3 (by decide), h 4 (by decide)]; omega
  · rw [h 0 (by decide), h 1 (by decide), h 2 (by decide), h 4 (by decide)]; omega
  · rw [h 0 (by decide), h 1 (by decide), h 2 (by decide), h 3 (by decide)]; omega
theorem g1_RI {S : CS} {m : Nat} (hI : CI S) (hm : m < 5) (hc : 0 < cnt S m) : RI (g1S S m (cnt S m)) = RI S - (S.2.2 m 0 2).toInt := by
  have hone := RI_one (S := S) (S2 := g1S S m (cnt S m)) hm fun j e => by
    unfold RIm
    rw [g1S_cnt (hI.c hm).1, if_neg e]
    exact sI_congr _ fun p _ => by rw [g1S_K, if_neg e]
  have hmm : RIm (g1S S m (cnt S m)) m = RIm S m - (S.2.2 m 0 2).toInt := by
    unfold RIm
    rw [g1S_cnt (hI.c hm).1, if_pos rfl]
    obtain ⟨n, hn⟩ : ∃ n, cnt S m = n + 1 := ⟨cnt S m - 1, by omega⟩
    rw [hn, Nat.add_sub_cancel, sI_shift]
    have : sI (fun p => ((g1S S m (n + 1)).2.2 m p 2).toInt) n = sI (fun p => (S.2.2 m (p + 1) 2).toInt) n := sI_congr _ fun p hp => by rw [g1S_K, if_pos rfl, if_pos (by omega)]
    rw [this]
    omega
  omega
theorem g1_F {S : CS} {m n a w : Nat} (h9 : w ≠ 9) (h8 : w ≠ 8) : (g1S S m n).2.1 a w = S.2.1 a w := by
  unfold g1S
  dsimp only
  rw [dp_F h9]
  unfold upF
  dsimp only
  rw [if_neg (fun z => h8 z.2)]
  show (if fdF S m < S.1 0 then upG S 7 (S.1 7 + 1) else S).2.1 a w = S.2.1 a w
  split <;> rfl
theorem bx_g1 {S : CS} {m : Nat} (hI : CI S) (hm : m < 5) (hc : 0 < cnt S m) (h : bxS S) : bxS (g1S S m (cnt S m)) := by
  refine ⟨h.1.congr fun w h1 h2 => ?_, fun a ha => (h.2.1 a ha).congr fun w hw => g1_F (by omega) (by omega), fun a p ha hp => ?_⟩
  · rw [g1_G, if_neg (by omega), if_neg (by omega)]
  · rw [g1S_cnt (hI.c hm).1] at hp
    by_cases e : a = m
    · subst e
      rw [if_pos rfl] at hp
      exact (h.2.2 a (p + 1) ha (by omega)).congr fun w _ _ => by rw [g1S_K, if_pos rfl, if_pos (by omega)]
    · rw [if_neg e] at hp
      exact (h.2.2 a p ha hp).congr fun w _ _ => by rw [g1S_K, if_neg e]
theorem bx_gr {m : Nat} (hm : m < 5) : ∀ n (S : CS) (t : Int32), n ≤ 6 → CI S → S.2.1 m 9 = nI n → bxS S → 0 ≤ t.toInt → t.toInt ≤ 6000 → bxS (grN m n S t).1 ∧ CI (grN m n S t).1 ∧ 0 ≤ (grN m n S t).2.toInt ∧ (0 < cnt (grN m n S t).1 m → (grN m n S t).2.toInt < ((grN m n S t).1.2.2 m 0 2).toInt) ∧ RI (grN m n S t).1 + t.toInt = RI S + (grN m n S t).2.toInt := by
  intro n
  induction n with
  | zero =>
    intro S t _ hI hc h h0 _
    have e : cnt S m = 0 := by unfold cnt; rw [hc]; decide
    exact ⟨h, hI, h0, fun z => absurd z (by show ¬ 0 < cnt S m; omega), rfl⟩
  | succ n ih =>
    intro S t hn hI hc h h0 h6
    have e : cnt S m = n + 1 := by unfold cnt; rw [hc, nI_clamp (by omega)]
    have hk := h.2.2 m 0 hm (by omega)
    unfold grN
    by_cases hr : S.2.2 m 0 2 ≤ t
    · rw [if_pos hr]
      rw [Int32.le_iff_toInt_le] at hr
      have et : (t - S.2.2 m 0 2).toInt = t.toInt - (S.2.2 m 0 2).toInt := Jvm.Kit.i32_sub (by have := hk.1; have := hk.2.1; have := hk.2.2; omega) (by have := hk.1; omega)
      have hb := bx_g1 hI hm (by omega) h
      have hR := g1_RI hI hm (by omega)
      rw [e] at hb hR
      obtain ⟨r1, r2, r3, r4, r5⟩ := ih (g1S S m (n + 1)) (t - S.2.2 m 0 2) (by omega) (by
        intro j hj
        rw [g1S_f9]
        by_cases e1 : j = m
        · rw [if_pos e1]; exact ⟨n, by omega, rfl⟩
        · rw [if_neg e1]; exact hI j hj) g1_cnt hb (by omega) (by have := hk.1; omega)
      exact ⟨r1, r2, r3, r4, by omega⟩
    · rw [if_neg hr]
      have hr2 := Int32.not_le.mp hr
      rw [Int32.lt_iff_toInt_lt] at hr2
      exact ⟨h, hI, h0, fun _ => hr2, rfl⟩
theorem bx_K0 {S : CS} {m : Nat} {x : Int32} (h : bxS S) (h1 : m < 5 → 1 ≤ x.toInt) (h2 : x.toInt ≤ (S.2.2 m 0 2).toInt) : bxS (upK S m 0 2 x) := by
  refine ⟨h.1, h.2.1, fun a p ha hp => ?_⟩
  have hk := h.2.2 a p ha hp
  by_cases e : a = m ∧ p = 0
  · obtain ⟨rfl, rfl⟩ := e
    have e2 : (upK S a 0 2 x).2.2 a 0 2 = x := if_pos ⟨rfl, rfl, rfl⟩
    have e1 : (upK S a 0 2 x).2.2 a 0 1 = S.2.2 a 0 1 := if_neg (by omega)
    unfold bxK
    rw [e2, e1]
    have := hk.2.1
    exact ⟨h1 ha, by omega, hk.2.2⟩
  · exact hk.congr fun w _ _ => if_neg (fun z => e ⟨z.1, z.2.1⟩)
theorem K0_RI {S : CS} {m : Nat} {x : Int32} (hm : m < 5) (hc : 0 < cnt S m) : RI (upK S m 0 2 x) = RI S - (S.2.2 m 0 2).toInt + x.toInt := by
  have hone := RI_one (S := S) (S2 := upK S m 0 2 x) hm fun j e => sI_congr _ fun p _ => by
    show (if j = m ∧ p = 0 ∧ 2 = 2 then x else S.2.2 j p 2).toInt = _
    rw [if_neg (fun z => e z.1)]
  have hmm : RIm (upK S m 0 2 x) m = RIm S m - (S.2.2 m 0 2).toInt + x.toInt := by
    show sI (fun p => (if m = m ∧ p = 0 ∧ 2 = 2 then x else S.2.2 m p 2).toInt) (cnt S m) = sI (fun p => (S.2.2 m p 2).toInt) (cnt S m) - _ + _
    obtain ⟨n, hn⟩ : ∃ n, cnt S m = n + 1 := ⟨cnt S m - 1, by omega⟩
    rw [hn, sI_shift, sI_shift]
    have : sI (fun p => (if m = m ∧ p + 1 = 0 ∧ 2 = 2 then x else S.2.2 m (p + 1) 2).toInt) n = sI (fun p => (S.2.2 m (p + 1) 2).toInt) n := sI_congr _ fun p hp => by rw [if_neg (by omega)]
    rw [this, if_pos ⟨rfl, rfl, rfl⟩]
    omega
  omega
theorem rs_0 {S : CS} {m : Nat} (h : rsF S m = 0) : ¬ S.2.1 m 9 = 0 ∧ ¬ hd S m < S.1 10 ∧ ¬ S.2.1 m 1 < S.1 11 := by
  unfold rsF at h
  by_cases h1 : S.2.1 m 9 = 0
  · rw [if_pos h1] at h; exact absurd h (by decide)
  · rw [if_neg h1] at h
    by_cases h2 : hd S m < S.1 10
    · rw [if_pos h2] at h; exact absurd h (by decide)
    · rw [if_neg h2] at h
      by_cases h3 : S.2.1 m 1 < S.1 11
      · rw [if_pos h3] at h; exact absurd h (by decide)
      · exact ⟨h1, h2, h3⟩
theorem bx_li {S : CS} {m : Nat} (h : bxS S) : bxS (liS S m) ∧ RI (liS S m) = RI S := by
  refine ⟨?_, RI_eq (fun j => cnt_upF (by decide)) fun _ _ => rfl⟩
  unfold liS
  dsimp only
  refine bx_F (S := upG S 3 _) (bx_G h (by decide)) (by decide) fun hm => ?_
  have hl := bx_lwf (h := S.1 0) (h.2.1 m hm) (td_bound h.cb (S.1 0))
  generalize lwf (S.2.1 m) (S.1 0) (tdF S (S.1 0)) = x at hl ⊢
  obtain ⟨a, b, c⟩ := h.2.1 m hm
  have e : (S.2.1 m 1 + x).toInt = (S.2.1 m 1).toInt + x.toInt := Jvm.Kit.i32_add (by omega) (by omega)
  refine ⟨a, ?_, c⟩
  show 0 ≤ (S.2.1 m 1 + x).toInt ∧ (S.2.1 m 1 + x).toInt ≤ (S.2.1 m 0).toInt
  rw [e]
  omega
theorem bx_lw : ∀ n m (S : CS), bxS S → bxS (lwS n m S) ∧ RI (lwS n m S) = RI S := by
  intro n
  induction n with
  | zero => intro m S h; exact ⟨h, rfl⟩
  | succ n ih =>
    intro m S h
    obtain ⟨h1, h2⟩ := bx_li (m := m) h
    obtain ⟨h3, h4⟩ := ih (m + 1) (liS S m) h1
    exact ⟨h3, h4.trans h2⟩
theorem bx_tu {S : CS} {m : Nat} (h : bxS S) (hw : ¬ S.2.1 m 1 < S.1 11) : bxS (tuS S m) ∧ RI (tuS S m) = RI S := by
  refine ⟨?_, RI_eq (fun j => by unfold cnt; rw [tuS_f9]) fun _ _ => rfl⟩
  unfold tuS
  dsimp only
  refine bx_F7 (bx_G (bx_F h (by decide) fun hm => ?_) (by decide)) (by decide) (by decide)
  obtain ⟨a, b, c⟩ := h.2.1 m hm
  have hw2 := Int32.not_lt.mp hw
  rw [Int32.le_iff_toInt_le] at hw2
  have h11 := h.1.2.2
  have e : (S.2.1 m 1 - S.1 11).toInt = (S.2.1 m 1).toInt - (S.1 11).toInt := Jvm.Kit.i32_sub (by omega) (by omega)
  refine ⟨a, ?_, c⟩
  show 0 ≤ (S.2.1 m 1 - S.1 11).toInt ∧ (S.2.1 m 1 - S.1 11).toInt ≤ (S.2.1 m 0).toInt
  rw [e]
  omega
theorem hd_b {S : CS} {m : Nat} (h : bxS S) (hm : m < 5) : -255 ≤ (hd S m).toInt ∧ (hd S m).toInt ≤ 100 := bx_hdf (h.2.1 m hm) (td_bound h.cb _)
theorem bx_grS {S : CS} {m : Nat} {t : Int32} (hm : m < 5) (hI : CI S) (h : bxS S) (h0 : 0 ≤ t.toInt) (h6 : t.toInt ≤ 6000) : bxS (grS S m t) ∧ RI (grS S m t) ≤ RI S := by
  obtain ⟨r1, r2, r3, r4, r5⟩ := bx_gr hm (cnt S m) S t (hI.c hm).1 hI (hI.c hm).2 h h0 h6
  have h7 : (grN m (cnt S m) S t).2.toInt ≤ t.toInt := by
    have key : ∀ n (S : CS) (t : Int32), n ≤ 6 → CI S → S.2.1 m 9 = nI n → bxS S → 0 ≤ t.toInt → t.toInt ≤ 6000 → (grN m n S t).2.toInt ≤ t.toInt := by
      intro n
      induction n with
      | zero => intro S t _ _ _ _ _ _; exact Int.le_refl _
      | succ n ih =>
        intro S t hn hI hc h h0 h6
        have e : cnt S m = n + 1 := by unfold cnt; rw [hc, nI_clamp (by omega)]
        have hk := h.2.2 m 0 hm (by omega)
        unfold grN
        by_cases hr : S.2.2 m 0 2 ≤ t
        · rw [if_pos hr]
          rw [Int32.le_iff_toInt_le] at hr
          have et : (t - S.2.2 m 0 2).toInt = t.toInt - (S.2.2 m 0 2).toInt := Jvm.Kit.i32_sub (by have := hk.1; have := hk.2.1; have := hk.2.2; omega) (by have := hk.1; omega)
          have hb := bx_g1 hI hm (by omega) h
          rw [e] at hb
          have := ih (g1S S m (n + 1)) (t - S.2.2 m 0 2) (by omega) (by
            intro j hj
            rw [g1S_f9]
            by_cases e1 : j = m
            · rw [if_pos e1]; exact ⟨n, by omega, rfl⟩
            · rw [if_neg e1]; exact hI j hj) g1_cnt hb (by omega) (by have := hk.1; omega)
          have := hk.1
          omega
        · rw [if_neg hr]; exact Int.le_refl _
    exact key (cnt S m) S t (hI.c hm).1 hI (hI.c hm).2 h h0 h6
  unfold grS
  dsimp only
  generalize grN m (cnt S m) S t = r at *
  split
  · rename_i hp
    have hc : 0 < cnt r.1 m := by
      rcases Nat.eq_zero_or_pos (cnt r.1 m) with z | z
      · rw [(r2.c hm).2, z] at hp; exact absurd hp (by decide)
      · exact z
    have h8 := r4 hc
    have hk := r1.2.2 m 0 hm hc
    have et : (r.1.2.2 m 0 2 - r.2).toInt = (r.1.2.2 m 0 2).toInt - r.2.toInt := Jvm.Kit.i32_sub (by omega) (by have := hk.2.1; have := hk.2.2; omega)
    refine ⟨bx_K0 r1 (fun _ => by omega) (by omega), ?_⟩
    rw [K0_RI hm hc]
    omega
  · exact ⟨r1, by omega⟩
theorem RI_G {S : CS} {k : Nat} {x : Int32} : RI (upG S k x) = RI S := RI_eq (fun _ => rfl) fun _ _ => rfl
theorem hd_G {S : CS} {m k : Nat} {x : Int32} (h0 : 0 ≠ k) (h9 : 9 ≠ k) : hd (upG S k x) m = hd S m := by
  unfold hd tdF
  rw [upG_ne h0, upG_ne h9]
  rfl
theorem rs_G1 {S : CS} {m : Nat} {x : Int32} (h : rsF S m = 0) : rsF (upG S 1 x) m = 0 := by
  unfold rsF at h ⊢
  rw [hd_G (by decide) (by decide), upG_ne (by decide), upG_ne (by decide)]
  exact h
/-- a mill that can turn turns -/
theorem bx_turn {S : CS} {m : Nat} (hm : m < 5) (hI : CI S) (h : bxS S) (hr : rsF S m = 0) : bxS (grS (tuS S m) m (tof (S.2.1 m) (hd S m))) ∧ RI (grS (tuS S m) m (tof (S.2.1 m) (hd S m))) ≤ RI S := by
  obtain ⟨q1, q2, q3⟩ := rs_0 hr
  have q4 := Int32.not_lt.mp q2
  rw [Int32.le_iff_toInt_le] at q4
  have h10 := h.1.2.1
  have hh := hd_b h hm
  obtain ⟨h5, h6⟩ := bx_tu (m := m) h q3
  have hI5 : CI (tuS S m) := hI.keep fun _ _ => tuS_f9
  have ht := bx_tof (t := hd S m) (h.2.1 m hm) ⟨by omega, hh.2⟩
  obtain ⟨r1, r2⟩ := bx_grS hm hI5 h5 ht.1 ht.2
  exact ⟨r1, by rw [h6] at r2; exact r2⟩
theorem bx_tm {S : CS} {o : Option Nat} (hI : CI S) (h : bxS S) (ho : ∀ m, o = some m → m < 5 ∧ rsF S m = 0) : bxS (tmS S o) ∧ RI (tmS S o) ≤ RI S := by
  rcases o with _ | m
  · refine ⟨bx_G (bx_G h (by decide)) (by decide), ?_⟩
    show RI (upG (upG S 1 0) 2 (S.1 2 + 1)) ≤ RI S
    rw [RI_G, RI_G]
    exact Int.le_refl _
  · obtain ⟨hm, hr⟩ := ho m rfl
    rw [tmS_s]
    have h4 := bx_turn hm (S := upG S 1 (nI m + 1)) (hI.keep fun _ _ => rfl) (bx_G h (by decide)) (rs_G1 hr)
    rw [RI_G] at h4
    exact h4
theorem bx_hour {S : CS} (hI : CI S) (h : bxS S) : bxS (hoS S) ∧ RI (hoS S) ≤ RI S := by
  have hI2 : CI (lwS 5 0 (upG S 0 (S.1 0 + 1))) := hI.keep fun _ _ => lwS_f9 5 0 _
  obtain ⟨h2, h3⟩ := bx_lw 5 0 (upG S 0 (S.1 0 + 1)) (bx_G h (by decide))
  rw [RI_G] at h3
  have h4 := bx_tm (o := bhN (lwS 5 0 (upG S 0 (S.1 0 + 1))) none 5 0 none) hI2 h2 fun m hb => ⟨bhN_lt 5 0 none (by omega) (fun _ z => by cases z) m hb, (bh_some hb).2.1.1⟩
  rw [h3] at h4
  exact h4
theorem bx_hours {S : CS} (hI : CI S) (h : bxS S) : ∀ n, bxS (hsS n S) ∧ RI (hsS n S) ≤ RI S := by
  intro n
  induction n with
  | zero => exact ⟨h, Int.le_refl _⟩
  | succ n ih =>
    rw [hsS_succ]
    obtain ⟨h1, h2⟩ := bx_hour (hsS_CI hI n) ih.1
    exact ⟨h1, Int.le_trans h2 ih.2⟩
theorem smN_toInt {g : Nat → Int32} : ∀ n k (x : Int32), (∀ j, j < n → 0 ≤ (g (k + j)).toInt ∧ (g (k + j)).toInt ≤ 999) → 0 ≤ x.toInt → x.toInt + 999 * (n : Int) < 2 ^ 31 → (smN g n k x).toInt = x.toInt + sI (fun p => (g (k + p)).toInt) n := by
  intro n
  induction n with
  | zero => intro k x _ _ _; show x.toInt = x.toInt + 0; omega
  | succ n ih =>
    intro k x hg h0 h1
    have g0 := hg 0 (by omega)
    rw [Nat.add_zero] at g0
    have e : (x + g k).toInt = x.toInt + (g k).toInt := Jvm.Kit.i32_add (by omega) (by omega)
    rw [smN, ih (k + 1) (x + g k) (fun j hj => by have := hg (j + 1) (by omega); rw [show k + 1 + j = k + (j + 1) by omega]; exact this) (by omega) (by omega), e, sI_shift]
    have : sI (fun p => (g (k + 1 + p)).toInt) n = sI (fun p => (g (k + (p + 1))).toInt) n := sI_congr _ fun p _ => by rw [show k + 1 + p = k + (p + 1) by omega]
    rw [this, Nat.add_zero]
    omega
theorem RIm_b {S : CS} {m : Nat} (hI : CI S) (h : bxS S) (hm : m < 5) : 0 ≤ RIm S m ∧ RIm S m ≤ 5994 := by
  have hc := (hI.c hm).1
  have := sI_b (g := fun p => (S.2.2 m p 2).toInt) (cnt S m) fun p hp => by
    obtain ⟨a, b, c⟩ := h.2.2 m p hm hp
    exact ⟨by omega, by omega⟩
  unfold RIm
  omega
theorem RI_b {S : CS} (hI : CI S) (h : bxS S) : 0 ≤ RI S ∧ RI S ≤ 29970 := by
  have h0 := RIm_b hI h (m := 0) (by decide)
  have h1 := RIm_b hI h (m := 1) (by decide)
  have h2 := RIm_b hI h (m := 2) (by decide)
  have h3 := RIm_b hI h (m := 3) (by decide)
  have h4 := RIm_b hI h (m := 4) (by decide)
  unfold RI
  omega
theorem rt_toInt {S : CS} (hI : CI S) (h : bxS S) : (rtS S).toInt = RI S := by
  have step : ∀ m (x : Int32), m < 5 → 0 ≤ x.toInt → x.toInt ≤ 30000 → (smN (fun p => S.2.2 m p 2) (cnt S m) 0 x).toInt = x.toInt + RIm S m := by
    intro m x hm h0 h1
    have hc := (hI.c hm).1
    rw [smN_toInt (cnt S m) 0 x (fun j hj => by
      obtain ⟨a, b, c⟩ := h.2.2 m j hm hj
      rw [Nat.zero_add]
      exact ⟨by omega, by omega⟩) h0 (by omega)]
    unfold RIm
    congr 1
    exact sI_congr _ fun p _ => by rw [Nat.zero_add]
  have h0 := RIm_b hI h (m := 0) (by decide)
  have h1 := RIm_b hI h (m := 1) (by decide)
  have h2 := RIm_b hI h (m := 2) (by decide)
  have h3 := RIm_b hI h (m := 3) (by decide)
  have h4 := RIm_b hI h (m := 4) (by decide)
  unfold rtS
  rw [rtN, rtN, rtN, rtN, rtN, rtN]
  have e0 := step 0 0 (by decide) (by rw [bx_0]; omega) (by rw [bx_0]; omega)
  rw [bx_0] at e0
  have e1 := step 1 _ (by decide) (by rw [e0]; omega) (by rw [e0]; omega)
  rw [e0] at e1
  have e2 := step 2 _ (by decide) (by rw [e1]; omega) (by rw [e1]; omega)
  rw [e1] at e2
  have e3 := step 3 _ (by decide) (by rw [e2]; omega) (by rw [e2]; omega)
  rw [e2] at e3
  have e4 := step 4 _ (by decide) (by rw [e3]; omega) (by rw [e3]; omega)
  rw [e3] at e4
  unfold RI
  rw [e4]
  omega
/-! the best stone: what is left is least where it became less by most -/
theorem left_b {S : CS} {m j : Nat} (hI : CI S) (h : bxS S) (hj : j < 14) : 0 ≤ (leftS S m j).toInt ∧ (leftS S m j).toInt ≤ RI S := by
  have hI2 : CI (upF S m 6 (nI (60 - 4 * j))) := hI.keep fun n _ => uf6 (by decide)
  have hb : bxS (upF S m 6 (nI (60 - 4 * j))) := bx_F h (by decide) fun hm => by
    obtain ⟨a1, a2, a3, a4, a5, a6⟩ := h.2.1 m hm
    refine ⟨a1, a2, a3, a4, a5, ?_⟩
    show 8 ≤ (nI (60 - 4 * j)).toInt ∧ (nI (60 - 4 * j)).toInt ≤ 60
    rw [nI_toInt (by omega)]
    omega
  obtain ⟨h1, h2⟩ := bx_hours hI2 hb 24
  unfold leftS
  rw [rt_toInt (hsS_CI hI2 24) h1]
  have h3 := RI_b (hsS_CI hI2 24) h1
  have h4 : RI (upF S m 6 (nI (60 - 4 * j))) = RI S := RI_eq (fun _ => cnt_upF (by decide)) fun _ _ => rfl
  omega
theorem less_lt {S : CS} {m j : Nat} {least : Int32} (hI : CI S) (h : bxS S) (hj : j < 14) (h0 : 0 ≤ least.toInt) (h1 : least.toInt ≤ RI S) : leftS S m j < least ↔ rtS S - least < rtS S - leftS S m j := by
  have hl := left_b (m := m) hI h hj
  have hr := rt_toInt hI h
  have hb := RI_b hI h
  rw [Int32.lt_iff_toInt_lt, Int32.lt_iff_toInt_lt, Jvm.Kit.i32_sub (by omega) (by omega), Jvm.Kit.i32_sub (by omega) (by omega), hr]
  omega
theorem bm_bs {S : CS} {m : Nat} (hW : CW S) (h : bxS S) : bmN S m 14 0 0 0 = bsS S m := by
  have hI := hW.1
  have key : ∀ n j best least, j + n = 14 → best ≠ 0 → 0 ≤ least.toInt → least.toInt ≤ RI S → bmN S m n j best least = bsN S m n j best (rtS S - least) := by
    intro n
    induction n with
    | zero => intro j best least _ _ _ _; rfl
    | succ n ih =>
      intro j best least hj hb h0 h1
      have hl := left_b (m := m) (j := j) hI h (by omega)
      rw [bmN, bsN, lf_left hW (by omega)]
      by_cases hc : leftS S m j < least
      · rw [if_pos (Or.inr hc), if_pos ((less_lt hI h (by omega) h0 h1).mp hc)]
        exact ih (j + 1) _ _ (by omega) (nI_ne0 (by omega) (by omega)) hl.1 hl.2
      · rw [if_neg (fun z => z.elim hb hc), if_neg (fun z => hc ((less_lt hI h (by omega) h0 h1).mpr z))]
        exact ih (j + 1) _ _ (by omega) hb h0 h1
  have hl := left_b (m := m) (j := 0) hI h (by decide)
  have h1 : bmN S m 14 0 0 0 = bsN S m 13 1 60 (rtS S - leftS S m 0) := by
    rw [bmN, if_pos (Or.inl rfl), lf_left hW (by decide)]
    exact key 13 1 60 _ rfl (by decide) hl.1 hl.2
  rw [h1]
  unfold bsS
  by_cases h9 : S.2.1 m 9 = 0
  · rw [if_pos h9]
    have hl : ∀ j, leftS S m j = rtS (hsS 24 S) := fun j => by unfold leftS; rw [(hs6 h9 24).1, rt_6]
    have hb : ∀ n j best, bsN S m n j best (rtS S - rtS (hsS 24 S)) = best := by
      intro n
      induction n with
      | zero => intro j best; rfl
      | succ n ih => intro j best; rw [bsN, hl j, if_neg i32_lt_irr, ih]
    rw [hl 0]
    exact hb 13 1 60
  · rw [if_neg h9]
    have hr := rt_toInt hI h
    have hb := RI_b hI h
    have hp : (-1 : Int32) < rtS S - leftS S m 0 := by
      rw [Int32.lt_iff_toInt_lt, Jvm.Kit.i32_sub (by omega) (by omega), show (-1 : Int32).toInt = -1 by decide]
      omega
    rw [show bsN S m 14 0 60 (-1) = if (-1 : Int32) < rtS S - leftS S m 0 then bsN S m 13 1 60 (rtS S - leftS S m 0) else bsN S m 13 1 60 (-1) from rfl, if_pos hp]
