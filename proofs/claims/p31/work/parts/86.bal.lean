/-! What adds up: hours, water, sacks; what an hour tells -/
theorem sm_up {f g : Nat → Int32} {a : Nat} {x : Int32} (ha : a < 5) (h1 : g a = f a + x) (ho : ∀ m, m ≠ a → g m = f m) : smN g 5 0 0 = smN f 5 0 0 + x := by
  show 0 + g 0 + g 1 + g 2 + g 3 + g 4 = 0 + f 0 + f 1 + f 2 + f 3 + f 4 + x
  rcases (show a = 0 ∨ a = 1 ∨ a = 2 ∨ a = 3 ∨ a = 4 by omega) with rfl | rfl | rfl | rfl | rfl
  · rw [h1, ho 1 (by decide), ho 2 (by decide), ho 3 (by decide), ho 4 (by decide)]; ac_rfl
  · rw [h1, ho 0 (by decide), ho 2 (by decide), ho 3 (by decide), ho 4 (by decide)]; ac_rfl
  · rw [h1, ho 0 (by decide), ho 1 (by decide), ho 3 (by decide), ho 4 (by decide)]; ac_rfl
  · rw [h1, ho 0 (by decide), ho 1 (by decide), ho 2 (by decide), ho 4 (by decide)]; ac_rfl
  · rw [h1, ho 0 (by decide), ho 1 (by decide), ho 2 (by decide), ho 3 (by decide)]; ac_rfl
abbrev sF (S : CS) (w : Nat) : Int32 := smN (fun m => S.2.1 m w) 5 0 0
theorem sF_eq {S S2 : CS} {w : Nat} (h : ∀ m, m < 5 → S2.2.1 m w = S.2.1 m w) : sF S2 w = sF S w := smN_congr 5 0 0 fun j hj => h (0 + j) (by omega)
/-- what adds up; e: the hours that have begun and are neither turned nor idle -/
def BLe (S : CS) (e : Int32) : Prop := sF S 7 + S.1 2 + e = S.1 0 ∧ S.1 3 = S.1 4 + sF S 1 ∧ S.1 6 = sF S 8 ∧ S.1 5 = sF S 9 + S.1 6 + S.1 8
theorem BLe.same {S S2 : CS} {e : Int32} (h : BLe S e) (hg : ∀ j, j ≤ 8 → j ≠ 1 → j ≠ 7 → S2.1 j = S.1 j) (hf : ∀ m w, m < 5 → (w = 1 ∨ 7 ≤ w ∧ w ≤ 9) → S2.2.1 m w = S.2.1 m w) : BLe S2 e := by
  unfold BLe
  rw [sF_eq (fun m hm => hf m 7 hm (by omega)), sF_eq (fun m hm => hf m 1 hm (by omega)), sF_eq (fun m hm => hf m 8 hm (by omega)), sF_eq (fun m hm => hf m 9 hm (by omega)), hg 0 (by omega) (by omega) (by omega), hg 2 (by omega) (by omega) (by omega), hg 3 (by omega) (by omega) (by omega), hg 4 (by omega) (by omega) (by omega), hg 5 (by omega) (by omega) (by omega), hg 6 (by omega) (by omega) (by omega), hg 8 (by omega) (by omega) (by omega)]
  exact h
theorem BLe.li {S : CS} {e : Int32} {m : Nat} (hm : m < 5) (h : BLe S e) : BLe (liS S m) e := by
  obtain ⟨h1, h2, h3, h4⟩ := h
  have e1 : sF (liS S m) 1 = sF S 1 + lwf (S.2.1 m) (S.1 0) (tdF S (S.1 0)) := by
    refine sm_up hm ?_ fun j hj => ?_
    · unfold liS upF upG
      dsimp only
      rw [if_pos ⟨rfl, rfl⟩]
    · unfold liS upF upG
      dsimp only
      rw [if_neg fun z => hj z.1]
  have e3 : (liS S m).1 3 = S.1 3 + lwf (S.2.1 m) (S.1 0) (tdF S (S.1 0)) := rfl
  unfold BLe
  rw [sF_eq (S := S) (w := 7) (fun j _ => liS_f (by decide)), sF_eq (S := S) (w := 8) (fun j _ => liS_f (by decide)), sF_eq (S := S) (w := 9) (fun j _ => liS_f (by decide)), liS_g (S := S) (m := m) (j := 0) (by decide), liS_g (S := S) (m := m) (j := 2) (by decide), liS_g (S := S) (m := m) (j := 4) (by decide), liS_g (S := S) (m := m) (j := 5) (by decide), liS_g (S := S) (m := m) (j := 6) (by decide), liS_g (S := S) (m := m) (j := 8) (by decide), e1, e3]
  exact ⟨h1, by rw [h2]; ac_rfl, h3, h4⟩
theorem BLe.lw {e : Int32} : ∀ n m (S : CS), m + n ≤ 5 → BLe S e → BLe (lwS n m S) e := by
  intro n
  induction n with
  | zero => intro m S _ h; exact h
  | succ n ih => intro m S hm h; exact ih (m + 1) _ (by omega) (h.li (by omega))
theorem i32_mm (x y : Int32) : x + y + (-y) = x := by rw [Int32.add_assoc, Int32.add_right_neg, Int32.add_zero]
theorem BLe.tu {S : CS} {m : Nat} (hm : m < 5) (h : BLe S 1) : BLe (tuS S m) 0 := by
  obtain ⟨h1, h2, h3, h4⟩ := h
  have e1 : sF (tuS S m) 1 = sF S 1 + -S.1 11 := by
    refine sm_up hm ?_ fun j hj => ?_
    · unfold tuS upF upG
      dsimp only
      rw [if_neg (fun z => absurd z.2 (by decide)), if_pos ⟨rfl, rfl⟩, Int32.sub_eq_add_neg]
    · unfold tuS upF upG
      dsimp only
      rw [if_neg fun z => hj z.1, if_neg fun z => hj z.1]
  have e7 : sF (tuS S m) 7 = sF S 7 + 1 := by
    refine sm_up hm ?_ fun j hj => ?_
    · unfold tuS upF upG
      dsimp only
      rw [if_pos ⟨rfl, rfl⟩, if_neg (fun z => absurd z.2 (by decide))]
    · unfold tuS upF upG
      dsimp only
      rw [if_neg fun z => hj z.1, if_neg fun z => hj z.1]
  have e4 : (tuS S m).1 4 = S.1 4 + S.1 11 := rfl
  unfold BLe
  rw [sF_eq (S := S) (w := 8) (fun j _ => tuS_f (by decide) (by decide)), sF_eq (S := S) (w := 9) (fun j _ => tuS_f (by decide) (by decide)), tuS_g (S := S) (m := m) (j := 0) (by decide), tuS_g (S := S) (m := m) (j := 2) (by decide), tuS_g (S := S) (m := m) (j := 3) (by decide), tuS_g (S := S) (m := m) (j := 5) (by decide), tuS_g (S := S) (m := m) (j := 6) (by decide), tuS_g (S := S) (m := m) (j := 8) (by decide), e1, e7, e4]
  refine ⟨?_, ?_, h3, h4⟩
  · rw [← h1, Int32.add_zero]; ac_rfl
  · rw [h2, show S.1 4 + S.1 11 + (sF S 1 + -S.1 11) = S.1 4 + sF S 1 + S.1 11 + -S.1 11 by ac_rfl, i32_mm]
theorem BLe.g1 {S : CS} {e : Int32} {m n : Nat} (hm : m < 5) (hn : S.2.1 m 9 = nI (n + 1)) (h : BLe S e) : BLe (g1S S m (n + 1)) e := by
  obtain ⟨h1, h2, h3, h4⟩ := h
  have e8 : sF (g1S S m (n + 1)) 8 = sF S 8 + 1 := by
    have k : ∀ j, (g1S S m (n + 1)).2.1 j 8 = if j = m then S.2.1 j 8 + 1 else S.2.1 j 8 := by
      intro j
      unfold g1S dpS upM upF upG
      dsimp only
      by_cases z : j = m
      · subst z
        rw [if_pos rfl, if_pos rfl, if_neg (by decide), if_pos ⟨rfl, rfl⟩]
        split <;> rfl
      · rw [if_neg z, if_neg z, if_neg fun q => z q.1]
        split <;> rfl
    exact sm_up hm (by rw [k, if_pos rfl]) fun j hj => by rw [k, if_neg hj]
  have e9 : sF (g1S S m (n + 1)) 9 = sF S 9 + -1 := by
    refine sm_up hm ?_ fun j hj => ?_
    · rw [g1S_f9, if_pos rfl, hn]
      exact (pk_m1 n).symm
    · rw [g1S_f9, if_neg hj]
  have e6 : (g1S S m (n + 1)).1 6 = S.1 6 + 1 := by rw [g1_G, if_pos rfl]
  unfold BLe
  rw [sF_eq (S := S) (w := 7) (fun j _ => g1S_f (by decide) (by decide)), sF_eq (S := S) (w := 1) (fun j _ => g1S_f (by decide) (by decide)), g1S_g (S := S) (m := m) (n := n + 1) (j := 0) (by decide) (by decide), g1S_g (S := S) (m := m) (n := n + 1) (j := 2) (by decide) (by decide), g1S_g (S := S) (m := m) (n := n + 1) (j := 3) (by decide) (by decide), g1S_g (S := S) (m := m) (n := n + 1) (j := 4) (by decide) (by decide), g1S_g (S := S) (m := m) (n := n + 1) (j := 5) (by decide) (by decide), g1S_g (S := S) (m := m) (n := n + 1) (j := 8) (by decide) (by decide), e8, e9, e6]
  refine ⟨h1, h2, by rw [h3], ?_⟩
  rw [h4, show sF S 9 + -1 + (S.1 6 + 1) + S.1 8 = sF S 9 + S.1 6 + S.1 8 + 1 + -1 by ac_rfl, i32_mm]
theorem BLe.gr {e : Int32} {m : Nat} (hm : m < 5) : ∀ n (S : CS) t, n ≤ 6 → S.2.1 m 9 = nI n → BLe S e → BLe (grN m n S t).1 e := by
  intro n
  induction n with
  | zero => intro S t _ _ h; exact h
  | succ n ih =>
    intro S t hn hc h
    unfold grN
    split
    · exact ih _ _ (by omega) (by rw [g1S_f9, if_pos rfl]; rfl) (h.g1 hm hc)
    · exact h
theorem BLe.tm {S : CS} {o : Option Nat} (hI : CI S) (ho : ∀ m, o = some m → m < 5) (h : BLe S 1) : BLe (tmS S o) 0 := by
  rcases o with _ | m
  · obtain ⟨h1, h2, h3, h4⟩ := h
    rw [tmS_n]
    refine ⟨?_, h2, h3, h4⟩
    show sF S 7 + (S.1 2 + 1) + 0 = S.1 0
    rw [← h1, Int32.add_zero]
    ac_rfl
  · have hm := ho m rfl
    rw [tmS_s]
    have h2 : BLe (tuS (upG S 1 (nI m + 1)) m) 0 := BLe.tu hm (h.same (fun j _ hj _ => upG_ne hj) fun _ _ _ _ => rfl)
    have hI3 : CI (tuS (upG S 1 (nI m + 1)) m) := hI.keep fun _ _ => tuS_f9
    unfold grS
    dsimp only
    have h4 := BLe.gr hm _ _ (tof ((upG S 1 (nI m + 1)).2.1 m) (hd (upG S 1 (nI m + 1)) m)) (hI3.c hm).1 (hI3.c hm).2 h2
    split
    · exact h4.same (fun _ _ _ _ => rfl) fun _ _ _ _ => rfl
    · exact h4
theorem BLe.ho {S : CS} (hI : CI S) (h : BLe S 0) : BLe (hoS S) 0 := by
  unfold hoS
  dsimp only
  have h0 : BLe (upG S 0 (S.1 0 + 1)) 1 := by
    obtain ⟨h1, h2, h3, h4⟩ := h
    refine ⟨?_, h2, h3, h4⟩
    show sF S 7 + S.1 2 + 1 = S.1 0 + 1
    rw [← h1, Int32.add_zero]
  exact BLe.tm (hI.keep fun _ _ => lwS_f9 5 0 _) (fun m hb => bhN_lt 5 0 none (by omega) (fun _ z => by cases z) m hb) (h0.lw 5 0 _ (by omega))
def BL (S : CS) : Prop := BLe S 0
theorem BL.hours {S : CS} (hI : CI S) (h : BL S) : ∀ n, BL (hsS n S) := by
  intro n
  induction n with
  | zero => exact h
  | succ n ih => rw [hsS_succ]; exact BLe.ho (hsS_CI hI n) ih
theorem BL.F {S : CS} {m w : Nat} {x : Int32} (h : BL S) (hw : w ≠ 1 ∧ w < 7) : BL (upF S m w x) := BLe.same h (fun _ _ _ _ => rfl) fun j v _ hv => if_neg fun z => by omega
theorem BL.G {S : CS} {k : Nat} {x : Int32} (h : BL S) (hk : 9 ≤ k) : BL (upG S k x) := BLe.same h (fun j hj _ _ => upG_ne (by omega)) fun _ _ _ _ => rfl
theorem in_f9 {S : CS} {m n pl j : Nat} {s h r due : Int32} : (inS S m n pl s h r due).2.1 j 9 = if j = m then nI (n + 1) else S.2.1 j 9 := by
  unfold inS upM
  dsimp only
  by_cases z : j = m
  · rw [if_pos z, if_pos z, if_pos rfl]
  · rw [if_neg z, if_neg z]
theorem dp_f9 {S : CS} {m n p j : Nat} : (dpS S m p n).2.1 j 9 = if j = m then nI (n - 1) else S.2.1 j 9 := by
  unfold dpS upM
  dsimp only
  by_cases z : j = m
  · rw [if_pos z, if_pos z, if_pos rfl]
  · rw [if_neg z, if_neg z]
theorem sF_in {S : CS} {m pl : Nat} {s h r due : Int32} (hI : CI S) (hm : m < 5) : sF (inS S m (cnt S m) pl s h r due) 9 = sF S 9 + 1 := sm_up hm (by rw [in_f9, if_pos rfl, (hI.c hm).2]; exact (nI_1 _).symm) fun j hj => by rw [in_f9, if_neg hj]
theorem sF_dp {S : CS} {m p n : Nat} (hm : m < 5) (hn : S.2.1 m 9 = nI n) (h0 : 0 < n) : sF (dpS S m p n) 9 = sF S 9 + -1 := sm_up hm (by
    rw [dp_f9, if_pos rfl, hn]
    obtain ⟨k, rfl⟩ : ∃ k, n = k + 1 := ⟨n - 1, by omega⟩
    exact (pk_m1 k).symm) fun j hj => by rw [dp_f9, if_neg hj]
theorem BL.br {S : CS} {m : Nat} {x due : Int32} (hI : CI S) (hm : m < 5) (h : BL S) : BL (brS S m x due) := by
  obtain ⟨h1, h2, h3, h4⟩ := h
  unfold BL BLe brS
  dsimp only
  have e9 := sF_in (S := S) (m := m) (pl := plS S m (S.1 5) due) (s := S.1 5) (h := x) (r := x) (due := due) hI hm
  have eo : ∀ w, w ≠ 9 → sF (inS S m (cnt S m) (plS S m (S.1 5) due) (S.1 5) x x due) w = sF S w := fun w hw => sF_eq fun j _ => in_F hw
  show sF (inS S m (cnt S m) (plS S m (S.1 5) due) (S.1 5) x x due) 7 + S.1 2 + 0 = S.1 0 ∧ S.1 3 = S.1 4 + sF (inS S m (cnt S m) (plS S m (S.1 5) due) (S.1 5) x x due) 1 ∧ S.1 6 = sF (inS S m (cnt S m) (plS S m (S.1 5) due) (S.1 5) x x due) 8 ∧ S.1 5 + 1 = sF (inS S m (cnt S m) (plS S m (S.1 5) due) (S.1 5) x x due) 9 + S.1 6 + S.1 8
  rw [e9, eo 7 (by decide), eo 1 (by decide), eo 8 (by decide)]
  exact ⟨h1, h2, h3, by rw [h4]; ac_rfl⟩
theorem BL.dp {S : CS} {m p n : Nat} (hm : m < 5) (hn : S.2.1 m 9 = nI n) (h0 : 0 < n) (h : BL S) : BL (upG (dpS S m p n) 8 ((dpS S m p n).1 8 + 1)) := by
  obtain ⟨h1, h2, h3, h4⟩ := h
  have e9 := sF_dp (p := p) hm hn h0
  have eo : ∀ w, w ≠ 9 → sF (dpS S m p n) w = sF S w := fun w hw => sF_eq fun j _ => dp_F hw
  show sF (dpS S m p n) 7 + S.1 2 + 0 = S.1 0 ∧ S.1 3 = S.1 4 + sF (dpS S m p n) 1 ∧ S.1 6 = sF (dpS S m p n) 8 ∧ S.1 5 = sF (dpS S m p n) 9 + S.1 6 + (S.1 8 + 1)
  rw [e9, eo 7 (by decide), eo 1 (by decide), eo 8 (by decide)]
  refine ⟨h1, h2, h3, ?_⟩
  rw [h4, show sF S 9 + -1 + S.1 6 + (S.1 8 + 1) = sF S 9 + S.1 6 + S.1 8 + 1 + -1 by ac_rfl, i32_mm]
theorem BL.carry {S : CS} {m t p n pl : Nat} {s hh r due : Int32} (hI : CI S) (hm : m < 5) (ht : t < 5) (hn : (inS S t (cnt S t) pl s hh r due).2.1 m 9 = nI n) (h0 : 0 < n) (h : BL S) : BL (dpS (inS S t (cnt S t) pl s hh r due) m p n) := by
  obtain ⟨h1, h2, h3, h4⟩ := h
  have e9 := sF_dp (p := p) hm hn h0
  have e8 := sF_in (S := S) (m := t) (pl := pl) (s := s) (h := hh) (r := r) (due := due) hI ht
  have eo : ∀ w, w ≠ 9 → sF (dpS (inS S t (cnt S t) pl s hh r due) m p n) w = sF S w := fun w hw => sF_eq fun j _ => by rw [dp_F hw, in_F hw]
  show sF (dpS (inS S t (cnt S t) pl s hh r due) m p n) 7 + S.1 2 + 0 = S.1 0 ∧ S.1 3 = S.1 4 + sF (dpS (inS S t (cnt S t) pl s hh r due) m p n) 1 ∧ S.1 6 = sF (dpS (inS S t (cnt S t) pl s hh r due) m p n) 8 ∧ S.1 5 = sF (dpS (inS S t (cnt S t) pl s hh r due) m p n) 9 + S.1 6 + S.1 8
  rw [e9, e8, eo 7 (by decide), eo 1 (by decide), eo 8 (by decide), i32_mm]
  exact ⟨h1, h2, h3, h4⟩
/-! an hour: the clock, who turned, who was idle -/
theorem hs_g0 {S : CS} : ∀ n, (hsS n S).1 0 = S.1 0 + nI n := by
  intro n
  induction n with
  | zero => show S.1 0 = S.1 0 + nI 0; rw [nI_0, Int32.add_zero]
  | succ n ih =>
    rw [hsS_succ]
    unfold hoS
    dsimp only
    rw [tmS_g (Or.inl rfl), lwS_g (by decide)]
    show (hsS n S).1 0 + 1 = _
    rw [ih, nI_succ, Int32.add_assoc]
theorem upG_eq {S : CS} {k : Nat} {x : Int32} : (upG S k x).1 k = x := if_pos rfl
theorem m1_eq : (0 : Int32) - 1 = -1 := by decide
theorem tm_none {S : CS} : (tmS S none).1 1 - 1 = -1 ∧ (tmS S none).1 2 = S.1 2 + 1 ∧ ∀ k, (tmS S none).2.1 k 7 = S.2.1 k 7 := by
  rw [tmS_n]
  refine ⟨?_, ?_, fun k => rfl⟩
  · rw [upG_ne (by decide), upG_eq, m1_eq]
  · rw [upG_eq, upG_ne (by decide)]
theorem tm_some {S : CS} {m : Nat} : (tmS S (some m)).1 1 - 1 = nI m ∧ (tmS S (some m)).1 2 = S.1 2 ∧ ∀ k, (tmS S (some m)).2.1 k 7 = S.2.1 k 7 + (if m = k then 1 else 0) := by
  rw [tmS_s]
  refine ⟨?_, ?_, fun k => ?_⟩
  · rw [grS_g (by decide) (by decide), tuS_g (by decide), upG_eq]
    exact i32_as _
  · rw [grS_g (by decide) (by decide), tuS_g (by decide), upG_ne (by decide)]
  · rw [grS_f (by decide) (by decide)]
    unfold tuS upF upG
    dsimp only
    by_cases z : m = k
    · subst z
      rw [if_pos ⟨rfl, rfl⟩, if_pos rfl, if_neg (fun z => absurd z.2 (by decide))]
    · rw [if_neg fun q => z q.1.symm, if_neg fun q => z q.1.symm, if_neg z, Int32.add_zero]
theorem ho_who {S : CS} : ((hoS S).1 1 - 1 = -1 ∧ (hoS S).1 2 = S.1 2 + 1 ∧ ∀ k, (hoS S).2.1 k 7 = S.2.1 k 7) ∨ ∃ m, m < 5 ∧ (hoS S).1 1 - 1 = nI m ∧ (hoS S).1 2 = S.1 2 ∧ ∀ k, (hoS S).2.1 k 7 = S.2.1 k 7 + (if m = k then 1 else 0) := by
  have g2 : (lwS 5 0 (upG S 0 (S.1 0 + 1))).1 2 = S.1 2 := by rw [lwS_g (by decide) 5 0, upG_ne (by decide)]
  have f7 : ∀ k, (lwS 5 0 (upG S 0 (S.1 0 + 1))).2.1 k 7 = S.2.1 k 7 := fun k => by rw [lwS_f (by decide) 5 0]; rfl
  have e : hoS S = tmS (lwS 5 0 (upG S 0 (S.1 0 + 1))) (bhN (lwS 5 0 (upG S 0 (S.1 0 + 1))) none 5 0 none) := rfl
  rw [e]
  generalize lwS 5 0 (upG S 0 (S.1 0 + 1)) = S2 at g2 f7 ⊢
  rcases hb : bhN S2 none 5 0 none with _ | m
  · obtain ⟨a, b, c⟩ := tm_none (S := S2)
    exact Or.inl ⟨a, by rw [b, g2], fun k => by rw [c, f7]⟩
  · obtain ⟨a, b, c⟩ := tm_some (S := S2) (m := m)
    exact Or.inr ⟨m, bhN_lt 5 0 none (by omega) (fun _ z => by cases z) m hb, a, by rw [b, g2], fun k => by rw [c, f7]⟩
