/-! All that always holds of a creek, the numbers' bounds with it -/
theorem r32 {x lo hi : Int32} (h : lo ≤ x ∧ x ≤ hi) : lo.toInt ≤ x.toInt ∧ x.toInt ≤ hi.toInt := ⟨Int32.le_iff_toInt_le.mp h.1, Int32.le_iff_toInt_le.mp h.2⟩
def WF (S : CS) : Prop := CW S ∧ WA S ∧ bxS S
theorem WF.hours {S : CS} (h : WF S) (n : Nat) : WF (hsS n S) := ⟨h.1.hours n, h.2.1.hours n, (bx_hours h.1.1 h.2.2 n).1⟩
theorem WF.ground {S : CS} (h : WF S) (n : Nat) : ∃ g g2, S.1 6 = nI g ∧ (hsS n S).1 6 = nI g2 ∧ g ≤ g2 ∧ g2 ≤ 999 := h.2.1.ground n
theorem WF.nus {S : CS} (h : WF S) : NUS S := h.2.1.nus
theorem WF.som {S : CS} (h : WF S) {m : Nat} (hm : m < 5) : SOm S m := h.2.1.som hm
theorem WF.fresh {S : CS} (h : WF S) {m : Nat} (hm : m < 5) : NOm S m (S.1 5) := h.2.1.fresh hm
theorem WF.bk {S : CS} (h : WF S) {m : Nat} {due : Int32} (hm : m < 5) : bkN S m due (S.1 5) (cnt S m) = plS S m (S.1 5) due := h.2.1.bk hm
theorem WF.other {S : CS} {m t p : Nat} {x : Int32} (h : WF S) (hm : m < 5) (ht : t < 5) (hne : m ≠ t) (hp : p < cnt S m) (hx : S.2.2 m p 0 = x) : NOm S t x := h.2.1.other hm ht hne hp hx
theorem WF.of {S2 : CS} (h : WA S2) (b : bxS S2) : WF S2 := ⟨h.1, h, b⟩
theorem WF.pond {S : CS} {m : Nat} {x y : Int32} (h : WF S) (hx : 50 ≤ x ∧ x ≤ 500) (hy : (0 : Int32) ≤ y ∧ y ≤ 60) (hw : S.2.1 m 1 ≤ x) : WF (upF (upF S m 0 x) m 2 y) := by
  refine WF.of ((h.2.1.F (m := m) (w := 0) (by decide) (fun _ => Int32.lt_of_lt_of_le (by decide) hx.1) (fun z => absurd z (by decide)) (fun z => absurd z (by decide))).F (m := m) (w := 2) (by decide) (fun z => absurd z (by decide)) (fun z => absurd z (by decide)) (fun _ => hy)) ?_
  refine bx_F2 h.2.2 (by decide) (by decide) fun hm => ?_
  obtain ⟨a, b, c, d⟩ := h.2.2.2.1 m hm
  have q1 := r32 hx
  have q2 := r32 hy
  have q3 := Int32.le_iff_toInt_le.mp hw
  rw [show (50 : Int32).toInt = 50 by decide, show (500 : Int32).toInt = 500 by decide] at q1
  rw [bx_0, show (60 : Int32).toInt = 60 by decide] at q2
  exact ⟨q1, ⟨b.1, q3⟩, q2, d⟩
theorem WF.gate {S : CS} {m : Nat} {x y : Int32} (h : WF S) (hx : (0 : Int32) ≤ x ∧ x ≤ 11) (hy : x ≤ y ∧ y ≤ 11) : WF (upF (upF S m 3 x) m 4 y) := by
  refine WF.of ((h.2.1.F (m := m) (w := 3) (by decide) (fun z => absurd z (by decide)) (fun z => absurd z (by decide)) (fun z => absurd z (by decide))).F (m := m) (w := 4) (by decide) (fun z => absurd z (by decide)) (fun z => absurd z (by decide)) (fun z => absurd z (by decide))) ?_
  refine bx_F2 h.2.2 (by decide) (by decide) fun hm => ?_
  obtain ⟨a, b, c, d, e⟩ := h.2.2.2.1 m hm
  have q1 := r32 hx
  have q2 := r32 hy
  rw [bx_0, show (11 : Int32).toInt = 11 by decide] at q1
  rw [show (11 : Int32).toInt = 11 by decide] at q2
  exact ⟨a, b, c, ⟨q1.1, q2.1, q2.2⟩, e⟩
theorem WF.gear {S : CS} {m : Nat} {x y : Int32} (h : WF S) (hx : 8 ≤ x ∧ x ≤ 60) (hy : 8 ≤ y ∧ y ≤ 60) : WF (upF (upF S m 5 x) m 6 y) := by
  refine WF.of ((h.2.1.F (m := m) (w := 5) (by decide) (fun z => absurd z (by decide)) (fun z => absurd z (by decide)) (fun z => absurd z (by decide))).F (m := m) (w := 6) (by decide) (fun z => absurd z (by decide)) (fun _ => Int32.lt_of_lt_of_le (by decide) hy.1) (fun z => absurd z (by decide))) ?_
  refine bx_F2 h.2.2 (by decide) (by decide) fun hm => ?_
  obtain ⟨a, b, c, d, e⟩ := h.2.2.2.1 m hm
  have q1 := r32 hx
  have q2 := r32 hy
  rw [show (8 : Int32).toInt = 8 by decide, show (60 : Int32).toInt = 60 by decide] at q1 q2
  exact ⟨a, b, c, d, q1, q2⟩
theorem WF.set0 {S : CS} {x : Int32} (h : WF S) (hx : (1 : Int32) ≤ x ∧ x ≤ 15) : WF (upG S 9 x) := by
  have q := r32 hx
  rw [show (1 : Int32).toInt = 1 by decide, show (15 : Int32).toInt = 15 by decide] at q
  exact WF.of (h.2.1.G (by decide) fun _ => ⟨Int32.le_of_lt (Int32.lt_of_lt_of_le (by decide) hx.1), hx.2⟩) ⟨⟨q, h.2.2.1.2⟩, h.2.2.2⟩
theorem WF.set1 {S : CS} {x : Int32} (h : WF S) (hx : (0 : Int32) ≤ x ∧ x ≤ 100) : WF (upG S 10 x) := by
  have q := r32 hx
  rw [bx_0, show (100 : Int32).toInt = 100 by decide] at q
  exact WF.of (h.2.1.G (by decide) (fun z => absurd z (by decide))) ⟨⟨h.2.2.1.1, q, h.2.2.1.2.2⟩, h.2.2.2⟩
theorem WF.set2 {S : CS} {x : Int32} (h : WF S) (hx : (5 : Int32) ≤ x ∧ x ≤ 100) : WF (upG S 11 x) := by
  have q := r32 hx
  rw [show (5 : Int32).toInt = 5 by decide, show (100 : Int32).toInt = 100 by decide] at q
  exact WF.of (h.2.1.G (by decide) (fun z => absurd z (by decide))) ⟨⟨h.2.2.1.1, h.2.2.1.2.1, q⟩, h.2.2.2⟩
theorem bx_ins {S : CS} {m pl : Nat} {s h r due : Int32} (hc : cnt S m < 6) (hpl : pl ≤ cnt S m) (hb : bxS S) (hk : 1 ≤ r.toInt ∧ r.toInt ≤ h.toInt ∧ h.toInt ≤ 999) : bxS (inS S m (cnt S m) pl s h r due) := by
  have d := (in_is (S := S) (m := m) (n := cnt S m) (pl := pl) (s := s) (h := h) (r := r) (due := due) rfl hc).1
  refine ⟨hb.1, fun a ha => (hb.2.1 a ha).congr fun w hw => in_F (by omega), fun a p ha hp => ?_⟩
  rw [d] at hp
  by_cases e : a = m
  · subst e
    rw [if_pos rfl] at hp
    have eK : ∀ w, (inS S a (cnt S a) pl s h r due).2.2 a p w = if p < pl then S.2.2 a p w else if p = pl then (if w = 0 then s else if w = 1 then h else if w = 2 then r else due) else if p ≤ cnt S a then S.2.2 a (p - 1) w else S.2.2 a p w := fun w => by
      unfold inS upM
      dsimp only
      rw [if_pos rfl]
    by_cases h1 : p < pl
    · exact (hb.2.2 a p ha (by omega)).congr fun w _ _ => by rw [eK, if_pos h1]
    · by_cases h2 : p = pl
      · unfold bxK
        rw [eK, eK, if_neg h1, if_pos h2, if_neg h1, if_pos h2]
        exact hk
      · exact (hb.2.2 a (p - 1) ha (by omega)).congr fun w _ _ => by rw [eK, if_neg h1, if_neg h2, if_pos (by omega)]
  · rw [if_neg e] at hp
    exact (hb.2.2 a p ha hp).congr fun w _ _ => by
      unfold inS upM
      dsimp only
      rw [if_neg e]
theorem bx_dp {S : CS} {m p n : Nat} (hI : CI S) (hm : m < 5) (hn : n = cnt S m) (hp : p < n) (hb : bxS S) : bxS (dpS S m p n) := by
  have d := dp_is (p := p) hn (by rw [hn]; exact (hI.c hm).1)
  refine ⟨hb.1, fun a ha => (hb.2.1 a ha).congr fun w hw => dp_F (by omega), fun a q ha hq => ?_⟩
  by_cases e : a = m
  · subst e
    obtain ⟨r, h1, _, _, h4⟩ := d.at q hq
    exact (hb.2.2 a r ha h1).congr fun w _ _ => h4 w
  · obtain ⟨d1, d2⟩ := d.off e
    rw [d1] at hq
    exact (hb.2.2 a q ha hq).congr fun w _ _ => d2 q w
theorem pl_le {S : CS} {m : Nat} {s due : Int32} : plS S m s due ≤ cnt S m := by
  have := skN_le (fun j => S.2.2 m j 3 < due ∨ (S.2.2 m j 3 = due ∧ S.2.2 m j 0 < s)) (cnt S m) 0
  unfold plS
  omega
theorem WF.br {S : CS} {m : Nat} {x due : Int32} (h : WF S) (hm : m < 5) (hr : hrP S m) (hx : (1 : Int32) ≤ x ∧ x ≤ 999) : WF (brS S m x due) := by
  refine WF.of (h.2.1.br hm hr) ?_
  have q := r32 hx
  rw [show (1 : Int32).toInt = 1 by decide, show (999 : Int32).toInt = 999 by decide] at q
  exact bx_G (bx_ins (hr_lt h.1.1 hm hr) pl_le h.2.2 ⟨q.1, Int.le_refl _, q.2⟩) (by decide)
theorem WF.dp {S : CS} {m p : Nat} (h : WF S) (hm : m < 5) (hp : p < cnt S m) : WF (dpS S m p (cnt S m)) := WF.of (h.2.1.dp hm hp) (bx_dp h.1.1 hm rfl hp h.2.2)
theorem WF.back {S : CS} {m p : Nat} {x : Int32} (h : WF S) (hm : m < 5) (hp : p < cnt S m) : WF (upG (dpS S m p (cnt S m)) 8 x) := WF.of (h.2.1.back hm hp) (bx_G (bx_dp h.1.1 hm rfl hp h.2.2) (by decide))
theorem WF.carry {S : CS} {m t p : Nat} {x due : Int32} (h : WF S) (hm : m < 5) (ht : t < 5) (hne : m ≠ t) (hp : p < cnt S m) (hx : S.2.2 m p 0 = x) (hc : cnt S t < 6) : WF (dpS (inS S t (cnt S t) (plS S t x due) x (S.2.2 m p 1) (S.2.2 m p 2) due) m p (cnt S m)) := by
  refine WF.of (h.2.1.carry hm ht hne hp hx hc) ?_
  have e := (in_is (S := S) (m := t) (n := cnt S t) (pl := plS S t x due) (s := x) (h := S.2.2 m p 1) (r := S.2.2 m p 2) (due := due) rfl hc).1 m
  rw [if_neg hne] at e
  refine bx_dp (fun a ha => ?_) hm e.symm hp (bx_ins hc pl_le h.2.2 (h.2.2.2.2 m p hm hp))
  show ∃ n, n ≤ 6 ∧ (if a = t then (fun w => if w = 9 then nI (cnt S t + 1) else S.2.1 t w) else S.2.1 a) 9 = nI n
  by_cases e1 : a = t
  · rw [if_pos e1]; exact ⟨cnt S t + 1, by omega, rfl⟩
  · rw [if_neg e1]; exact h.1.1 a ha
