/-! What always holds, when sacks come, are carried, go -/
theorem upG_ne {S : CS} {k j : Nat} {x : Int32} (h : j ≠ k) : (upG S k x).1 j = S.1 j := if_neg h
theorem EqS.cnt {S S2 : CS} (e : EqS S S2) {m : Nat} (hm : m < 5) : cnt S2 m = cnt S m := by show (S2.2.1 m 9).toNatClampNeg = (S.2.1 m 9).toNatClampNeg; rw [e.2.1 m 9 hm (by decide)]
theorem WA.ext {S S2 : CS} (h : WA S) (e : EqS S S2) : WA S2 := by
  have hI := h.1.1
  obtain ⟨⟨a1, a2, a3⟩, b, cu, cc, g, la, k1, k2, k3, k4, k5, k6, k7, k8⟩ := h
  have hc : ∀ m, m < 5 → cnt S2 m = cnt S m := fun m hm => e.cnt hm
  have hk : ∀ m p k, m < 5 → p < cnt S2 m → k < 4 → S2.2.2 m p k = S.2.2 m p k := fun m p k hm hp hk => by
    rw [hc m hm] at hp
    exact (e.2.2 m p k hm (by have := (hI.c hm).1; omega) hk).symm
  refine ⟨⟨fun m hm => by rw [← e.2.1 m 9 hm (by decide)]; exact a1 m hm, fun m hm => by rw [← e.2.1 m 0 hm (by decide), ← e.2.1 m 6 hm (by decide)]; exact a2 m hm, by rw [← e.1 9 (by decide)]; exact a3.1, fun m hm => by rw [← e.2.1 m 2 hm (by decide)]; exact a3.2 m hm⟩, fun m p hm hp => ?_, fun m n p q hm hn hp hq he => ?_, cc, g, la, k1, by rw [← e.1 5 (by decide)]; exact k2, fun m p hm hp => ?_, by rw [← e.1 6 (by decide)]; exact k4, by rw [← e.1 7 (by decide)]; exact k5, k6, ?_, k8⟩
  · rw [hk m p 3 hm (by omega) (by decide), hk m p 0 hm (by omega) (by decide), hk m (p + 1) 3 hm hp (by decide), hk m (p + 1) 0 hm hp (by decide)]
    exact b m p hm (by rw [hc m hm] at hp; exact hp)
  · rw [hk m p 0 hm hp (by decide), hk n q 0 hn hq (by decide)] at he
    exact cu m n p q hm hn (by rw [hc m hm] at hp; exact hp) (by rw [hc n hn] at hq; exact hq) he
  · rw [hk m p 0 hm hp (by decide)]
    exact k3 m p hm (by rw [hc m hm] at hp; exact hp)
  · unfold cnS
    rw [hc 0 (by decide), hc 1 (by decide), hc 2 (by decide), hc 3 (by decide), hc 4 (by decide)]
    exact k7
theorem pl_lohi {S : CS} {m : Nat} {s due : Int32} (hm : m < 5) (hS : SO (cnt S) S.2.2) (hN : NOm S m s) : plS S m s due ≤ cnt S m ∧ (∀ i, i < plS S m s due → ltk (S.2.2 m i 3) (S.2.2 m i 0) due s) ∧ ∀ i, plS S m s due ≤ i → i < cnt S m → ltk due s (S.2.2 m i 3) (S.2.2 m i 0) := by
  have hk := skN_spec (p := fun j => S.2.2 m j 3 < due ∨ (S.2.2 m j 3 = due ∧ S.2.2 m j 0 < s)) (cnt S m) 0
  have hkl := skN_le (fun j => S.2.2 m j 3 < due ∨ (S.2.2 m j 3 = due ∧ S.2.2 m j 0 < s)) (cnt S m) 0
  have e : plS S m s due = skN (fun j => S.2.2 m j 3 < due ∨ (S.2.2 m j 3 = due ∧ S.2.2 m j 0 < s)) (cnt S m) 0 := rfl
  rw [e]
  generalize skN (fun j => S.2.2 m j 3 < due ∨ (S.2.2 m j 3 = due ∧ S.2.2 m j 0 < s)) (cnt S m) 0 = q at hk hkl ⊢
  refine ⟨by omega, fun i hi => hk.1 i (Nat.zero_le _) hi, fun i h1 h2 => ?_⟩
  have h3 : ltk due s (S.2.2 m q 3) (S.2.2 m q 0) := (ltk_tot (hN q (by omega))).resolve_left (hk.2.resolve_left (by omega))
  by_cases eq : i = q
  · rw [eq]; exact h3
  · exact ltk_tr h3 (hS.lt hm (by omega) h2)
theorem in_F {S : CS} {m n pl a w : Nat} {s h r due : Int32} (hw : w ≠ 9) : (inS S m n pl s h r due).2.1 a w = S.2.1 a w := by
  unfold inS upM
  dsimp only
  by_cases e : a = m
  · rw [if_pos e, if_neg hw, e]
  · rw [if_neg e]
theorem dp_F {S : CS} {m p n a w : Nat} (hw : w ≠ 9) : (dpS S m p n).2.1 a w = S.2.1 a w := by
  unfold dpS upM
  dsimp only
  by_cases e : a = m
  · rw [if_pos e, if_neg hw, e]
  · rw [if_neg e]
theorem CW.ins {S : CS} {m pl : Nat} {s h r due : Int32} (hW : CW S) (hm : m < 5) (hc : cnt S m < 6) : CW (inS S m (cnt S m) pl s h r due) := by
  refine ⟨fun a ha => ?_, hW.2.1.keep fun a w _ hw => in_F (by omega), hW.2.2.keep rfl fun a _ => in_F (by decide)⟩
  show ∃ n, n ≤ 6 ∧ (if a = m then (fun w => if w = 9 then nI (cnt S m + 1) else S.2.1 m w) else S.2.1 a) 9 = nI n
  by_cases e : a = m
  · rw [if_pos e]; exact ⟨cnt S m + 1, by omega, rfl⟩
  · rw [if_neg e]; exact hW.1 a ha
theorem CW.dp {S : CS} {m p : Nat} (hW : CW S) (hm : m < 5) : CW (dpS S m p (cnt S m)) := by
  refine ⟨fun a ha => ?_, hW.2.1.keep fun a w _ hw => dp_F (by omega), hW.2.2.keep rfl fun a _ => dp_F (by decide)⟩
  show ∃ n, n ≤ 6 ∧ (if a = m then (fun w => if w = 9 then nI (cnt S m - 1) else S.2.1 m w) else S.2.1 a) 9 = nI n
  by_cases e : a = m
  · rw [if_pos e]; exact ⟨cnt S m - 1, by have := (hW.1.c hm).1; omega, rfl⟩
  · rw [if_neg e]; exact hW.1 a ha
/-- the number that comes next stands nowhere -/
theorem WA.fresh {S : CS} (h : WA S) {m : Nat} (hm : m < 5) : NOm S m (S.1 5) := by
  obtain ⟨-, -, -, c, g, la, h1, h2, h3, -⟩ := h
  intro p hp he
  obtain ⟨q, q1, q2⟩ := h3 m p hm hp
  rw [q2, h2] at he
  have := (nI_eq (by omega) (by omega)).mp he
  omega
theorem WA.bk {S : CS} (h : WA S) {m : Nat} {due : Int32} (hm : m < 5) : bkN S m due (S.1 5) (cnt S m) = plS S m (S.1 5) due := bk_pl (h.som hm) (h.fresh hm)
theorem WA.br {S : CS} {m : Nat} {x due : Int32} (h : WA S) (hm : m < 5) (hr : hrP S m) : WA (brS S m x due) := by
  have hf := h.fresh hm
  have hc := hr_lt h.1.1 hm hr
  have hW := h.1.ins (pl := plS S m (S.1 5) due) (s := S.1 5) (h := x) (r := x) (due := due) hm hc
  obtain ⟨l1, l2, l3⟩ := pl_lohi (due := due) hm h.2.1 hf
  have d := in_is (S := S) (m := m) (n := cnt S m) (pl := plS S m (S.1 5) due) (s := S.1 5) (h := x) (r := x) (due := due) rfl hc
  have hall : ∀ j q, j < 5 → q < cnt S j → S.2.2 j q 0 ≠ S.1 5 := fun j q hj hq => h.fresh hj q hq
  obtain ⟨-, b, cu, c, g, la, h1, h2, h3, h4, h5, h6, h7, h8⟩ := h
  have hc9 : c < 999 := by
    have := hr.2
    rw [h2] at this
    exact (nI_ltI (b := 999) (by omega) (by decide)).mp this
  have hs := d.sum hm
  unfold brS
  dsimp only
  refine ⟨⟨hW.1.keep fun _ _ => rfl, hW.2.1.keep fun _ _ _ _ => rfl, hW.2.2.keep (upG_ne (by decide)) fun _ _ => rfl⟩, b.ins d l1 l2 l3, cu.ins d l1 hall, c + 1, g, la, by omega, ?_, h3.ins d l1 (Nat.le_succ _) ⟨c, by omega, h2⟩, (upG_ne (by decide)).trans h4, (upG_ne (by decide)).trans h5, h6, ?_, h8⟩
  · show S.1 5 + 1 = _
    rw [h2, nI_1]
  · show g + cnS (cnt (inS S m (cnt S m) (plS S m (S.1 5) due) (S.1 5) x x due)) ≤ c + 1
    omega
theorem WA.dp {S : CS} {m p : Nat} (h : WA S) (hm : m < 5) (hp : p < cnt S m) : WA (dpS S m p (cnt S m)) := by
  have hW := h.1.dp (p := p) hm
  have d := dp_is (S := S) (m := m) (p := p) (n := cnt S m) rfl (h.1.1.c hm).1
  have hs := d.sum hm hp
  obtain ⟨-, b, cu, c, g, la, h1, h2, h3, h4, h5, h6, h7, h8⟩ := h
  exact ⟨hW, b.dp d, cu.dp d, c, g, la, h1, h2, h3.dp d, h4, h5, h6, by omega, h8⟩
theorem WA.back {S : CS} {m p : Nat} {x : Int32} (h : WA S) (hm : m < 5) (hp : p < cnt S m) : WA (upG (dpS S m p (cnt S m)) 8 x) := (h.dp hm hp).G (by decide) (fun z => absurd z (by decide))
theorem pl_o {S S2 : CS} {t : Nat} {s due : Int32} (hc : cnt S2 t = cnt S t) (hk : S2.2.2 t = S.2.2 t) : plS S2 t s due = plS S t s due := by
  unfold plS
  rw [hc]
  exact skN_congr _ _ fun j _ _ => by rw [hk]
/-- the sack that is carried stands nowhere else -/
theorem WA.other {S : CS} {m t p : Nat} {x : Int32} (h : WA S) (hm : m < 5) (ht : t < 5) (hne : m ≠ t) (hp : p < cnt S m) (hx : S.2.2 m p 0 = x) : NOm S t x := fun q hq he => hne (h.2.2.1 m t p q hm ht hp hq (hx.trans he.symm)).1
theorem WA.carry {S : CS} {m t p : Nat} {x h1 r due : Int32} (h : WA S) (hm : m < 5) (ht : t < 5) (hne : m ≠ t) (hp : p < cnt S m) (hx : S.2.2 m p 0 = x) (hc : cnt S t < 6) : WA (dpS (inS S t (cnt S t) (plS S t x due) x h1 r due) m p (cnt S m)) := by
  have hD := h.dp hm hp
  have d0 := dp_is (S := S) (m := m) (p := p) (n := cnt S m) rfl (h.1.1.c hm).1
  have hs0 := d0.sum hm hp
  obtain ⟨c1, c2⟩ := d0.off (j := t) (Ne.symm hne)
  have ck : (dpS S m p (cnt S m)).2.2 t = S.2.2 t := (dp_o hne).2
  have hgone : ∀ j q, j < 5 → q < cnt (dpS S m p (cnt S m)) j → (dpS S m p (cnt S m)).2.2 j q 0 ≠ x := by rw [← hx]; exact h.2.2.1.gone d0 hm hp
  have hpl : plS (dpS S m p (cnt S m)) t x due = plS S t x due := pl_o c1 ck
  obtain ⟨-, -, -, c, g, la, k1, k2, k3, k4, k5, k6, k7, k8⟩ := h
  obtain ⟨z, z1, z2⟩ := k3 m p hm hp
  generalize hDd : dpS S m p (cnt S m) = D at *
  obtain ⟨l1, l2, l3⟩ := pl_lohi (due := due) ht hD.2.1 (hgone t · ht)
  have hW := hD.1.ins (pl := plS D t x due) (s := x) (h := h1) (r := r) (due := due) ht (by omega)
  have d := in_is (S := D) (m := t) (n := cnt D t) (pl := plS D t x due) (s := x) (h := h1) (r := r) (due := due) rfl (by omega)
  have hs := d.sum ht
  have hk3 : NB2 c (cnt D) D.2.2 := k3.dp d0
  have hwf : WA (inS D t (cnt D t) (plS D t x due) x h1 r due) := by
    refine ⟨hW, hD.2.1.ins d l1 l2 l3, hD.2.2.1.ins d l1 hgone, c, g, la, k1, ?_, hk3.ins d l1 (Nat.le_refl _) ⟨z, z1, by rw [← hx]; exact z2⟩, ?_, ?_, k6, by omega, k8⟩
    · rw [← hDd]; exact k2
    · rw [← hDd]; exact k4
    · rw [← hDd]; exact k5
  rw [c1, hpl, ← hDd] at hwf
  exact hwf.ext (in_dp hne)
