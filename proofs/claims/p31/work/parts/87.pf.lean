/-! Ranks, heads, sacks in their places, as the law looks at them -/
def cnN (S : CS) : Nat → Nat
  | 0 => 0
  | k + 1 => cnN S k + if rsF S k = 0 then 1 else 0
theorem cnN_le {S : CS} : ∀ k, cnN S k ≤ k := by
  intro k
  induction k with
  | zero => exact Nat.le_refl _
  | succ k ih => unfold cnN; split <;> omega
theorem ct_step {p : Nat → Prop} [DecidablePred p] {n k : Nat} : ctN p (n + 1) k = (if p k then 1 else 0) + ctN p n (k + 1) := by
  by_cases h : p k
  · rw [ct_t h, if_pos h]
  · rw [ct_f h, if_neg h, Nat.zero_add]
theorem cnN_ct {S : CS} : cnN S 5 = ctN (fun m => rsF S m = 0) 5 0 := by
  rw [ct_step, ct_step, ct_step, ct_step, ct_step]
  show 0 + _ + _ + _ + _ + _ = _
  have z : ctN (fun m => rsF S m = 0) 0 (0 + 1 + 1 + 1 + 1 + 1) = 0 := rfl
  rw [z]
  show 0 + (if rsF S 0 = 0 then 1 else 0) + (if rsF S 1 = 0 then 1 else 0) + (if rsF S 2 = 0 then 1 else 0) + (if rsF S 3 = 0 then 1 else 0) + (if rsF S 4 = 0 then 1 else 0) = (if rsF S 0 = 0 then 1 else 0) + ((if rsF S 1 = 0 then 1 else 0) + ((if rsF S 2 = 0 then 1 else 0) + ((if rsF S 3 = 0 then 1 else 0) + ((if rsF S 4 = 0 then 1 else 0) + 0))))
  omega
theorem ah_last {S : CS} : ∀ n, (∀ m, m < n → ¬ rsF S m = 0) ∨ ∃ M, M < n ∧ rsF S M = 0 ∧ ∀ j, j < n → rsF S j = 0 → j ≠ M → ahF S j M := by
  intro n
  induction n with
  | zero => exact Or.inl fun m hm => absurd hm (Nat.not_lt_zero _)
  | succ n ih =>
    by_cases hn : rsF S n = 0
    · rcases ih with h | ⟨M, h1, h2, h3⟩
      · refine Or.inr ⟨n, Nat.lt_succ_self _, hn, fun j hj hr hne => absurd hr (h j (by omega))⟩
      · rcases ah_tot (S := S) (a := M) (b := n) (by omega) with g | g
        · refine Or.inr ⟨n, Nat.lt_succ_self _, hn, fun j hj hr hne => ?_⟩
          by_cases e : j = M
          · rw [e]; exact g
          · exact ah_tr (h3 j (by omega) hr e) g
        · refine Or.inr ⟨M, by omega, h2, fun j hj hr hne => ?_⟩
          by_cases e : j = n
          · rw [e]; exact g
          · exact h3 j (by omega) hr hne
    · rcases ih with h | ⟨M, h1, h2, h3⟩
      · refine Or.inl fun m hm => ?_
        by_cases e : m = n
        · rw [e]; exact hn
        · exact h m (by omega)
      · refine Or.inr ⟨M, by omega, h2, fun j hj hr hne => ?_⟩
        by_cases e : j = n
        · rw [e] at hr; exact absurd hr hn
        · exact h3 j (by omega) hr hne
theorem rk_can {S : CS} {k e : Nat} (h : rkS S k = some e) : k < cnN S 5 := by
  obtain ⟨h1, h2, h3⟩ := (rk_spec k).1 e h
  rw [cnN_ct, ← h3]
  have := rc_or (S := S) h1
  have g : ctN (fun j => rnP S e j ∨ j = e) 5 0 ≤ ctN (fun m => rsF S m = 0) 5 0 := ct_mono 5 0 fun j _ _ hj => hj.elim (fun z => z.2.1) (fun z => by rw [z]; exact h2)
  omega
theorem rk_can' {S : CS} {k : Nat} (h : rkS S k = none) : cnN S 5 ≤ k := by
  have g := (rk_spec k).2 h
  rw [cnN_ct]
  rcases ah_last (S := S) 5 with q | ⟨M, h1, h2, h3⟩
  · rw [(ct_zero 5 0).mpr fun j _ hj => q j (by omega)]
    exact Nat.zero_le _
  · have a := rc_or (S := S) h1
    have b : ctN (fun m => rsF S m = 0) 5 0 ≤ ctN (fun j => rnP S M j ∨ j = M) 5 0 := ct_mono 5 0 fun j _ hj hr => by
      by_cases e : j = M
      · exact Or.inr e
      · exact Or.inl ⟨e, hr, h3 j (by omega) hr e⟩
    have := g M h1 h2
    omega
theorem rk_uni {S : CS} {j k m : Nat} (h : rkS S j = some m) (g : rkS S k = some m) : j = k := ((rk_spec j).1 m h).2.2.symm.trans ((rk_spec k).1 m g).2.2
theorem rk_ah {S : CS} {k a e : Nat} (h : rkS S k = some a) (g : rkS S (k + 1) = some e) : ahF S a e := by
  obtain ⟨a1, a2, a3⟩ := (rk_spec k).1 a h
  obtain ⟨b1, b2, b3⟩ := (rk_spec (k + 1)).1 e g
  rcases ah_tot (S := S) (a := a) (b := e) (fun z => by rw [z] at h; have := rk_uni h g; omega) with q | q
  · exact q
  · have := rc_lt b1 b2 q
    omega
theorem ch_rk {S : CS} : chS S = rkS S 0 := by rw [ch_eq]; exact rkM_eq (k := 0) (by decide)
theorem rk_down {S : CS} {k e : Nat} (h : rkS S (k + 1) = some e) : ∃ a, rkS S k = some a := by
  cases h2 : rkS S k with
  | some a => exact ⟨a, rfl⟩
  | none =>
    have : rkS S (k + 1) = none := by rw [rkS, h2]
    rw [this] at h
    cases h
theorem rs0_cnt {S : CS} {m : Nat} (hI : CI S) (hm : m < 5) (h : rsF S m = 0) : 0 < cnt S m := by
  have hc := (hI.c hm).2
  rcases Nat.eq_zero_or_pos (cnt S m) with e | e
  · rw [e, nI_0] at hc
    unfold rsF at h
    rw [if_pos hc] at h
    exact absurd h (by decide)
  · exact e
theorem fd_at {S : CS} {m : Nat} (hI : CI S) (hm : m < 5) (h : 0 < cnt S m) : fdF S m = S.2.2 m 0 3 := by
  unfold fdF
  have hc := hI.c hm
  rw [if_pos (by rw [hc.2]; exact nI_lt (a := 0) h (by omega))]
/-- heads are small -/
theorem hd_is {S : CS} {m : Nat} (hW : WF S) (hm : m < 5) : hd S m = S.2.1 m 1 * 100 / S.2.1 m 0 - tdF S (S.1 0) := by
  unfold hd hdf
  rw [if_pos (hW.1.2.1 m hm).1]
theorem hd_bb {S : CS} {m : Nat} (hW : WF S) (hm : m < 5) : -255 ≤ (hd S m).toInt ∧ (hd S m).toInt ≤ 100 := by
  rw [hd_is hW hm]
  obtain ⟨⟨a1, a2⟩, ⟨b1, b2⟩, _⟩ := hW.2.2.2.1 m hm
  obtain ⟨t1, t2⟩ := td_bound hW.1.2.2 (S.1 0)
  have e100 : (100 : Int32).toInt = 100 := by decide
  have e1 : (S.2.1 m 1 * 100).toInt = (S.2.1 m 1).toInt * 100 := by
    rw [Jvm.Kit.i32_mul (by rw [e100]; omega) (by rw [e100]; omega), e100]
  have e2 : (S.2.1 m 1 * 100 / S.2.1 m 0).toInt = (S.2.1 m 1).toInt * 100 / (S.2.1 m 0).toInt := by
    rw [Jvm.Kit.i32_div (by rw [e1]; omega), e1]
    exact Int.tdiv_eq_ediv_of_nonneg (by omega)
  have q1 : 0 ≤ (S.2.1 m 1).toInt * 100 / (S.2.1 m 0).toInt := Int.ediv_nonneg (by omega) (by omega)
  have q2 : (S.2.1 m 1).toInt * 100 / (S.2.1 m 0).toInt ≤ 100 := by
    refine Int.ediv_le_of_le_mul (by omega) ?_
    omega
  rw [Jvm.Kit.i32_sub (by rw [e2]; omega) (by rw [e2]; omega), e2]
  omega
theorem hd_k {S : CS} {m : Nat} (hW : WF S) (hm : m < 5) : (hd S m + 1000).toInt = (hd S m).toInt + 1000 := by
  have := hd_bb hW hm
  have e : (1000 : Int32).toInt = 1000 := by decide
  rw [Jvm.Kit.i32_add (by rw [e]; omega) (by rw [e]; omega), e]
/-- what the law asks of two that follow each other -/
theorem rk_law {S : CS} {k a e : Nat} (hW : WF S) (h : rkS S k = some a) (g : rkS S (k + 1) = some e) :
    S.2.2 a 0 3 < S.2.2 e 0 3 ∨ (S.2.2 a 0 3 = S.2.2 e 0 3 ∧ (hd S e + 1000 < hd S a + 1000 ∨ (hd S a + 1000 = hd S e + 1000 ∧ nI a < nI e))) := by
  obtain ⟨a1, a2, a3⟩ := (rk_spec k).1 a h
  obtain ⟨b1, b2, b3⟩ := (rk_spec (k + 1)).1 e g
  have q := ah_cases.mp (rk_ah h g)
  rw [fd_at hW.1.1 a1 (rs0_cnt hW.1.1 a1 a2), fd_at hW.1.1 b1 (rs0_cnt hW.1.1 b1 b2)] at q
  rcases q with q | ⟨q, r⟩
  · exact Or.inl q
  · refine Or.inr ⟨q, ?_⟩
    rcases r with r | ⟨r, z⟩
    · refine Or.inl ?_
      rw [Int32.lt_iff_toInt_lt] at r ⊢
      rw [hd_k hW a1, hd_k hW b1]
      omega
    · exact Or.inr ⟨by rw [r], nI_lt z (by omega)⟩
/-- the mills seen so far, as bits -/
theorem bit_in : ∀ x, x < 32 → ∀ m, m < 5 → (nI x >>> (nI m &&& 31) &&& 1 = 1 ↔ x.testBit m = true) := by decide +kernel
theorem bit_or : ∀ x, x < 32 → ∀ m, m < 5 → nI x ||| (1 <<< (nI m &&& 31)) = nI (x ||| 2 ^ m) ∧ x ||| 2 ^ m < 32 := by decide +kernel
theorem bit_get : ∀ x, x < 32 → ∀ m, m < 5 → ∀ j, j < 5 → ((x ||| 2 ^ m).testBit j = true ↔ x.testBit j = true ∨ j = m) := by decide +kernel
/-! sacks in their places -/
theorem po_at {S : CS} {m p : Nat} (hU : NUS S) (hm : m < 5) (hp : p < cnt S m) : poS S m (S.2.2 m p 0) = some p :=
  fdN_is (Nat.zero_le _) (by omega) rfl fun q _ hq he => (hU m m q p hm hm (by omega) hp he).2
theorem mo_at {S : CS} {m p : Nat} (hI : CI S) (hU : NUS S) (hm : m < 5) (hp : p < cnt S m) : moS S (S.2.2 m p 0) = some m := by
  refine fdN_is (Nat.zero_le _) (by omega) (by rw [po_at hU hm hp]; exact fun z => by cases z) fun j _ hj hn => ?_
  cases e : poS S j (S.2.2 m p 0) with
  | none => exact absurd e hn
  | some q =>
    obtain ⟨h1, h2, h3⟩ := poS_lt hI (by omega) e
    exact (hU j m q p (by omega) hm h1 hp h3).1
theorem mo_ex {S : CS} {x : Int32} (hI : CI S) : moS S x = none ∨ ∃ m p, m < 5 ∧ p < cnt S m ∧ S.2.2 m p 0 = x := by
  cases h : moS S x with
  | none => exact Or.inl rfl
  | some m =>
    obtain ⟨p, hp⟩ := mo_po h
    obtain ⟨h1, h2, h3⟩ := poS_lt hI (moS_lt h).1 hp
    exact Or.inr ⟨m, p, (moS_lt h).1, h1, h3⟩
theorem WF.sk {S : CS} {m p : Nat} (h : WF S) (hm : m < 5) (hp : p < cnt S m) : ¬ S.2.2 m p 0 < 0 ∧ S.2.2 m p 0 < S.1 5 := by
  obtain ⟨c, g, la, h1, h2, h3, _⟩ := h.2.1.2.2.2
  obtain ⟨q, hq, e⟩ := h3 m p hm hp
  rw [e, h2]
  exact ⟨nI_pos (by omega), nI_lt hq (by omega)⟩
theorem WF.rest {S : CS} {m p : Nat} (h : WF S) (hm : m < 5) (hp : p < cnt S m) : ¬ S.2.2 m p 2 < 1 ∧ ¬ S.2.2 m p 1 < S.2.2 m p 2 := by
  obtain ⟨a, b, c⟩ := h.2.2.2.2 m p hm hp
  rw [Int32.lt_iff_toInt_lt, Int32.lt_iff_toInt_lt, show (1 : Int32).toInt = 1 by decide]
  omega
theorem WF.ord {S : CS} {m p : Nat} (h : WF S) (hm : m < 5) (hp : p + 1 < cnt S m) : S.2.2 m p 3 < S.2.2 m (p + 1) 3 ∨ (S.2.2 m p 3 = S.2.2 m (p + 1) 3 ∧ S.2.2 m p 0 < S.2.2 m (p + 1) 0) := h.2.1.2.1 m p hm hp
theorem WF.wat {S : CS} {m : Nat} (h : WF S) (hm : m < 5) : ¬ S.2.1 m 1 < 0 ∧ ¬ S.2.1 m 0 < S.2.1 m 1 ∧ ¬ S.2.1 m 0 = 0 := by
  obtain ⟨⟨a1, a2⟩, ⟨b1, b2⟩, _⟩ := h.2.2.2.1 m hm
  rw [Int32.lt_iff_toInt_lt, Int32.lt_iff_toInt_lt, show (0 : Int32).toInt = 0 by decide]
  refine ⟨by omega, by omega, fun z => ?_⟩
  rw [z, show (0 : Int32).toInt = 0 by decide] at a1
  omega
/-- the tide, twelve hours later -/
theorem td_12 : ∀ h, h < 12 → (6 - (nI h - nI h / 12 * 12) = 6 - ((nI h + 12) - (nI h + 12) / 12 * 12)) ∧ ab (6 - (nI h - nI h / 12 * 12)) = (if nI h < 6 then 6 - nI h else nI h - 6) := by decide +kernel
theorem td_per {S : CS} {h : Nat} (hh : h < 12) : tdF S (nI h) = tdF S (nI h + 12) := by
  unfold tdF
  rw [(td_12 h hh).1]
theorem td_val {S : CS} {h : Nat} (hh : h < 12) : tdF S (nI h) = S.1 9 * (if nI h < 6 then 6 - nI h else nI h - 6) := by
  unfold tdF
  rw [(td_12 h hh).2]
