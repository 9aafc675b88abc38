/-! Doubles: the share, doubled -/
theorem f_t : FP.Core.b64.tails = 4503599627370496 := by decide +kernel
theorem f_e : FP.Core.b64.exps = 2048 := by decide +kernel
theorem f_m : FP.Core.b64.qmin = -1074 := by decide +kernel
theorem f_x : FP.Core.b64.qmax = 971 := by decide +kernel
theorem f_p : FP.Core.b64.p = 53 := rfl
theorem lg {A k : Nat} (h1 : 2 ^ k ≤ A) (h2 : A < 2 ^ (k + 1)) : A.log2 = k := by
  have h0 : A ≠ 0 := by have := Nat.two_pow_pos k; omega
  have a := (Nat.le_log2 h0).mpr h1
  have b := (Nat.log2_lt h0).mpr h2
  omega
theorem enc {c E : Nat} {q : Int} (h1 : 4503599627370496 ≤ c) (hE : q = (E : Int) - 1075) (hE1 : 1 ≤ E) : FP.Core.encode FP.Core.b64 (.fin false c q) = E * 4503599627370496 + (c - 4503599627370496) := by
  unfold FP.Core.encode
  rw [f_t]
  dsimp only
  rw [if_neg (by omega)]
  unfold FP.Core.assemble
  rw [f_t, f_e, f_m, show (q - -1074).toNat + 1 = E by omega]
  simp
theorem dec {n E t : Nat} (hn : n = E * 4503599627370496 + t) (ht : t < 4503599627370496) (h1 : 1 ≤ E) (h2 : E ≤ 2046) : FP.Core.decode FP.Core.b64 n = .fin false (4503599627370496 + t) ((E : Int) - 1075) := by
  have e1 : n / 4503599627370496 = E := by omega
  have e2 : n % 4503599627370496 = t := by omega
  unfold FP.Core.decode FP.Core.fieldE FP.Core.fieldT FP.Core.fieldS
  rw [f_t, f_e, f_m, e1, e2, show E % 2048 = E by omega, if_neg (by omega), if_neg (by omega), show E / 2048 = 0 by omega]
  congr 1
  omega
theorem rr_at {A B M : Nat} {e L q : Int} (hA : A ≠ 0) (hL : FP.Core.leading A B = L) (hq : q = L + e - 52) (h1 : -1074 ≤ q) (h2 : q < 971) (hM : FP.Core.nearest (FP.Core.unitsNum A e q) (FP.Core.unitsDen B e q) = M) (hM2 : M ≤ 9007199254740992) :
    FP.Core.roundRatio FP.Core.b64 false A B e = if M < 9007199254740992 then .fin false M q else .fin false 4503599627370496 (q + 1) := by
  unfold FP.Core.roundRatio
  rw [if_neg hA]
  have hqq : FP.Core.quantum FP.Core.b64 A B e = q := by
    unfold FP.Core.quantum
    rw [hL, f_m, f_p]
    omega
  rw [hqq]
  unfold FP.Core.roundAt FP.Core.settle FP.Core.bound
  rw [hM, f_t, f_x, f_p]
  by_cases h : M < 9007199254740992
  · rw [if_pos h, if_pos (show M < 2 ^ 53 from h), if_pos (by omega)]
  · rw [if_neg h, if_neg (show ¬ M < 2 ^ 53 from h), if_pos (by omega)]
theorem near_le {N D : Nat} {k : Nat} (hD : 0 < D) (h1 : k * D ≤ N) (h2 : N < 2 * k * D) : k ≤ FP.Core.nearest N D ∧ FP.Core.nearest N D ≤ 2 * k := by
  have a : k ≤ N / D := (Nat.le_div_iff_mul_le hD).mpr h1
  have b : N / D < 2 * k := (Nat.div_lt_iff_lt_mul hD).mpr h2
  unfold FP.Core.nearest
  split
  · omega
  · split
    · omega
    · have := Nat.mod_lt (N / D) (show 0 < 2 by decide)
      omega
theorem near_ex {M D : Nat} (hD : 0 < D) : FP.Core.nearest (M * D) D = M := by
  unfold FP.Core.nearest
  rw [Nat.mul_mod_left, if_pos (by omega), Nat.mul_div_cancel _ hD]
/-- the quotient of two numbers of one leading place -/
theorem quo {A B : Nat} {qa qb : Int} (hA1 : 4503599627370496 ≤ A) (hA2 : A < 9007199254740992) (hB1 : 4503599627370496 ≤ B) (hB2 : B < 9007199254740992) (he : -9 ≤ qa - qb) (he0 : qa - qb ≤ 0) (hAB : qa - qb = 0 → A ≤ B) :
    ∃ c E : Nat, FP.Core.quotient FP.Core.b64 (.fin false A qa) (.fin false B qb) = .fin false c ((E : Int) - 1075) ∧ 4503599627370496 ≤ c ∧ c < 9007199254740992 ∧ 1013 ≤ E ∧ E ≤ 1023 ∧ (E = 1023 → c = 4503599627370496) := by
  have la : A.log2 = 52 := lg hA1 hA2
  have lb : B.log2 = 52 := lg hB1 hB2
  unfold FP.Core.quotient
  dsimp only
  rw [if_neg (by omega)]
  show ∃ c E : Nat, FP.Core.roundRatio FP.Core.b64 false A B (qa - qb) = _ ∧ _
  generalize qa - qb = e at he he0 hAB
  have hu : ∀ (L q : Int), q = L + e - 52 → L ≤ 0 → FP.Core.unitsNum A e q = A * 2 ^ (52 - L).toNat ∧ FP.Core.unitsDen B e q = B := by
    intro L q hq hL
    unfold FP.Core.unitsNum FP.Core.unitsDen
    rw [show e - q = 52 - L by omega, show (q - e).toNat = 0 by omega]
    exact ⟨rfl, by omega⟩
  by_cases hab : B ≤ A
  · have hL : FP.Core.leading A B = 0 := by
      unfold FP.Core.leading
      rw [la, lb]
      dsimp only
      rw [if_pos (by simpa using hab)]
      rfl
    obtain ⟨u1, u2⟩ := hu 0 (0 + e - 52) rfl (Int.le_refl _)
    have hn := near_le (N := A * 4503599627370496) (D := B) (k := 4503599627370496) (by omega) (by omega) (by omega)
    have hr := rr_at (A := A) (B := B) (e := e) (M := FP.Core.nearest (A * 4503599627370496) B) (by omega) hL rfl (by omega) (by omega) (by rw [u1, u2]; rfl) hn.2
    generalize hMM : FP.Core.nearest (A * 4503599627370496) B = M at hn hr
    by_cases hm : M < 9007199254740992
    · rw [if_pos hm] at hr
      refine ⟨M, (1023 + e).toNat, by rw [hr]; congr 1; omega, hn.1, hm, by omega, by omega, fun z => ?_⟩
      have hab2 : A = B := by have := hAB (by omega); omega
      rw [← hMM, hab2, Nat.mul_comm]
      exact near_ex (by omega)
    · rw [if_neg hm] at hr
      refine ⟨4503599627370496, (1024 + e).toNat, by rw [hr]; congr 1; omega, Nat.le_refl _, by omega, by omega, ?_, fun _ => rfl⟩
      by_cases e0 : e = 0
      · have hab2 : A = B := by have := hAB e0; omega
        exact absurd (show M = 4503599627370496 by rw [← hMM, hab2, Nat.mul_comm]; exact near_ex (by omega)) (by omega)
      · omega
  · have hL : FP.Core.leading A B = -1 := by
      unfold FP.Core.leading
      rw [la, lb]
      dsimp only
      rw [if_neg (by simpa using hab)]
      rfl
    obtain ⟨u1, u2⟩ := hu (-1) (-1 + e - 52) rfl (by decide)
    have hn := near_le (N := A * 9007199254740992) (D := B) (k := 4503599627370496) (by omega) (by omega) (by omega)
    have hr := rr_at (A := A) (B := B) (e := e) (M := FP.Core.nearest (A * 9007199254740992) B) (by omega) hL rfl (by omega) (by omega) (by rw [u1, u2]; rfl) hn.2
    generalize FP.Core.nearest (A * 9007199254740992) B = M at hn hr
    by_cases hm : M < 9007199254740992
    · rw [if_pos hm] at hr
      exact ⟨M, (1022 + e).toNat, by rw [hr]; congr 1; omega, hn.1, hm, by omega, by omega, fun z => by omega⟩
    · rw [if_neg hm] at hr
      exact ⟨4503599627370496, (1023 + e).toNat, by rw [hr]; congr 1; omega, Nat.le_refl _, by omega, by omega, by omega, fun _ => rfl⟩
/-- a number below a thousand as a double -/
def i2OK (k : Nat) : Bool := decide (FP.Core.decode FP.Core.b64 (FP.i2d (nI k)).toNat = .fin false (k * 2 ^ (52 - k.log2)) ((k.log2 : Int) - 52))
def i2all : Nat → Bool
  | 0 => true
  | k + 1 => i2OK (k + 1) && i2all k
theorem i2_t : i2all 999 = true := by decide +kernel
theorem i2_at : ∀ n k, i2all n = true → 1 ≤ k → k ≤ n → i2OK k = true := by
  intro n
  induction n with
  | zero => intro k _ h1 h2; omega
  | succ n ih =>
    intro k h h1 h2
    rw [i2all, Bool.and_eq_true] at h
    by_cases e : k = n + 1
    · rw [e]; exact h.1
    · exact ih k h.2 h1 (by omega)
theorem i2_dec {k : Nat} (h1 : 1 ≤ k) (h2 : k ≤ 999) : FP.Core.decode FP.Core.b64 (FP.i2d (nI k)).toNat = .fin false (k * 2 ^ (52 - k.log2)) ((k.log2 : Int) - 52) := of_decide_eq_true (i2_at 999 k i2_t h1 h2)
theorem i2_0 : FP.Core.decode FP.Core.b64 (FP.i2d (nI 0)).toNat = .fin false 0 (-1074) := by decide +kernel
theorem lg_k {k : Nat} (h1 : 1 ≤ k) (h2 : k ≤ 999) : k.log2 ≤ 9 ∧ 2 ^ k.log2 ≤ k ∧ k < 2 ^ (k.log2 + 1) := by
  have h0 : k ≠ 0 := by omega
  have a := (Nat.le_log2 h0).mp (Nat.le_refl _)
  have b := (Nat.log2_lt h0).mp (Nat.lt_succ_self _)
  have c := (Nat.log2_lt (k := 10) h0).mpr (by omega)
  exact ⟨by omega, a, b⟩
theorem sig_k {k : Nat} (h1 : 1 ≤ k) (h2 : k ≤ 999) : 4503599627370496 ≤ k * 2 ^ (52 - k.log2) ∧ k * 2 ^ (52 - k.log2) < 9007199254740992 := by
  obtain ⟨a, b, c⟩ := lg_k h1 h2
  generalize k.log2 = l at a b c
  rcases (show l = 0 ∨ l = 1 ∨ l = 2 ∨ l = 3 ∨ l = 4 ∨ l = 5 ∨ l = 6 ∨ l = 7 ∨ l = 8 ∨ l = 9 by omega) with rfl | rfl | rfl | rfl | rfl | rfl | rfl | rfl | rfl | rfl <;> simp at b c ⊢ <;> omega
/-- a share: nothing, or from a thousandth to one -/
def sh01 (x : UInt64) : Prop := x.toNat = 0 ∨ ∃ E t : Nat, x.toNat = E * 4503599627370496 + t ∧ t < 4503599627370496 ∧ 1013 ≤ E ∧ E ≤ 1023 ∧ (E = 1023 → t = 0)
theorem sh_div {a b : Nat} (h1 : 1 ≤ b) (h2 : b ≤ 999) (hab : a ≤ b) : sh01 (FP.ddiv (FP.i2d (nI a)) (FP.i2d (nI b))) := by
  have ed : ∀ n : Nat, n < 2 ^ 64 → (UInt64.ofNat n).toNat = n := fun n hn => by rw [UInt64.toNat_ofNat']; exact Nat.mod_eq_of_lt hn
  show sh01 (UInt64.ofNat (FP.Core.encode FP.Core.b64 (FP.Core.quotient FP.Core.b64 (FP.Core.decode FP.Core.b64 (FP.i2d (nI a)).toNat) (FP.Core.decode FP.Core.b64 (FP.i2d (nI b)).toNat))))
  rw [i2_dec h1 h2]
  obtain ⟨sb1, sb2⟩ := sig_k h1 h2
  obtain ⟨lb1, lb2, lb3⟩ := lg_k h1 h2
  by_cases ha : a = 0
  · subst ha
    rw [i2_0]
    left
    unfold FP.Core.quotient
    dsimp only
    rw [if_neg (by omega)]
    unfold FP.Core.roundRatio
    rw [if_pos rfl, f_m]
    decide +kernel
  · obtain ⟨sa1, sa2⟩ := sig_k (k := a) (by omega) (by omega)
    obtain ⟨la1, la2, la3⟩ := lg_k (k := a) (by omega) (by omega)
    rw [i2_dec (by omega) (by omega)]
    have hle : a.log2 ≤ b.log2 := by
      apply Classical.byContradiction
      intro z
      have : 2 ^ (b.log2 + 1) ≤ 2 ^ a.log2 := Nat.pow_le_pow_right (by decide) (by omega)
      omega
    obtain ⟨c, E, e1, e2, e3, e4, e5, e6⟩ := quo (qa := (a.log2 : Int) - 52) (qb := (b.log2 : Int) - 52) sa1 sa2 sb1 sb2 (by omega) (by omega) (fun z => by
      have : a.log2 = b.log2 := by omega
      rw [this]
      exact Nat.mul_le_mul_right _ hab)
    right
    rw [e1, enc e2 rfl (by omega), ed _ (by omega)]
    exact ⟨E, c - 4503599627370496, rfl, by omega, e4, e5, fun z => by have := e6 z; omega⟩
