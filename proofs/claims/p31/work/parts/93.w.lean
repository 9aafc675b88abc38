/-! The law's own arrays, beside the finished world -/
theorem kd240 : kd 240 = 9 := by rw [kd_eq]; decide +kernel
theorem kd241 : kd 241 = 9 := by rw [kd_eq]; decide +kernel
theorem kd242 : kd 242 = 9 := by rw [kd_eq]; decide +kernel
theorem al240 : al 240 = 5 := by rw [al_eq]; decide +kernel
theorem al241 : al 241 = 5 := by rw [al_eq]; decide +kernel
theorem al242 : al 242 = 4 := by rw [al_eq]; decide +kernel
section W31
variable {Z : TI × TP} {S : CS} {n : Nat} {T : Nat → CS} {sn : Option CS} {bl : Nat} {B : Nat → Int32} {im : TI} {rm : TP}
theorem TS.fz (h : TS Z S n T sn bl B im rm) : FZ Z im rm := h.2.2.2.2.2.2.2.2
theorem TS.h80 (h : TS Z S n T sn bl B im rm) : ∀ j, j < 6 → ∀ o, rm 80 j = some o → o < NN := by
  obtain ⟨-, -, ⟨⟨hs, hO⟩, -⟩, -⟩ := h
  intro j hj o ho
  obtain ⟨h1, h2⟩ := hO.2.2.2.1 j hj
  rw [h1] at ho
  cases ho
  have := svL_in _ h2
  show _ < 240
  omega
/-- the finished world by other names above it, row 80 as far as it reaches -/
theorem TS.cg {Z2 : TI × TP} {im2 : TI} {r2 : TP} (h : TS Z S n T sn bl B im rm) (e : ∀ o, o < 240 → im2 o = im o) (er : ∀ o, o < 240 → o ≠ 80 → r2 o = rm o) (e8 : ∀ j, j < 6 → r2 80 j = rm 80 j) (hz : FZ Z2 im2 r2) : TS Z2 S n T sn bl B im2 r2 := by
  obtain ⟨⟨h1, h2⟩, ⟨h3, h4⟩, ⟨⟨hs, h5⟩, h6⟩, h7, ⟨h8, h9⟩, h10, ⟨h11, h12⟩, h13, -⟩ := h
  refine ⟨⟨?_, fun c hc => ?_⟩, ⟨h3.keep fun o _ _ => e o (by omega), h4⟩, ⟨⟨hs, ?_⟩, h6⟩, h7.keep fun o _ _ => e o (by omega), ⟨h8.keep fun o _ _ => e o (by omega), fun s hs => ⟨(h9 s hs).1.keep fun o _ _ => e o (by omega), (h9 s hs).2⟩⟩, by rw [e 0 (by decide)]; exact h10, ⟨by rw [e 0 (by decide)]; exact h11, h12⟩, by rw [e 237 (by decide)]; exact h13, hz⟩
  · unfold RT at h1 ⊢
    rw [er 0 (by decide) (by decide), er 238 (by decide) (by decide)]
    exact h1
  · have hk : ∀ c ∈ crL, c + 25 < 240 ∧ (80 < c ∨ c + 25 < 80) := by decide
    exact (h2 c hc).cg fun k _ hk2 => er k (by have := hk c hc; omega) (by have := hk c hc; omega)
  · have h5 := h5.keep (im2 := im2) fun o _ _ => e o (by omega)
    obtain ⟨q1, q2, q3, q4, q5, q6, q7⟩ := h5
    exact ⟨by rw [er 79 (by decide) (by decide)]; exact q1, q2, q3, fun i hi => by rw [e8 i hi]; exact q4 i hi, q5, q6, q7⟩
theorem TS.nrm31 {A : TI} {R : TP} (h : TS (A, R) S n T sn bl B im rm) : TS (A, R) S n T sn bl B im (nrm rm) :=
  h.cg (fun _ _ => rfl) (fun o _ ho => nrm_ne ho) (fun j hj => nrm_lt hj) ⟨h.fz.1, fun o ho => by rw [nrm_ne (by omega)]; exact h.fz.2.1 o ho, fun k hk j o hj => by rw [nrm_ne hk] at hj; exact h.fz.2.2 k hk j o hj⟩
theorem TS.cut (h : TS Z S n T sn bl B im rm) : TS (fun _ _ => 0, fun _ _ => none) S n T sn bl B (cutI im) (cutR rm) := by
  have hr : ∀ o, o < 240 → o ≠ 80 → cutR rm o = rm o := fun o ho h8 => (if_pos ho).trans (nrm_ne h8)
  refine h.cg (fun o ho => if_pos ho) hr (fun j hj => ?_) ⟨fun o ho => if_neg (by show ¬ o < 240; omega), fun o ho => if_neg (by show ¬ o < 240; omega), fun k hk j o hj => ?_⟩
  · have e : cutR rm 80 = nrm rm 80 := if_pos (by decide)
    rw [e, nrm_lt hj]
  · by_cases e : k < 240
    · rw [hr k e hk] at hj
      exact h.fz.2.2 k hk j o hj
    · rw [show cutR rm k = fun _ => none from if_neg e] at hj
      cases hj
/-- the start of what comes to be -/
theorem TS.fs {lm : TL} (h : TS (fun _ _ => 0, fun _ _ => none) S n T sn bl B im rm) (hl : lm = fun _ _ => 0) : FS NN im (nrm rm) lm := by
  refine ⟨fun k hk => ⟨h.fz.1 k hk, ?_, by rw [hl]⟩, fun k j o ho => ?_⟩
  · rw [nrm_ne (show k ≠ 80 by have : 240 ≤ k := hk; omega)]
    exact h.fz.2.1 k hk
  · by_cases e : k = 80
    · subst e
      by_cases e6 : j < 6
      · rw [nrm_lt e6] at ho
        exact h.h80 j e6 o ho
      · have : nrm rm 80 j = none := if_pos ⟨rfl, by omega⟩
        rw [this] at ho
        cases ho
    · rw [nrm_ne e] at ho
      exact h.fz.2.2 k e j o ho
theorem TS.arr {A : TI} {R : TP} {o j : Nat} {x : Int32} (h : TS (A, R) S n T sn bl B im rm) (ho : 240 ≤ o) : TS (ui A o j x, R) S n T sn bl B (ui im o j x) rm :=
  h.cg (fun q hq => ui_ne (by omega)) (fun _ _ _ => rfl) (fun _ _ => rfl) ⟨fun q hq => by
    by_cases e : q = o
    · subst e
      funext p
      show ui im q j x q p = ui A q j x q p
      rw [ui_at, ui_at, h.fz.1 q hq]
    · show ui im o j x q = ui A o j x q
      rw [ui_ne e, ui_ne e]
      exact h.fz.1 q hq, h.fz.2⟩
theorem TS.at {A : TI} {R : TP} {o j : Nat} {x : Int32} (h : TS (A, R) S n T sn bl B im rm) (ho : 240 ≤ o) (hx : A o j = x) : im o j = x := by
  rw [h.fz.1 o ho]
  exact hx
end W31
section W32
variable {l : Launch} {mt y : MT} {d dc mc ms N pc i : Nat} {L : List (Option Value)} {st rest : List Value} {im : TI} {rm : TP} {lm : TL} {Q : TQ} {X : TX}
theorem pw_iald9v {z x : Int32} {k j : Nat} (hd : decode mt.2.1 pc = .ok (.iaload, 1)) (hk : kd k = 9) (hN : k < N) (hz : z = nI j) (hj : j < al k) (h31 : al k < 2 ^ 31) (hx : im k j = x) (K : PW l mt d mc ms N (pc + 1) L (.int x :: st) im rm lm Q X) : PW l mt d mc ms N pc L (.int z :: pv (some k) :: st) im rm lm Q X := by
  subst hz; subst hx
  refine pw_iald9 hd hk hN (vin_nI hj h31) ?_
  rw [nI_clamp (by omega)]
  exact K
theorem pw_iast9v {z x : Int32} {k j : Nat} (hd : decode mt.2.1 pc = .ok (.iastore, 1)) (hk : kd k = 9) (hN : k < N) (hz : z = nI j) (hj : j < al k) (h31 : al k < 2 ^ 31) (K : PW l mt d mc ms N (pc + 1) L st (ui im k j x) rm lm Q X) : PW l mt d mc ms N pc L (.int x :: .int z :: pv (some k) :: st) im rm lm Q X := by
  subst hz
  refine pw_iast9 hd hk hN (vin_nI hj h31) ?_
  rw [nI_clamp (by omega)]
  exact K
theorem w_callV1P {b ci : Nat} {C : String} {T : u_T} {nT : Nat} {ty : Nat → FieldType} {a1 : Value} {x : Value} (hN : NN ≤ N) (hC : Con l y dc 0 0 NN [pv (some b), a1] im rm lm (QP x im rm lm) noX) (hyh : y.2.2.2.2.1 = some []) (hT : FT ci C T nT ty) (hyC : y.1.cls = C) (hcw : Cond.code y.1 y.2.1 y.2.2.1 y.2.2.2.1 ∈ wsAll) (hml : Cond.methodLink mt.1.cls i y.1 ∈ wsAll) (hmi : Cond.instanceMethod y.1 ∈ wsAll) (hms : Cond.selects y.1.cls y.1 y.1 ∈ wsAll) (hini : Cond.initialized y.1.cls ∈ wsAll) (hok : okC mt y d dc 1) (hd : decode mt.2.1 pc = .ok (.invokevirtual i, 3)) (hkb : kd b = ci) (hcat : (rest.map fun v => v.category).sum ≤ 8) (K : PW l mt d mc ms N (pc + 3) L (x :: rest) im rm lm Q X) : PW l mt d mc ms N pc L (a1 :: pv (some b) :: rest) im rm lm Q X := by
  refine PW.room (mc' := 0 + mc) (ms' := 0 + ms) (by omega) (by omega) ?_
  exact pw_callV (as := [a1]) (hC.grow hN fun N' v i r q h => by obtain ⟨h1, h2, h3, h4, h5⟩ := h; rw [h3, h4, h5]; exact ⟨h1, fun _ _ => ⟨rfl, rfl, rfl⟩⟩) hyh hT hyC hcw hml hmi hms hini hok hd hkb (Nat.lt_of_lt_of_le (kd_lt hkb (Nat.le_trans (Nat.le_of_lt hT.2.2.2.1) (by decide))) hN) hcat (fun N v i r q h => Or.inl h.1) (fun _ _ _ _ h => h.elim) (fun N v i r q h => by obtain ⟨rfl, -, rfl, rfl, rfl, rfl⟩ := h; exact K)
theorem w_callV1T {b ci : Nat} {C : String} {T : u_T} {nT : Nat} {ty : Nat → FieldType} {a1 : Value} {x : Int32} {A : TI} {R : TP} {S S2 : CS} {n0 n2 : Nat} {T0 T2 : Nat → CS} {sn : Option CS} {bl : Nat} {B : Nat → Int32} (hN : NN ≤ N) (hTS : TS (A, R) S n0 T0 sn bl B im rm) (hC : Con l y dc 0 0 NN [pv (some b), a1] im rm lm (QT x lm (A, R) S2 n2 T2 sn bl B) noX) (hyh : y.2.2.2.2.1 = some []) (hT : FT ci C T nT ty) (hyC : y.1.cls = C) (hcw : Cond.code y.1 y.2.1 y.2.2.1 y.2.2.2.1 ∈ wsAll) (hml : Cond.methodLink mt.1.cls i y.1 ∈ wsAll) (hmi : Cond.instanceMethod y.1 ∈ wsAll) (hms : Cond.selects y.1.cls y.1 y.1 ∈ wsAll) (hini : Cond.initialized y.1.cls ∈ wsAll) (hok : okC mt y d dc 1) (hd : decode mt.2.1 pc = .ok (.invokevirtual i, 3)) (hkb : kd b = ci) (hcat : (rest.map fun v => v.category).sum ≤ 8) (K : ∀ (i2 : TI) (r2 : TP), TS (A, R) S2 n2 T2 sn bl B i2 r2 → PW l mt d mc ms N (pc + 3) L (.int x :: rest) i2 r2 lm Q X) : PW l mt d mc ms N pc L (a1 :: pv (some b) :: rest) im rm lm Q X := by
  refine PW.room (mc' := 0 + mc) (ms' := 0 + ms) (by omega) (by omega) ?_
  exact pw_callV (as := [a1]) (hC.grow hN fun N' v i r q h => by obtain ⟨h1, h2, h3, h4⟩ := h; rw [h3]; exact ⟨h1, fun k hk => ⟨(h4.fz.1 k hk).trans (hTS.fz.1 k hk).symm, (h4.fz.2.1 k hk).trans (hTS.fz.2.1 k hk).symm, rfl⟩⟩) hyh hT hyC hcw hml hmi hms hini hok hd hkb (Nat.lt_of_lt_of_le (kd_lt hkb (Nat.le_trans (Nat.le_of_lt hT.2.2.2.1) (by decide))) hN) hcat (fun N v i r q h => Or.inl h.1) (fun _ _ _ _ h => h.elim) (fun N v i r q h => by obtain ⟨rfl, -, rfl, rfl, h4⟩ := h; exact K _ _ h4)
theorem w_callV2P {b ci : Nat} {C : String} {T : u_T} {nT : Nat} {ty : Nat → FieldType} {a1 a2 : Value} {x : Value} (hN : NN ≤ N) (hC : Con l y dc 0 0 NN [pv (some b), a1, a2] im rm lm (QP x im rm lm) noX) (hyh : y.2.2.2.2.1 = some []) (hT : FT ci C T nT ty) (hyC : y.1.cls = C) (hcw : Cond.code y.1 y.2.1 y.2.2.1 y.2.2.2.1 ∈ wsAll) (hml : Cond.methodLink mt.1.cls i y.1 ∈ wsAll) (hmi : Cond.instanceMethod y.1 ∈ wsAll) (hms : Cond.selects y.1.cls y.1 y.1 ∈ wsAll) (hini : Cond.initialized y.1.cls ∈ wsAll) (hok : okC mt y d dc 2) (hd : decode mt.2.1 pc = .ok (.invokevirtual i, 3)) (hkb : kd b = ci) (hcat : (rest.map fun v => v.category).sum ≤ 8) (K : PW l mt d mc ms N (pc + 3) L (x :: rest) im rm lm Q X) : PW l mt d mc ms N pc L (a2 :: a1 :: pv (some b) :: rest) im rm lm Q X := by
  refine PW.room (mc' := 0 + mc) (ms' := 0 + ms) (by omega) (by omega) ?_
  exact pw_callV (as := [a1, a2]) (hC.grow hN fun N' v i r q h => by obtain ⟨h1, h2, h3, h4, h5⟩ := h; rw [h3, h4, h5]; exact ⟨h1, fun _ _ => ⟨rfl, rfl, rfl⟩⟩) hyh hT hyC hcw hml hmi hms hini hok hd hkb (Nat.lt_of_lt_of_le (kd_lt hkb (Nat.le_trans (Nat.le_of_lt hT.2.2.2.1) (by decide))) hN) hcat (fun N v i r q h => Or.inl h.1) (fun _ _ _ _ h => h.elim) (fun N v i r q h => by obtain ⟨rfl, -, rfl, rfl, rfl, rfl⟩ := h; exact K)
theorem w_callV2T {b ci : Nat} {C : String} {T : u_T} {nT : Nat} {ty : Nat → FieldType} {a1 a2 : Value} {x : Int32} {A : TI} {R : TP} {S S2 : CS} {n0 n2 : Nat} {T0 T2 : Nat → CS} {sn : Option CS} {bl : Nat} {B : Nat → Int32} (hN : NN ≤ N) (hTS : TS (A, R) S n0 T0 sn bl B im rm) (hC : Con l y dc 0 0 NN [pv (some b), a1, a2] im rm lm (QT x lm (A, R) S2 n2 T2 sn bl B) noX) (hyh : y.2.2.2.2.1 = some []) (hT : FT ci C T nT ty) (hyC : y.1.cls = C) (hcw : Cond.code y.1 y.2.1 y.2.2.1 y.2.2.2.1 ∈ wsAll) (hml : Cond.methodLink mt.1.cls i y.1 ∈ wsAll) (hmi : Cond.instanceMethod y.1 ∈ wsAll) (hms : Cond.selects y.1.cls y.1 y.1 ∈ wsAll) (hini : Cond.initialized y.1.cls ∈ wsAll) (hok : okC mt y d dc 2) (hd : decode mt.2.1 pc = .ok (.invokevirtual i, 3)) (hkb : kd b = ci) (hcat : (rest.map fun v => v.category).sum ≤ 8) (K : ∀ (i2 : TI) (r2 : TP), TS (A, R) S2 n2 T2 sn bl B i2 r2 → PW l mt d mc ms N (pc + 3) L (.int x :: rest) i2 r2 lm Q X) : PW l mt d mc ms N pc L (a2 :: a1 :: pv (some b) :: rest) im rm lm Q X := by
  refine PW.room (mc' := 0 + mc) (ms' := 0 + ms) (by omega) (by omega) ?_
  exact pw_callV (as := [a1, a2]) (hC.grow hN fun N' v i r q h => by obtain ⟨h1, h2, h3, h4⟩ := h; rw [h3]; exact ⟨h1, fun k hk => ⟨(h4.fz.1 k hk).trans (hTS.fz.1 k hk).symm, (h4.fz.2.1 k hk).trans (hTS.fz.2.1 k hk).symm, rfl⟩⟩) hyh hT hyC hcw hml hmi hms hini hok hd hkb (Nat.lt_of_lt_of_le (kd_lt hkb (Nat.le_trans (Nat.le_of_lt hT.2.2.2.1) (by decide))) hN) hcat (fun N v i r q h => Or.inl h.1) (fun _ _ _ _ h => h.elim) (fun N v i r q h => by obtain ⟨rfl, -, rfl, rfl, h4⟩ := h; exact K _ _ h4)
end W32
/-! an hour, as passes looks at it -/
theorem i32_pd (x y : Int32) : y = x + (y - x) := by rw [Int32.sub_eq_add_neg, show x + (y + -x) = y + x + -x by ac_rfl, i32_mm]
theorem i32_ss (x : Int32) : x - x = 0 := Int32.sub_self x
theorem ho_k {S : CS} {k : Nat} (hk : k < 5) : ((hoS S).1 1 - 1 = nI k → (hoS S).2.1 k 7 = S.2.1 k 7 + 1) ∧ (¬ (hoS S).1 1 - 1 = nI k → (hoS S).2.1 k 7 = S.2.1 k 7 + 0) := by
  rcases ho_who (S := S) with ⟨a, b, c⟩ | ⟨m, hm, a, b, c⟩
  · rw [a, c]
    refine ⟨fun z => ?_, fun _ => (Int32.add_zero _).symm⟩
    have := nI_pos (n := k) (by omega)
    rw [← z] at this
    exact absurd (by decide) this
  · rw [a, c]
    refine ⟨fun z => ?_, fun z => ?_⟩
    · rw [if_pos ((nI_eq (by omega) (by omega)).mp z)]
    · rw [if_neg fun e => z (by rw [e])]
theorem ho_idle {S : CS} : ((hoS S).1 1 - 1 < 0 ∧ ¬ (hoS S).1 2 - S.1 2 = 0) ∨ (¬ (hoS S).1 1 - 1 < 0 ∧ (hoS S).1 2 - S.1 2 = 0) := by
  rcases ho_who (S := S) with ⟨a, b, c⟩ | ⟨m, hm, a, b, c⟩
  · rw [a, b]
    refine Or.inl ⟨by decide, ?_⟩
    rw [Int32.add_comm, show (1 : Int32) + S.1 2 - S.1 2 = 1 by rw [Int32.add_sub_cancel]]
    decide
  · rw [a, b]
    exact Or.inr ⟨nI_pos (by omega), i32_ss _⟩
