/-! The law: what holds between two steps of the script -/
theorem TS.re {Z : TI × TP} {S : CS} {n : Nat} {T : Nat → CS} {sn : Option CS} {bl : Nat} {B : Nat → Int32} {im im2 : TI} {rm : TP} (h : TS Z S n T sn bl B im rm) (e : ∀ o, o < 240 → im2 o = im o) : TS (im2, rm) S n T sn bl B im2 rm := by
  obtain ⟨h1, ⟨h3, h4⟩, ⟨⟨hs, h5⟩, h6⟩, h7, ⟨h8, h9⟩, h10, ⟨h11, h12⟩, h13, h14⟩ := h
  exact ⟨h1, ⟨h3.keep fun o _ _ => e o (by omega), h4⟩, ⟨⟨hs, h5.keep fun o _ _ => e o (by omega)⟩, h6⟩, h7.keep fun o _ _ => e o (by omega), ⟨h8.keep fun o _ _ => e o (by omega), fun s hs => ⟨(h9 s hs).1.keep fun o _ _ => e o (by omega), (h9 s hs).2⟩⟩, by rw [e 0 (by decide)]; exact h10, ⟨by rw [e 0 (by decide)]; exact h11, h12⟩, by rw [e 237 (by decide)]; exact h13, ⟨fun _ _ => rfl, fun _ _ => rfl⟩⟩
theorem MZ.re {Y : TI} {S : CS} {n : Nat} {T : Nat → CS} {sn : Option CS} {bl : Nat} {B : Nat → Int32} {im im2 : TI} (h : MZ Y S n T sn bl B im) (e : ∀ o, 239 < o → im2 o = im o) : MZ im2 S n T sn bl B im2 := by
  obtain ⟨h1, ⟨h2, h3, h4⟩, ⟨h5, h6⟩, ⟨h7, h8⟩, h9, _⟩ := h
  exact ⟨by rw [e 241 (by decide)]; exact h1, ⟨by rw [e 240 (by decide)]; exact h2, h3, by rw [e 242 (by decide)]; exact h4⟩, ⟨by rw [e 240 (by decide)]; exact h5, by rw [e 243 (by decide)]; exact h6⟩, ⟨by rw [e 240 (by decide)]; exact h7, h8⟩, by rw [e 245 (by decide)]; exact h9, fun _ _ => rfl⟩
theorem MM.re {rm r2 : TP} (h : MM rm) (e : ∀ o, 239 < o → r2 o = rm o) : MM r2 := by
  unfold MM
  rw [e 240 (by decide)]
  exact h
def WW (S : CS) (n : Nat) (T : Nat → CS) (sn : Option CS) (bl : Nat) (B : Nat → Int32) : Prop := WF S ∧ (∀ i, i < n → WF (T i)) ∧ (∀ s, sn = some s → WF s) ∧ ∀ j, j < bl → (33 : Int32) ≤ B j ∧ B j ≤ 126
def LI (S : CS) (n : Nat) (T : Nat → CS) (sn : Option CS) (bl : Nat) (B : Nat → Int32) (im : TI) (rm : TP) : Prop := TS (im, rm) S n T sn bl B im rm ∧ MZ im S n T sn bl B im ∧ MM rm ∧ WW S n T sn bl B
def LJ (im : TI) (rm : TP) : Prop := ∃ S n T sn bl B, LI S n T sn bl B im rm
theorem WW.sh {S S2 : CS} {n : Nat} {T : Nat → CS} {sn : Option CS} {bl : Nat} {B : Nat → Int32} (h : WW S n T sn bl B) (h6 : n ≤ 6) (h2 : WF S2) : WW S2 (shN n) (shT n T S) sn bl B := by
  refine ⟨h2, fun i hi => ?_, h.2.2⟩
  unfold shN at hi
  unfold shT
  by_cases e : n < 6
  · rw [if_pos e] at hi ⊢
    show WF (if i = n then S else T i)
    by_cases e2 : i = n
    · rw [if_pos e2]; exact h.1
    · rw [if_neg e2]; exact h.2.1 i (by omega)
  · rw [if_neg e] at hi ⊢
    show WF (if i < 5 then T (i + 1) else S)
    by_cases e2 : i < 5
    · rw [if_pos e2]; exact h.2.1 (i + 1) (by omega)
    · rw [if_neg e2]; exact h.1
theorem LI.n6 {S : CS} {n : Nat} {T : Nat → CS} {sn : Option CS} {bl : Nat} {B : Nat → Int32} {im : TI} {rm : TP} (h : LI S n T sn bl B im rm) : n ≤ 6 := h.2.1.2.1.2.1
theorem LI.sh {S S2 : CS} {n : Nat} {T : Nat → CS} {sn : Option CS} {bl : Nat} {B : Nat → Int32} {im : TI} {rm : TP} (h : LI S n T sn bl B im rm) (h2 : WF S2) : WW S2 (shN n) (shT n T S) sn bl B := h.2.2.2.sh h.n6 h2
theorem py_WF {b : Nat → Nat} {bl : Nat} : ∀ (n p k : Nat) (S : CS), WF S → (vt b bl n p).1 = true → WF (py b bl n p k S).2 := by
  intro n
  induction n with
  | zero => intro p k S h _; exact h
  | succ n ih =>
    intro p k S h hv
    unfold vt at hv
    by_cases h1 : (rdP b bl p).1 = true
    · rw [if_pos h1] at hv
      unfold py
      split
      · exact h
      · rename_i S2 e
        have h2 := h.do (rdP_ok h1).2 e
        by_cases h3 : (rdP b bl p).2.1 = bl
        · rw [if_pos h3]; exact h2
        · rw [if_neg h3] at hv ⊢
          by_cases h4 : b (rdP b bl p).2.1 = 59
          · rw [if_pos h4] at hv; exact ih _ _ _ h2 hv
          · rw [if_neg h4] at hv; cases hv
    · rw [if_neg h1] at hv; cases hv
theorem WW.b {S : CS} {n : Nat} {T : Nat → CS} {sn : Option CS} {bl : Nat} {B : Nat → Int32} (h : WW S n T sn bl B) : ∀ j, j < bl → B j = nI (B j).toNatClampNeg ∧ (B j).toNatClampNeg < 128 := by
  intro j hj
  obtain ⟨h1, h2⟩ := h.2.2.2 j hj
  obtain ⟨k, hk, e⟩ := nI_of2 (n := 126) (M := 126) (by decide) (fun z => absurd (Int32.lt_of_le_of_lt h1 z) (by decide)) h2
  rw [e, nI_clamp (by omega)]
  exact ⟨rfl, by omega⟩
theorem CW0 : CW S0 := ⟨fun m _ => ⟨0, by decide, rfl⟩, fun m _ => ⟨by show (0 : Int32) < 200; decide, by show (0 : Int32) < 10; decide⟩, ⟨by show (0 : Int32) ≤ 10 ∧ (10 : Int32) ≤ 15; decide, fun m _ => by show (0 : Int32) ≤ 20 ∧ (20 : Int32) ≤ 60; decide⟩⟩
theorem WA0 : WA S0 := ⟨CW0, fun m p _ hp => absurd hp (by show ¬ p + 1 < 0; omega), fun m _ p _ _ _ hp => absurd hp (by show ¬ p < 0; omega), ⟨0, 0, 0, by decide, rfl, fun m p _ hp => absurd hp (by show ¬ p < 0; omega), rfl, rfl, by decide, by decide, by decide⟩⟩
theorem bx0S : bxS S0 := ⟨⟨by show 1 ≤ (10 : Int32).toInt ∧ (10 : Int32).toInt ≤ 15; decide, by show 0 ≤ (20 : Int32).toInt ∧ (20 : Int32).toInt ≤ 100; decide, by show 5 ≤ (20 : Int32).toInt ∧ (20 : Int32).toInt ≤ 100; decide⟩, fun m _ => ⟨by show 50 ≤ (200 : Int32).toInt ∧ (200 : Int32).toInt ≤ 500; decide, by show 0 ≤ (0 : Int32).toInt ∧ (0 : Int32).toInt ≤ (200 : Int32).toInt; decide, by show 0 ≤ (20 : Int32).toInt ∧ (20 : Int32).toInt ≤ 60; decide, by show 0 ≤ (0 : Int32).toInt ∧ (0 : Int32).toInt ≤ (11 : Int32).toInt ∧ (11 : Int32).toInt ≤ 11; decide, by show 8 ≤ (40 : Int32).toInt ∧ (40 : Int32).toInt ≤ 60; decide, by show 8 ≤ (10 : Int32).toInt ∧ (10 : Int32).toInt ≤ 60; decide⟩, fun m p _ hp => absurd hp (by show ¬ p < 0; omega)⟩
theorem WF0 : WF S0 := WF.of WA0 bx0S
set_option maxHeartbeats 4000000 in
set_option maxRecDepth 100000 in
theorem M_thrown {l : Launch} (hlt : l.stackTraces = false) {im : TI} {rm : TP} {lm : TL}  : Con l m_X5_thrown 0 0 0 NN [pv (some 240)] im rm lm (QP (.int (im 240 8)) im rm lm) noX := by
  refine Con.ofN (k := 0) (L0 := [some (pv (some 240))]) hlt (by decide +kernel) rfl rfl (by rw [en1 pv_cat, en0]; exact Nat.le_of_ble_eq_true rfl) (by rw [en1 pv_cat, en0]; rfl) ?_
  have hk0 := kdM
  refine t_aload0 dX5_thrown_0 ?_
  refine g_geti ft5 fl_X5_32 (j := 8) (by decide) dX5_thrown_1 (by assumption) ?_
  refine pw_iret dX5_thrown_4 rfl ?_
  exact ⟨rfl, rfl, rfl, rfl, rfl⟩
section LAWM
variable {l : Launch} {mtM mtC : MT} {as : List Value} {im : TI} {rm : TP} {lm : TL} {S S2 : CS} {n n2 : Nat} {T T2 : Nat → CS} {sn sn2 : Option CS} {bl bl2 : Nat} {B B2 : Nat → Int32} {i1 : TI} {r1 : TP} {q1 : TL} {x : Int32}
theorem LI.mz (hL : LI S n T sn bl B im rm) (hT : TS (im, rm) S2 n2 T2 sn2 bl2 B2 i1 r1) : MZ i1 S n T sn bl B i1 := hL.2.1.re hT.2.2.2.2.2.2.2.2.1
theorem LI.mm (hL : LI S n T sn bl B im rm) (hT : TS (im, rm) S2 n2 T2 sn2 bl2 B2 i1 r1) : MM r1 := hL.2.2.1.re hT.2.2.2.2.2.2.2.2.2
theorem okM (hL : LI S n T sn bl B im rm) (hW : WW S2 n2 T2 sn2 bl2 B2) (hq : q1 = ul lm 247 0 x.toInt64) (hT : TS (im, rm) S2 n2 T2 sn2 bl2 B2 i1 r1)
    (hM : MM r1 → MZ i1 S n T sn bl B i1 → Con l mtM 9 0 0 NN as i1 r1 q1 (QI (fun y i2 => y = x ∧ i2 240 8 = 0 ∧ MZ i1 S2 n2 T2 sn2 bl2 B2 i2) r1 q1) noX) :
    Con l mtM 9 0 0 NN as i1 r1 q1 (QI (fun y i2 => i2 240 8 = 0 ∧ ((0 : Int32) = 0 → q1 247 0 = y.toInt64) ∧ LJ i2 r1) r1 q1) noX :=
  (hM (hL.mm hT) (hL.mz hT)).mono fun N v a b c ⟨h1, h2, h3, y, h4, h5, h6, h7⟩ => ⟨h1, h2, h3, y, h4, h6, fun _ => by rw [h5, hq]; unfold ul; simp [vp_updL], ⟨S2, n2, T2, sn2, bl2, B2, hT.re h7.2.2.2.2.2, h7.re fun _ _ => rfl, hL.mm hT, hW⟩⟩
theorem erM {k : Int32} (hk : k ≠ 0) (hL : LI S n T sn bl B im rm) (hT : TS (im, rm) S n T sn bl B i1 r1)
    (hM : MM r1 → MZ i1 S n T sn bl B i1 → Con l mtM 9 0 0 NN as i1 r1 q1 (QI (fun _ i2 => i2 240 8 = k ∧ MZ i1 S n T sn bl B i2) r1 q1) noX) :
    Con l mtM 9 0 0 NN as i1 r1 q1 (QI (fun y i2 => i2 240 8 = k ∧ (k = 0 → q1 247 0 = y.toInt64) ∧ LJ i2 r1) r1 q1) noX :=
  (hM (hL.mm hT) (hL.mz hT)).mono fun N v a b c ⟨h1, h2, h3, y, h4, h6, h7⟩ => ⟨h1, h2, h3, y, h4, h6, fun z => absurd z hk, ⟨S, n, T, sn, bl, B, hT.re h7.2.2.2.2.2, h7.re fun _ _ => rfl, hL.mm hT, hL.2.2.2⟩⟩
/-- the direct comparison -/
theorem dirM (hL : LI S n T sn bl B im rm) (hW : WW S2 n2 T2 sn2 bl2 B2) (hT : TS (im, rm) S2 n2 T2 sn2 bl2 B2 i1 r1)
    (hM : MM r1 → MZ i1 S n T sn bl B i1 → Con l mtM 9 0 0 NN as i1 r1 q1 (QI (fun y i2 => y = x ∧ i2 240 8 = 0 ∧ MZ i1 S2 n2 T2 sn2 bl2 B2 i2) r1 q1) noX) :
    Con l mtM 9 0 0 NN as i1 r1 q1 (QI (fun y i2 => y = x ∧ LJ i2 r1) r1 q1) noX :=
  (hM (hL.mm hT) (hL.mz hT)).mono fun N v a b c ⟨h1, h2, h3, y, h4, h5, h6, h7⟩ => ⟨h1, h2, h3, y, h4, h5, ⟨S2, n2, T2, sn2, bl2, B2, hT.re h7.2.2.2.2.2, h7.re fun _ _ => rfl, hL.mm hT, hW⟩⟩
/-- an answer that leaves the memory, as one that keeps the state -/
theorem qpC (hL : LI S n T sn bl B im rm) (hC : Con l mtC 9 0 0 NN as im rm lm (QP (.int x) im rm lm) noX) : Con l mtC 9 0 0 NN as im rm lm (QG (fun v i r q => v = some (.int x) ∧ q = lm ∧ TS (im, rm) S n T sn bl B i r)) noX :=
  hC.mono fun N v a b c ⟨h1, h2, h3, h4, h5⟩ => ⟨h1, h2, h5, by rw [h3, h4]; exact hL.1⟩
end LAWM
abbrev m_L_law (Lx : Nat) (xs : Nat → Int32) : MT := (yL_law, cL_law, 9, some .boolean, none, some (Lx, xs))
abbrev LL (i : Nat) : List (Option Value) := [some (pv (some 900)), some (pv (some 0)), some (pv (some 240)), some (pv (some 247)), some (.int (nI i)), none, none, none, none]
theorem LLless {i : Nat} {o5 o6 o7 o8 : Option Value} : ∀ (j : Nat) (v : Value), (LL i)[j]? = some (some v) → [some (pv (some 900)), some (pv (some 0)), some (pv (some 240)), some (pv (some 247)), some (.int (nI i)), o5, o6, o7, o8][j]? = some (some v) := by
  intro j v h
  match j, h with
  | 0, h => exact h
  | 1, h => exact h
  | 2, h => exact h
  | 3, h => exact h
  | 4, h => exact h
  | 5, h => simp [LL] at h
  | 6, h => simp [LL] at h
  | 7, h => simp [LL] at h
  | 8, h => simp [LL] at h
  | j + 9, h => simp [LL] at h
theorem lgc {x : Int64} : lg_cmp x x = 0 := by unfold lg_cmp; simp
theorem xin {i k Lx : Nat} (hi : i + 4 ≤ Lx) (hL : Lx ≤ 2048) (hk : k < 4) : vp_in (nI i + nI k) Lx ∧ (nI i + nI k).toNatClampNeg = i + k := by
  rw [nI_add]
  exact ⟨vp_in_nI (by omega) (by omega), nI_clamp (by omega)⟩
