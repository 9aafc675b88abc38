/-! The class's reader and the reference's: numbers, parts, the text -/
section SIM
variable {B : Nat → Int32} {b : Nat → Nat} {bl : Nat}
theorem sim_loop (hB : ∀ j, j < bl → B j = nI (b j) ∧ b j < 128) {k r : Nat} (hk : KR k r) : ∀ n q v d im, q + n = bl → AT k r d v im → 1 ≤ d → d + n < 1000 → 1 ≤ v → v ≤ msN k r →
    ∃ im2 d2, GO B b q im (rnL b bl (msN k r) n q v).1 im2 ∧ AT k r d2 (rnL b bl (msN k r) n q v).2 im2 ∧ 1 ≤ d2 ∧ d2 < 1000 ∧ kpt r im im2 ∧ ((rnL b bl (msN k r) n q v).1 < bl → 48 ≤ b (rnL b bl (msN k r) n q v).1 → b (rnL b bl (msN k r) n q v).1 ≤ 57 → (tkA im2 (B (rnL b bl (msN k r) n q v).1)).1 = 0) ∧ (rnL b bl (msN k r) n q v).1 ≤ bl := by
  have hm := (ls_n hk).2.2
  intro n
  induction n with
  | zero => intro q v d im hq hA hd hdn hv hvm; exact ⟨im, d, GO.rf, hA, hd, by omega, fun _ _ => rfl, fun z => by rw [rnL] at z; omega, by rw [rnL]; omega⟩
  | succ n ih =>
    intro q v d im hq hA hd hdn hv hvm
    obtain ⟨hb1, hb2⟩ := hB q (by omega)
    rw [rnL]
    by_cases hc : q < bl ∧ (48 ≤ b q ∧ b q ≤ 57) ∧ 10 * v + (b q - 48) ≤ msN k r
    · rw [if_pos hc]
      obtain ⟨im2, e1, e2, e3⟩ := (hA.dig hk (by omega) (by omega) hc.2.1.1 hc.2.1.2).1 ⟨fun z => by omega, Or.inr ⟨by omega, hc.2.2, Or.inl (by omega)⟩⟩
      obtain ⟨im3, d3, f1, f2, f3, f4, f5, f6, f7⟩ := ih (q + 1) (10 * v + (b q - 48)) (d + 1) im2 (by omega) e2 (by omega) (by omega) (by omega) hc.2.2
      exact ⟨im3, d3, (GO.one (by rw [hb1]; exact e1) (by omega)).trans f1, f2, f3, f4, fun j hj => (f5 j hj).trans (e3 j hj), f6, f7⟩
    · rw [if_neg hc]
      refine ⟨im, d, GO.rf, hA, hd, by omega, fun _ _ => rfl, fun z1 z2 z3 => ?_, by show q ≤ bl; omega⟩
      show (tkA im (B q)).1 = 0
      rw [hb1]
      exact (hA.dig hk (by omega) (by omega) z2 z3).2 (fun y => hc ⟨by omega, ⟨z2, z3⟩, y.2.elim (fun w => by have := w.1; dsimp only at z2 z3; omega) (fun w => w.2.1)⟩)
theorem sim_num (hB : ∀ j, j < bl → B j = nI (b j) ∧ b j < 128) (hbl : bl ≤ 60) {k r q : Nat} {im : TI} (hk : KR k r) (hlo : 1 ≤ lsN k r) (h9 : 9 ≤ msN k r) (hq : q ≤ bl) (hA : AT k r 0 0 im) :
    ∃ im2 d2 v2, GO B b q im (rdN b bl (lsN k r) (msN k r) q).2.1 im2 ∧ AT k r d2 v2 im2 ∧ (d2 < 1000 ∧ v2 < 10000) ∧ kpt r im im2 ∧ (rdN b bl (lsN k r) (msN k r) q).2.1 ≤ bl ∧ ((rdN b bl (lsN k r) (msN k r) q).1 = true → (0 < d2 ∧ lsN k r ≤ v2 ∧ v2 ≤ msN k r) ∧ v2 = (rdN b bl (lsN k r) (msN k r) q).2.2) ∧ ((rdN b bl (lsN k r) (msN k r) q).1 = false → ¬ (0 < d2 ∧ lsN k r ≤ v2 ∧ v2 ≤ msN k r)) ∧
      ((rdN b bl (lsN k r) (msN k r) q).2.1 < bl → 48 ≤ b (rdN b bl (lsN k r) (msN k r) q).2.1 → b (rdN b bl (lsN k r) (msN k r) q).2.1 ≤ 57 → (tkA im2 (B (rdN b bl (lsN k r) (msN k r) q).2.1)).1 = 0) := by
  have hm := (ls_n hk).2.2
  unfold rdN
  by_cases hc : fdg b bl q = 0 ∨ (fdg b bl q < lsN k r ∧ msN k r < 10 * fdg b bl q)
  · rw [if_pos hc]
    refine ⟨im, 0, 0, GO.rf, hA, by omega, fun _ _ => rfl, hq, (fun z => (by cases z)), (fun _ z => absurd z.1 (Nat.lt_irrefl 0)), fun z1 z2 z3 => ?_⟩
    dsimp only at z1 z2 z3 ⊢
    obtain ⟨hb1, hb2⟩ := hB q z1
    rw [hb1]
    refine (hA.dig hk (by omega) (by omega) z2 z3).2 (fun y => ?_)
    have hf : fdg b bl q = if q < bl ∧ 49 ≤ b q ∧ b q ≤ 57 then b q - 48 else 0 := rfl
    by_cases e : b q = 48
    · rcases y.2 with w | w
      · omega
      · omega
    · rw [if_pos ⟨z1, by omega, z3⟩] at hf
      rcases y.2 with w | w
      · omega
      · omega
  · rw [if_neg hc]
    have hf : fdg b bl q = if q < bl ∧ 49 ≤ b q ∧ b q ≤ 57 then b q - 48 else 0 := rfl
    by_cases hz : q < bl ∧ 49 ≤ b q ∧ b q ≤ 57
    · rw [if_pos hz] at hf
      obtain ⟨hb1, hb2⟩ := hB q hz.1
      obtain ⟨im2, e1, e2, e3⟩ := (hA.dig hk (by omega) (by omega) (by omega) hz.2.2).1 ⟨fun z => by omega, Or.inr ⟨by omega, by omega, by omega⟩⟩
      obtain ⟨im3, d3, f1, f2, f3, f4, f5, f6, f7⟩ := sim_loop hB hk (bl - (q + 1)) (q + 1) (fdg b bl q) 1 im2 (by omega) (by rw [hf]; have := e2; rw [show 10 * 0 + (b q - 48) = b q - 48 by omega] at this; exact this) (by omega) (by omega) (by omega) (by omega)
      have hhi := rnL_hi (b := b) (bl := bl) (hi := msN k r) (bl - (q + 1)) (q + 1) (fdg b bl q) (by omega)
      refine ⟨im3, d3, _, (GO.one (by rw [hb1]; exact e1) (by omega)).trans f1, f2, ⟨by omega, by omega⟩, fun j hj => (f5 j hj).trans (e3 j hj), f7, fun z => ⟨⟨by omega, of_decide_eq_true z, hhi⟩, rfl⟩, fun z y => of_decide_eq_false z y.2.1, f6⟩
    · rw [if_neg hz] at hf
      exact absurd (Or.inl hf) hc
/-- what comes behind a number -/
theorem AT.rej (hB : ∀ j, j < bl → B j = nI (b j) ∧ b j < 128) {k r d v e : Nat} {im : TI} (h : AT k r d v im) (hk : KR k r) (hd : d < 1000) (hv : v < 10000) (he : e < bl) (hg : 48 ≤ b e → b e ≤ 57 → (tkA im (B e)).1 = 0) (hc : ¬ ((0 < d ∧ lsN k r ≤ v ∧ v ≤ msN k r) ∧ r < lnN k)) (h59 : b e ≠ 59 ∨ ¬ pwP im) : (tkA im (B e)).1 = 0 := by
  obtain ⟨hb1, hb2⟩ := hB e he
  by_cases h1 : 48 ≤ b e ∧ b e ≤ 57
  · exact hg h1.1 h1.2
  · rw [hb1]
    by_cases h2 : b e = 44
    · rw [h2]; exact (h.com hk hd (by omega)).2 hc
    · by_cases h3 : b e = 59
      · rw [h3, tkA_sep h.1 hk]
        unfold tkS
        rw [if_neg (h59.resolve_left (fun z => z h3))]
      · exact tkA_no h.1 hk hb2 h1 h2 h3
def BG (im : TI) : Prop := im 238 0 = -1 ∧ im 238 2 = nI 0 ∧ im 238 3 = nI 0 ∧ im 239 0 = nI 0
theorem beM_BG {im : TI} : BG (beM im) := by
  unfold beM
  obtain ⟨b1, b2, b3, b4, b5⟩ := bgM_at (im := ui im 238 0 (-1)) (r := 0) (by decide)
  exact ⟨b1.trans (by rw [ui_at, if_pos rfl]), b2, b3, b4⟩
/-- a part, read by both -/
def PC (B : Nat → Int32) (b : Nat → Nat) (bl p : Nat) (im : TI) (R : Bool × Nat × PTT) : Prop := ∃ im1, GO B b p im R.2.1 im1 ∧ (pwP im1 ↔ R.1 = true) ∧ (R.2.1 < bl → (b R.2.1 ≠ 59 ∨ ¬ pwP im1) → (tkA im1 (B R.2.1)).1 = 0) ∧ R.2.1 ≤ bl ∧ (R.1 = true → im1 238 0 = nI R.2.2.1 ∧ nuI im1 0 = nI R.2.2.2.1 ∧ (R.2.2.1 = 43 ∨ (nuI im1 1 = nI R.2.2.2.2.1 ∧ nuI im1 2 = nI R.2.2.2.2.2)))
theorem BG.npw {im : TI} (h : BG im) : ¬ pwP im := fun z => z.1 h.1
theorem BG.take {im : TI} {c : Nat} (h : BG im) (hc : c < 128) : ((c = 115 ∨ c = 103 ∨ c = 43) → tkA im (nI c) = (1, ui im 238 0 (nI c)) ∧ AT c 0 0 0 (ui im 238 0 (nI c))) ∧ (¬ (c = 115 ∨ c = 103 ∨ c = 43) → (tkA im (nI c)).1 = 0) := by
  have e : tkA im (nI c) = tkK im (nI c) := by unfold tkA; rw [if_pos h.1]
  have ec : (nI c = 115 ∨ nI c = 103 ∨ nI c = 43) ↔ (c = 115 ∨ c = 103 ∨ c = 43) := by
    rw [show (115 : Int32) = nI 115 from rfl, show (103 : Int32) = nI 103 from rfl, show (43 : Int32) = nI 43 from rfl, nI_eq (by omega) (by omega), nI_eq (by omega) (by omega), nI_eq (by omega) (by omega)]
  rw [e]
  unfold tkK
  refine ⟨fun z => ?_, fun z => by rw [if_neg (fun y => z (ec.mp y))]⟩
  rw [if_pos (ec.mpr z)]
  exact ⟨rfl, by rw [ui_at, if_pos rfl], by rw [ui_at, if_neg (by decide)]; exact h.2.1, by rw [ui_at, if_neg (by decide)]; exact h.2.2.1, by rw [ui_ne (by decide)]; exact h.2.2.2⟩
theorem sim_part (hB : ∀ j, j < bl → B j = nI (b j) ∧ b j < 128) (hbl : bl ≤ 60) {p : Nat} {im : TI} (hp : p ≤ bl) (h : BG im) : PC B b bl p im (rdP b bl p) := by
  unfold rdP
  by_cases h1 : p < bl ∧ (b p = 115 ∨ b p = 103 ∨ b p = 43)
  · rw [if_pos h1]
    obtain ⟨hb1, hb2⟩ := hB p h1.1
    obtain ⟨t1, t2⟩ := (h.take hb2).1 h1.2
    have g0 : GO B b p im (p + 1) (ui im 238 0 (nI (b p))) := GO.one (by rw [hb1]; exact t1) (by omega)
    generalize ui im 238 0 (nI (b p)) = im1 at t2 g0
    by_cases h2 : b p = 43
    · rw [if_pos h2]
      rw [h2] at t2
      have hk : KR 43 0 := ⟨Or.inl rfl, by decide⟩
      obtain ⟨im2, d2, v2, g1, a1, a2, a3, a4, a5, a6, a7⟩ := sim_num hB hbl hk (by decide) (by decide) (by omega : p + 1 ≤ bl) t2
      rw [show lsN 43 0 = 1 from rfl, show msN 43 0 = 48 from rfl] at *
      have hpw := a1.pw hk a2.1 (by omega)
      have hiff : pwP im2 ↔ (rdN b bl 1 48 (p + 1)).1 = true := by
        rw [hpw]
        refine ⟨fun z => ?_, fun z => ⟨rfl, (a5 z).1⟩⟩
        rcases hq : (rdN b bl 1 48 (p + 1)).1 with _ | _
        · exact absurd z.2 (a6 hq)
        · rfl
      refine ⟨im2, g0.trans g1, hiff, fun z1 z2 => a1.rej hB hk a2.1 a2.2 z1 (a7 z1) (fun z => absurd z.2 (Nat.lt_irrefl 0)) z2, a4, fun z => ⟨a1.1, ?_, Or.inl rfl⟩⟩
      rw [show (0 : Int32) = nI 0 from rfl, nu_at (by decide), a1.2.2.2, (a5 z).2]
    · rw [if_neg h2]
      have hL : b p = 115 ∨ b p = 103 := by omega
      have hL2 : b p = 43 ∨ b p = 103 ∨ b p = 115 := by omega
      generalize b p = L at *
      have k0 : KR L 0 := ⟨hL2, by decide⟩
      have k1 : KR L 1 := ⟨hL2, by decide⟩
      have k2 : KR L 2 := ⟨hL2, by decide⟩
      have l0 : lsN L 0 = 0 ∧ msN L 0 = 4 ∧ lnN L = 2 := by unfold lsN msN lnN; rw [if_neg h2, if_neg h2, if_neg h2]; exact ⟨rfl, rfl, rfl⟩
      by_cases h3 : mlP b bl (p + 1)
      · rw [if_pos h3]
        obtain ⟨c1, c2⟩ := hB (p + 1) h3.1
        obtain ⟨im2, e1, e2, e3⟩ := (t2.dig k0 (by decide) (by decide) h3.2.1 (by omega)).1 ⟨fun z => by omega, by rw [l0.1, l0.2.1]; unfold okN; omega⟩
        rw [show 10 * 0 + (b (p + 1) - 48) = b (p + 1) - 48 by omega] at e2
        have g1 : GO B b (p + 1) im1 (p + 2) im2 := GO.one (by rw [c1]; exact e1) (by omega)
        have hm5 : b (p + 1) - 48 < 5 := by omega
        generalize b (p + 1) - 48 = m at *
        by_cases h4 : p + 2 < bl ∧ b (p + 2) = 44
        · rw [if_pos h4]
          obtain ⟨d1, d2⟩ := hB (p + 2) h4.1
          obtain ⟨im3, e4, e5, e6⟩ := (e2.com k0 (by decide) (by omega)).1 ⟨⟨by decide, by omega, by omega⟩, by omega⟩
          have g2 : GO B b (p + 2) im2 (p + 3) im3 := GO.one (by rw [d1, h4.2]; exact e4) (by omega)
          have m0 : im3 239 0 = nI m := (e6 0 (by decide)).trans e2.2.2.2
          have n1 : nm1 b bl L (p + 3) = rdN b bl (lsN L 1) (msN L 1) (p + 3) ∧ 1 ≤ lsN L 1 ∧ 9 ≤ msN L 1 := by
            unfold nm1 lsN msN
            rcases hL with rfl | rfl <;> exact ⟨rfl, by decide, by decide⟩
          have n2 : ∀ q, nm2 b bl L q = rdN b bl (lsN L 2) (msN L 2) q ∧ 1 ≤ lsN L 2 ∧ 9 ≤ msN L 2 := by
            intro q
            unfold nm2 lsN msN
            rcases hL with rfl | rfl <;> exact ⟨rfl, by decide, by decide⟩
          unfold rdQ
          obtain ⟨im4, dd, vv, g3, a1, a2, a3, a4, a5, a6, a7⟩ := sim_num hB hbl k1 n1.2.1 n1.2.2 (by omega : p + 3 ≤ bl) e5
          rw [← n1.1] at g3 a4 a5 a6 a7
          generalize nm1 b bl L (p + 3) = r1 at *
          have G3 := ((g0.trans g1).trans g2).trans g3
          have m0 : im4 239 0 = nI m := (a3 0 (by decide)).trans m0
          by_cases h5 : r1.1 = true
          · rw [if_pos h5]
            obtain ⟨w1, w2⟩ := a5 h5
            have np1 : ¬ pwP im4 := fun z => by have := ((a1.pw k1 a2.1 (by omega)).mp z).1; omega
            by_cases h6 : r1.2.1 < bl ∧ b r1.2.1 = 44
            · rw [if_pos h6]
              obtain ⟨f1, f2⟩ := hB r1.2.1 h6.1
              obtain ⟨im5, e7, e8, e9⟩ := (a1.com k1 a2.1 (by omega)).1 ⟨w1, by omega⟩
              have g4 : GO B b r1.2.1 im4 (r1.2.1 + 1) im5 := GO.one (by rw [f1, h6.2]; exact e7) (by omega)
              have m0 : im5 239 0 = nI m := (e9 0 (by decide)).trans m0
              have m1 : im5 239 1 = nI r1.2.2 := (e9 1 (by decide)).trans (a1.2.2.2.trans (by rw [w2]))
              obtain ⟨im6, dd2, vv2, g5, s1, s2, s3, s4, s5, s6, s7⟩ := sim_num hB hbl k2 (n2 0).2.1 (n2 0).2.2 (by omega : r1.2.1 + 1 ≤ bl) e8
              rw [← (n2 _).1] at g5 s4 s5 s6 s7
              generalize nm2 b bl L (r1.2.1 + 1) = r2 at *
              have hpw := s1.pw k2 s2.1 (by omega)
              have hiff : pwP im6 ↔ r2.1 = true := by
                rw [hpw]
                refine ⟨fun z => ?_, fun z => ⟨l0.2.2.symm, (s5 z).1⟩⟩
                rcases hq : r2.1 with _ | _
                · exact absurd z.2 (s6 hq)
                · rfl
              refine ⟨im6, (G3.trans g4).trans g5, hiff, fun z1 z2 => s1.rej hB k2 s2.1 s2.2 z1 (s7 z1) (fun z => absurd z.2 (by omega)) z2, s4, fun z => ⟨s1.1, ?_, Or.inr ⟨?_, ?_⟩⟩⟩
              · rw [show (0 : Int32) = nI 0 from rfl, nu_at (by decide)]; exact (s3 0 (by decide)).trans m0
              · rw [show (1 : Int32) = nI 1 from rfl, nu_at (by decide)]; exact (s3 1 (by decide)).trans m1
              · rw [show (2 : Int32) = nI 2 from rfl, nu_at (by decide), s1.2.2.2, (s5 z).2]
            · rw [if_neg h6]
              refine ⟨im4, G3, ⟨fun z => absurd z np1, fun z => by cases z⟩, fun z1 _ => ?_, a4, fun z => by cases z⟩
              dsimp only at z1 ⊢
              obtain ⟨f1, f2⟩ := hB r1.2.1 z1
              by_cases hd : 48 ≤ b r1.2.1 ∧ b r1.2.1 ≤ 57
              · exact a7 z1 hd.1 hd.2
              · rw [f1]
                by_cases h59 : b r1.2.1 = 59
                · rw [h59, tkA_sep a1.1 k1]; unfold tkS; rw [if_neg np1]
                · exact tkA_no a1.1 k1 f2 hd (fun z => h6 ⟨z1, z⟩) h59
          · rw [if_neg h5]
            have hf : r1.1 = false := by rcases hq : r1.1 with _ | _; rfl; exact absurd hq h5
            have np1 : ¬ pwP im4 := fun z => by have := ((a1.pw k1 a2.1 (by omega)).mp z).1; omega
            exact ⟨im4, G3, ⟨fun z => absurd z np1, fun z => by cases z⟩, fun z1 _ => a1.rej hB k1 a2.1 a2.2 z1 (a7 z1) (fun z => a6 hf z.1) (Or.inr np1), a4, fun z => by cases z⟩
        · rw [if_neg h4]
          have np : ¬ pwP im2 := fun z => by have := ((e2.pw k0 (by decide) (by omega)).mp z).1; omega
          refine ⟨im2, g0.trans g1, ⟨fun z => absurd z np, fun z => by cases z⟩, fun z1 _ => ?_, h3.1, fun z => by cases z⟩
          dsimp only at z1 ⊢
          obtain ⟨d1, d2⟩ := hB (p + 2) z1
          rw [d1]
          by_cases hd : 48 ≤ b (p + 2) ∧ b (p + 2) ≤ 57
          · refine (e2.dig k0 (by decide) (by omega) hd.1 hd.2).2 (fun z => ?_)
            rw [l0.1, l0.2.1] at z
            unfold okN at z
            omega
          · by_cases h59 : b (p + 2) = 59
            · rw [h59, tkA_sep e2.1 k0]; unfold tkS; rw [if_neg np]
            · exact tkA_no e2.1 k0 d2 hd (fun z => h4 ⟨z1, z⟩) h59
      · rw [if_neg h3]
        have np : ¬ pwP im1 := fun z => by have := ((t2.pw k0 (by decide) (by decide)).mp z).1; omega
        refine ⟨im1, g0, ⟨fun z => absurd z np, fun z => by cases z⟩, fun z1 _ => t2.rej hB k0 (by decide) (by decide) z1 (fun y1 y2 => ?_) (fun z => by omega) (Or.inr np), h1.1, fun z => by cases z⟩
        dsimp only at z1 y1 y2 ⊢
        rw [(hB (p + 1) z1).1]
        refine (t2.dig k0 (by decide) (by decide) y1 y2).2 (fun z => ?_)
        rw [l0.1, l0.2.1] at z
        unfold okN at z
        exact h3 ⟨z1, y1, by omega⟩
  · rw [if_neg h1]
    refine ⟨im, GO.rf, ⟨fun z => absurd z h.npw, fun z => by cases z⟩, fun z1 _ => ?_, hp, fun z => by cases z⟩
    dsimp only at z1 ⊢
    rw [(hB p z1).1]
    exact (h.take (hB p z1).2).2 (fun z => h1 ⟨z1, z⟩)
/-- the text, read by both -/
theorem sim_text (hB : ∀ j, j < bl → B j = nI (b j) ∧ b j < 128) (hbl : bl ≤ 60) : ∀ n p im, p ≤ bl → bl + 1 ≤ n + p → BG im → (rdE B (bl - p) p im).1 = (vt b bl n p).2 ∧ ((rdE B (bl - p) p im).1 = bl ∧ pwP (rdE B (bl - p) p im).2 ↔ (vt b bl n p).1 = true) := by
  intro n
  induction n with
  | zero => intro p im hp hn; omega
  | succ n ih =>
    intro p im hp hn h
    obtain ⟨im1, g, h1, h2, h3, -⟩ := sim_part hB hbl hp h
    have hok := fun z => (rdP_ok (b := b) (bl := bl) (p := p) z).1
    rw [vt]
    generalize rdP b bl p = R at *
    obtain ⟨g1, g2, g3, g4⟩ := g
    have e : rdE B (bl - p) p im = rdE B (bl - R.2.1) R.2.1 im1 := by
      have := rdE_ac (B := B) (q := p) (im := im) (R.2.1 - p) (bl - R.2.1) g2
      rw [g3, show bl - R.2.1 + (R.2.1 - p) = bl - p by omega, show p + (R.2.1 - p) = R.2.1 by omega] at this
      exact this
    rw [e]
    by_cases hr : R.1 = true
    · rw [if_pos hr]
      by_cases hb : R.2.1 = bl
      · rw [if_pos hb, hb, Nat.sub_self]
        exact ⟨rfl, fun _ => rfl, fun _ => ⟨rfl, h1.mpr hr⟩⟩
      · rw [if_neg hb]
        have hlt : R.2.1 < bl := by omega
        obtain ⟨n', hn'⟩ : ∃ n', bl - R.2.1 = n' + 1 := ⟨bl - R.2.1 - 1, by omega⟩
        by_cases h59 : b R.2.1 = 59
        · rw [if_pos h59]
          have hpw := h1.mpr hr
          obtain ⟨kk, hkk⟩ : ∃ kk, tkA im1 (B R.2.1) = (1, beM im1) := by
            refine ⟨0, ?_⟩
            rw [(hB _ hlt).1, h59]
            have : tkA im1 (nI 59) = tkS im1 := by
              unfold tkA
              rw [if_neg hpw.1, if_neg (by decide), if_neg (by decide), if_pos (by decide)]
            rw [this]; unfold tkS; rw [if_pos hpw]
          rw [hn', rdE, hkk, if_neg (show ¬ (1 : Int32) = 0 by decide)]
          have := ih (R.2.1 + 1) (beM im1) (by omega) (by have := hok hr; omega) beM_BG
          rw [show bl - (R.2.1 + 1) = n' by omega] at this
          exact this
        · rw [if_neg h59, hn', rdE, if_pos (h2 hlt (Or.inl h59))]
          exact ⟨rfl, fun z => absurd z.1 hb, fun z => by cases z⟩
    · rw [if_neg hr]
      have hnp : ¬ pwP im1 := fun z => hr (h1.mp z)
      by_cases hb : R.2.1 = bl
      · rw [hb, Nat.sub_self]
        exact ⟨rfl, fun z => absurd z.2 hnp, fun z => by cases z⟩
      · have hlt : R.2.1 < bl := by omega
        obtain ⟨n', hn'⟩ : ∃ n', bl - R.2.1 = n' + 1 := ⟨bl - R.2.1 - 1, by omega⟩
        rw [hn', rdE, if_pos (h2 hlt (Or.inr hnp))]
        exact ⟨rfl, fun z => absurd z.1 hb, fun z => by cases z⟩
end SIM
