/-! What hours keep of the sacks -/
theorem ho_keep {P : CS → Prop} {S : CS} (hI : CI S) (h : P S) (hG : ∀ S k x, k ≤ 4 → P S → P (upG S k x)) (hF : ∀ S m w x, w = 1 ∨ w = 7 → P S → P (upF S m w x)) (hK : ∀ S m x, P S → P (upK S m 0 2 x))
    (h1 : ∀ S m, CI S → m < 5 → 0 < cnt S m → P S → P (g1S S m (cnt S m))) : P (hoS S) := by
  have hli : ∀ S m, P S → P (liS S m) := fun S m h => hF _ _ _ _ (Or.inl rfl) (hG _ _ _ (by decide) h)
  have hlw : ∀ n m S, P S → P (lwS n m S) := by
    intro n
    induction n with
    | zero => intro m S h; exact h
    | succ n ih => intro m S h; exact ih (m + 1) _ (hli S m h)
  have hgr : ∀ m, m < 5 → ∀ n S t, n ≤ 6 → CI S → S.2.1 m 9 = nI n → P S → P (grN m n S t).1 := by
    intro m hm n
    induction n with
    | zero => intro S t _ _ _ h; exact h
    | succ n ih =>
      intro S t hn hI hc h
      unfold grN
      split
      · have e : cnt S m = n + 1 := by unfold cnt; rw [hc, nI_clamp (by omega)]
        refine ih _ _ (by omega) ?_ g1_cnt ?_
        · intro j hj
          rw [g1S_f9]
          by_cases e1 : j = m
          · rw [if_pos e1]; exact ⟨n, by omega, rfl⟩
          · rw [if_neg e1]; exact hI j hj
        · have := h1 S m hI hm (by omega) h
          rw [e] at this
          exact this
      · exact h
  unfold hoS
  dsimp only
  have hI2 : CI (lwS 5 0 (upG S 0 (S.1 0 + 1))) := hI.keep fun _ _ => lwS_f9 5 0 _
  have h2 := hlw 5 0 _ (hG S 0 (S.1 0 + 1) (by decide) h)
  generalize lwS 5 0 (upG S 0 (S.1 0 + 1)) = S2 at hI2 h2 ⊢
  rcases hb : bhN S2 none 5 0 none with _ | m
  · exact hG _ _ _ (by decide) (hG _ _ _ (by decide) h2)
  · have hm := bhN_lt 5 0 none (by omega) (fun _ z => by cases z) m hb
    rw [tmS_s]
    have h3 : P (tuS (upG S2 1 (nI m + 1)) m) := hF _ _ _ _ (Or.inr rfl) (hG _ _ _ (by decide) (hF _ _ _ _ (Or.inl rfl) (hG _ _ _ (by decide) h2)))
    have hI3 : CI (tuS (upG S2 1 (nI m + 1)) m) := hI2.keep fun _ _ => tuS_f9
    unfold grS
    dsimp only
    have h4 := hgr m hm (cnt (tuS (upG S2 1 (nI m + 1)) m) m) _ (tof ((upG S2 1 (nI m + 1)).2.1 m) (hd (upG S2 1 (nI m + 1)) m)) (hI3.c hm).1 hI3 (hI3.c hm).2 h3
    split
    · exact hK _ _ _ h4
    · exact h4
theorem hs_keep {P : CS → Prop} {S : CS} (hI : CI S) (h : P S) (hG : ∀ S k x, k ≤ 4 → P S → P (upG S k x)) (hF : ∀ S m w x, w = 1 ∨ w = 7 → P S → P (upF S m w x)) (hK : ∀ S m x, P S → P (upK S m 0 2 x))
    (h1 : ∀ S m, CI S → m < 5 → 0 < cnt S m → P S → P (g1S S m (cnt S m))) : ∀ n, P (hsS n S) := by
  intro n
  induction n with
  | zero => exact h
  | succ n ih => rw [hsS_succ]; exact ho_keep (hsS_CI hI n) ih hG hF hK h1
theorem cnt_upF {S : CS} {m w j : Nat} {x : Int32} (h : w ≠ 9) : cnt (upF S m w x) j = cnt S j := by
  unfold cnt upF
  dsimp only
  rw [if_neg (fun z => h z.2.symm)]
theorem g1S_K {S : CS} {m n j q k : Nat} : (g1S S m n).2.2 j q k = if j = m then (if q + 1 < n then S.2.2 m (q + 1) k else S.2.2 m q k) else S.2.2 j q k := by
  unfold g1S dpS upM
  dsimp only
  have e : ∀ a b c, (upF (upG (if fdF S m < S.1 0 then upG S 7 a else S) 6 b) m 8 c).2.2 = S.2.2 := fun a b c => by
    unfold upF upG
    split <;> rfl
  rw [e]
  by_cases h : j = m
  · rw [if_pos h, if_pos h]
    by_cases h2 : q + 1 < n
    · rw [if_pos ⟨Nat.zero_le _, h2⟩, if_pos h2]
    · rw [if_neg (fun z => h2 z.2), if_neg h2]
  · rw [if_neg h, if_neg h]
theorem g1S_cnt {S : CS} {m n j : Nat} (hn : n ≤ 6) : cnt (g1S S m n) j = if j = m then n - 1 else cnt S j := by
  unfold cnt
  rw [g1S_f9]
  by_cases h : j = m
  · rw [if_pos h, if_pos h, nI_clamp (by omega)]
  · rw [if_neg h, if_neg h]
theorem no_hours {S : CS} {m : Nat} {x : Int32} (hI : CI S) (h : NOm S m x) (n : Nat) : NOm (hsS n S) m x := by
  refine hs_keep (P := fun S => NOm S m x) hI h (fun _ _ _ _ h => h) (fun S a w y hw h p hp => ?_) (fun S a y h p hp => ?_) (fun S a hI ha hc h p hp => ?_) n
  · rw [cnt_upF (by omega)] at hp
    exact h p hp
  · show (if m = a ∧ p = 0 ∧ 0 = 2 then y else S.2.2 m p 0) ≠ x
    rw [if_neg (by omega)]
    exact h p hp
  · rw [g1S_cnt (hI.c ha).1] at hp
    rw [g1S_K]
    by_cases e : m = a
    · subst e
      rw [if_pos rfl] at hp ⊢
      rw [if_pos (by omega)]
      exact h _ (by omega)
    · rw [if_neg e] at hp ⊢
      exact h p hp
/-- every number stands once -/
def NUS (S : CS) : Prop := ∀ m n p q, m < 5 → n < 5 → p < cnt S m → q < cnt S n → S.2.2 m p 0 = S.2.2 n q 0 → m = n ∧ p = q
theorem po_none {S : CS} {m : Nat} {x : Int32} : poS S m x = none ↔ NOm S m x :=
  ⟨fun h p hp => poS_n h p hp, fun h => fdN_no fun j _ hj => h j (by omega)⟩
theorem gm_gb {S : CS} {x : Int32} (hI : CI S) (hU : NUS S) : gmS S x = gbS S x := by
  unfold gmS gbS
  rcases hm : moS S x with _ | m
  · rw [if_pos (wh_none hI hm)]
  · obtain ⟨p, hp⟩ := mo_po hm
    obtain ⟨h1, m5, p6, p1⟩ := wh_some hI hm hp
    have hk := (poS_lt hI m5 hp).2.2
    rw [if_neg (by rw [h1]; exact fun z => by cases z)]
    rw [fdN, if_neg (show ¬ whS (hsS 0 S) x = none by show ¬ whS S x = none; rw [h1]; exact fun z => by cases z)]
    refine fdN_congr 200 1 fun h _ _ => ?_
    rw [wh_iff (hsS_CI hI h)]
    refine ⟨fun z => z m m5, fun z j hj => ?_⟩
    by_cases e : j = m
    · rw [e]; exact z
    · refine po_none.mpr (no_hours hI (fun q hq hx => e ?_) h)
      exact (hU j m q p hj m5 hq p1 (hx.trans hk.symm)).1
/-! a mill without sacks: its stone is all one -/
theorem uf6 {S : CS} {m k w : Nat} {a : Int32} (h : w ≠ 6) : (upF S m 6 a).2.1 k w = S.2.1 k w := by unfold upF; dsimp only; rw [if_neg (fun z => h z.2)]
theorem rs6 {S : CS} {m k : Nat} {a : Int32} : rsF (upF S m 6 a) k = rsF S k := by
  unfold rsF hd hdf tdF
  rw [uf6 (by decide), uf6 (by decide), uf6 (by decide)]
  rfl
theorem ah6 {S : CS} {m k j : Nat} {a : Int32} : ahF (upF S m 6 a) k j ↔ ahF S k j := by
  rw [ah_cases, ah_cases]
  unfold fdF hd hdf tdF
  rw [uf6 (by decide), uf6 (by decide), uf6 (by decide), uf6 (by decide), uf6 (by decide), uf6 (by decide)]
  exact Iff.rfl
theorem bh6 {S : CS} {m : Nat} {a : Int32} {prev : Option Nat} : ∀ n k b, bhN (upF S m 6 a) prev n k b = bhN S prev n k b := by
  intro n
  induction n with
  | zero => intro k b; rfl
  | succ n ih =>
    intro k b
    rw [bhN, bhN, ih]
    congr 1
    have e : ((rsF (upF S m 6 a) k = 0 ∧ ∀ q, prev = some q → ahF (upF S m 6 a) q k) ∧ ∀ q, b = some q → ahF (upF S m 6 a) k q) ↔ ((rsF S k = 0 ∧ ∀ q, prev = some q → ahF S q k) ∧ ∀ q, b = some q → ahF S k q) := by
      rw [rs6]
      exact and_congr (and_congr Iff.rfl (forall_congr' fun q => imp_congr Iff.rfl ah6)) (forall_congr' fun q => imp_congr Iff.rfl ah6)
    by_cases hc : ((rsF S k = 0 ∧ ∀ q, prev = some q → ahF S q k) ∧ ∀ q, b = some q → ahF S k q)
    · rw [if_pos (e.mpr hc), if_pos hc]
    · rw [if_neg (fun z => hc (e.mp z)), if_neg hc]
theorem uf_com {S : CS} {m w k v : Nat} {a x : Int32} (h : w ≠ v) : upF (upF S m w a) k v x = upF (upF S k v x) m w a := by
  unfold upF
  congr 2
  funext n u
  dsimp only
  by_cases e1 : n = k ∧ u = v
  · rw [if_pos e1, if_neg (fun z => h (z.2.symm.trans e1.2)), if_pos e1]
  · rw [if_neg e1, if_neg e1]
theorem li6 {S : CS} {m k : Nat} {a : Int32} : liS (upF S m 6 a) k = upF (liS S k) m 6 a := by
  have e : lwf ((upF S m 6 a).2.1 k) ((upF S m 6 a).1 0) (tdF (upF S m 6 a) ((upF S m 6 a).1 0)) = lwf (S.2.1 k) (S.1 0) (tdF S (S.1 0)) := by
    unfold lwf clF
    rw [uf6 (by decide), uf6 (by decide), uf6 (by decide), uf6 (by decide), uf6 (by decide)]
    rfl
  unfold liS
  dsimp only
  rw [e, uf6 (by decide)]
  exact uf_com (S := upG S 3 (S.1 3 + lwf (S.2.1 k) (S.1 0) (tdF S (S.1 0)))) (by decide)
theorem lw6 {m : Nat} {a : Int32} : ∀ n k (S : CS), lwS n k (upF S m 6 a) = upF (lwS n k S) m 6 a := by
  intro n
  induction n with
  | zero => intro k S; rfl
  | succ n ih => intro k S; rw [lwS, lwS, li6, ih]
theorem up6 {S : CS} {m k : Nat} {a : Int32} {f : Nat → Int32} {q : Nat → Nat → Int32} (h : k ≠ m) : upM (upF S m 6 a) k f q = upF (upM S k f q) m 6 a := by
  unfold upM upF
  congr 2
  funext n u
  dsimp only
  by_cases e : n = k
  · rw [if_pos e, if_neg (fun z => h (e.symm.trans z.1)), if_pos e]
  · rw [if_neg e, if_neg e]
theorem dp6 {S : CS} {m k p n : Nat} {a : Int32} (h : k ≠ m) : dpS (upF S m 6 a) k p n = upF (dpS S k p n) m 6 a := by
  have e : (upF S m 6 a).2.1 k = S.2.1 k := by funext u; unfold upF; dsimp only; rw [if_neg (fun z => h z.1)]
  unfold dpS
  rw [e]
  exact up6 h
theorem fd6 {S : CS} {m k : Nat} {a : Int32} : fdF (upF S m 6 a) k = fdF S k := by unfold fdF; rw [uf6 (by decide)]; rfl
theorem g16 {S : CS} {m k n : Nat} {a : Int32} (h : k ≠ m) : g1S (upF S m 6 a) k n = upF (g1S S k n) m 6 a := by
  unfold g1S
  rw [fd6]
  by_cases hc : fdF S k < S.1 0
  · rw [if_pos (show fdF S k < (upF S m 6 a).1 0 from hc), if_pos hc]
    dsimp only
    rw [show upG (upG (upF S m 6 a) 7 ((upF S m 6 a).1 7 + 1)) 6 ((upG (upF S m 6 a) 7 ((upF S m 6 a).1 7 + 1)).1 6 + 1) = upF (upG (upG S 7 (S.1 7 + 1)) 6 ((upG S 7 (S.1 7 + 1)).1 6 + 1)) m 6 a from rfl]
    rw [uf_com (by decide), uf6 (by decide), dp6 h]
  · rw [if_neg (show ¬ fdF S k < (upF S m 6 a).1 0 from hc), if_neg hc]
    dsimp only
    rw [show upG (upF S m 6 a) 6 ((upF S m 6 a).1 6 + 1) = upF (upG S 6 (S.1 6 + 1)) m 6 a from rfl]
    rw [uf_com (by decide), uf6 (by decide), dp6 h]
theorem gr6 {m k : Nat} {a : Int32} (h : k ≠ m) : ∀ n (S : CS) t, grN k n (upF S m 6 a) t = (upF (grN k n S t).1 m 6 a, (grN k n S t).2) := by
  intro n
  induction n with
  | zero => intro S t; rfl
  | succ n ih =>
    intro S t
    rw [grN, grN]
    by_cases hc : S.2.2 k 0 2 ≤ t
    · rw [if_pos (show (upF S m 6 a).2.2 k 0 2 ≤ t from hc), if_pos hc, g16 h, ih]
      rfl
    · rw [if_neg (show ¬ (upF S m 6 a).2.2 k 0 2 ≤ t from hc), if_neg hc]
theorem ho6 {S : CS} {m : Nat} {a : Int32} (h : S.2.1 m 9 = 0) : hoS (upF S m 6 a) = upF (hoS S) m 6 a := by
  unfold hoS
  dsimp only
  rw [show upG (upF S m 6 a) 0 ((upF S m 6 a).1 0 + 1) = upF (upG S 0 (S.1 0 + 1)) m 6 a from rfl, lw6, bh6]
  have h9 : (lwS 5 0 (upG S 0 (S.1 0 + 1))).2.1 m 9 = 0 := (lwS_f9 5 0 _).trans h
  generalize lwS 5 0 (upG S 0 (S.1 0 + 1)) = S2 at h9 ⊢
  rcases hb : bhN S2 none 5 0 none with _ | k
  · rfl
  · have hk : k ≠ m := fun e => rsF_cnt (bh_some hb).2.1.1 (by rw [e]; exact h9)
    rw [tmS_s, tmS_s, show upG (upF S2 m 6 a) 1 (nI k + 1) = upF (upG S2 1 (nI k + 1)) m 6 a from rfl]
    generalize upG S2 1 (nI k + 1) = S3
    have e1 : tuS (upF S3 m 6 a) k = upF (tuS S3 k) m 6 a := by
      unfold tuS
      dsimp only
      rw [uf_com (by decide), uf6 (by decide)]
      show upF (upF (upG (upF S3 k 1 (S3.2.1 k 1 - S3.1 11)) 4 _) m 6 a) k 7 _ = _
      rw [uf_com (by decide)]
      have e7 : ∀ x y, (upG (upF (upF S3 k 1 x) m 6 a) 4 y).2.1 k 7 = (upG (upF S3 k 1 x) 4 y).2.1 k 7 := fun x y => uf6 (by decide)
      rw [e7]
      rfl
    have e2 : tof ((upF S3 m 6 a).2.1 k) (hd (upF S3 m 6 a) k) = tof (S3.2.1 k) (hd S3 k) := by
      have e : (upF S3 m 6 a).2.1 k = S3.2.1 k := by funext u; unfold upF; dsimp only; rw [if_neg (fun z => hk z.1)]
      unfold hd tdF
      rw [e]
      rfl
    rw [e1, e2]
    unfold grS
    have ec : cnt (upF (tuS S3 k) m 6 a) k = cnt (tuS S3 k) k := cnt_upF (by decide)
    rw [ec, gr6 hk]
    dsimp only
    rw [uf6 (by decide)]
    split
    · rfl
    · rfl
theorem hs6 {S : CS} {m : Nat} {a : Int32} (h : S.2.1 m 9 = 0) : ∀ n, hsS n (upF S m 6 a) = upF (hsS n S) m 6 a ∧ (hsS n S).2.1 m 9 = 0 := by
  intro n
  induction n with
  | zero => exact ⟨rfl, h⟩
  | succ n ih =>
    rw [hsS_succ, hsS_succ, ih.1, ho6 ih.2]
    refine ⟨rfl, ?_⟩
    have hz : ∀ S : CS, S.2.1 m 9 = 0 → (hoS S).2.1 m 9 = 0 := by
      intro S h
      unfold hoS
      dsimp only
      have h9 : (lwS 5 0 (upG S 0 (S.1 0 + 1))).2.1 m 9 = 0 := (lwS_f9 5 0 _).trans h
      generalize lwS 5 0 (upG S 0 (S.1 0 + 1)) = S2 at h9 ⊢
      rcases hb : bhN S2 none 5 0 none with _ | k
      · exact h9
      · have hk : m ≠ k := fun e => rsF_cnt (bh_some hb).2.1.1 (by rw [← e]; exact h9)
        rw [tmS_s]
        have hg : ∀ n (S : CS) t, (grN k n S t).1.2.1 m 9 = S.2.1 m 9 := by
          intro n
          induction n with
          | zero => intro S t; rfl
          | succ n ih =>
            intro S t
            rw [grN]
            split
            · rw [ih, g1S_f9, if_neg hk]
            · rfl
        unfold grS
        dsimp only
        split
        · exact (hg _ _ _).trans (tuS_f9.trans h9)
        · exact (hg _ _ _).trans (tuS_f9.trans h9)
    exact hz _ ih.2
theorem rt_6 {S : CS} {m : Nat} {a : Int32} : rtS (upF S m 6 a) = rtS S := by
  unfold rtS
  rw [rtN, rtN, rtN, rtN, rtN, rtN, rtN, rtN, rtN, rtN, rtN, rtN]
  rw [cnt_upF (by decide), cnt_upF (by decide), cnt_upF (by decide), cnt_upF (by decide), cnt_upF (by decide)]
  rfl
theorem lf_left {S : CS} {m j : Nat} (hW : CW S) (hj : j < 14) : lfM S m j = leftS S m j := rm_rt (hsS_CI (hW.stone hj).1 24)
