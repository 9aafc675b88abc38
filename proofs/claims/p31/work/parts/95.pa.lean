/-! The law's low numbers; what stays true from act to act -/
theorem i31_low (v : Int32) : v &&& 2147483647 = nI (v.toBitVec.toNat % 2 ^ 31) := pk_and v 31 (by decide)
def lowN (v : Int32) (K : Nat) : Nat := v.toBitVec.toNat % 2 ^ 31 % K
theorem low_is {v k : Int32} {K : Nat} (hk : k = nI K) (h0 : 0 < K) (h31 : K < 2 ^ 31) : (v &&& 2147483647) - (v &&& 2147483647) / k * k = nI (lowN v K) ∧ ¬ k = 0 := by
  subst hk
  rw [i31_low]
  exact ⟨pk_rem (Nat.mod_lt _ (by decide)) h0 h31, nI_ne0 h0 h31⟩
section L35
variable {l : Launch} {mt : MT} {d mc ms pc i : Nat} {L : List (Option Value)} {rest : List Value} {im : TI} {rm : TP} {lm : TL} {Q : TQ} {X : TX}
set_option maxHeartbeats 4000000 in
set_option maxRecDepth 100000 in
theorem C_low (hlt : l.stackTraces = false) {v k : Int32} {K : Nat} (hk : k = nI K) (h0 : 0 < K) (h31 : K < 2 ^ 31) : Con l m_L_low 0 0 0 NN [.int v, .int k] im rm lm (QP (.int (nI (lowN v K))) im rm lm) noX := by
  have h := low_is (v := v) hk h0 h31
  refine Con.ofN (k := 0) (L0 := [some (.int v), some (.int k)]) hlt (by decide +kernel) rfl rfl (by rw [en1 rfl, en1 rfl, en0]; exact Nat.le_of_ble_eq_true rfl) (by rw [en1 rfl, en1 rfl, en0]; rfl) ?_
  refine t_iload0 dL_low_0 ?_
  refine pw_ldc k_L_9 dL_low_1 ?_
  refine pw_iand dL_low_3 ?_
  refine t_iload1 dL_low_4 ?_
  refine pw_irem dL_low_5 h.2 ?_
  refine pw_iret dL_low_6 rfl ?_
  exact ⟨rfl, by rw [h.1], rfl, rfl, rfl⟩
theorem g_low {v k : Int32} (K : Nat) (hlt : l.stackTraces = false) (hk : k = nI K) (h0 : 0 < K) (h31 : K < 2 ^ 31) (hml : Cond.methodLink mt.1.cls i yL_low ∈ wsAll) (h1d : 1 ≤ d) (hd : decode mt.2.1 pc = .ok (.invokestatic i, 3)) (hcat : (rest.map fun v => v.category).sum ≤ 8)
    (kk : ∀ q, q = lowN v K → q < K → PW l mt d mc ms NN (pc + 3) L (.int (nI q) :: rest) im rm lm Q X) : PW l mt d mc ms NN pc L (.int k :: .int v :: rest) im rm lm Q X :=
  g_callS2P (C_low (l := l) hlt hk h0 h31) rfl mc_L_low hml mi_L_low in_L (okc_L_low h1d) hd hcat (kk _ rfl (Nat.mod_lt _ h0))
end L35
section L36
variable {l : Launch} {Lx : Nat} {xs : Nat → Int32} {im : TI} {rm : TP} {lm : TL}
def celV (Lx : Nat) (xs : Nat → Int32) (k : Nat) : Int32 := if k < Lx then xs k else 970437061 * (nI k + 5) + 780465003
set_option maxHeartbeats 4000000 in
set_option maxRecDepth 100000 in
theorem C_cell (hlt : l.stackTraces = false) {k : Nat} (hk : k < 1000) (hL : Lx ≤ 260) : ConS l (m_S_cell Lx xs) 0 NN [pv (some 900), .int (nI k)] im rm lm Lx xs (QP (.int (celV Lx xs k)) im rm lm) := by
  refine ConS.of hlt (by show plainName RL = true; decide +kernel) rfl rfl (by rw [en1 pv_cat, en1 rfl, en0]; exact Nat.le_of_ble_eq_true rfl) ?_
  rw [en1 pv_cat, en1 rfl, en0]
  refine t_iload1 dL_cell_0 ?_
  refine t_aload0 dL_cell_1 ?_
  refine pw_slen rfl dL_cell_2 ?_
  by_cases h : k < Lx
  · refine pw_icmp_ge 12 dL_cell_3 (by decide) (fun z => absurd z (nI_ge h (by omega))) (fun _ => ?_)
    refine t_aload0 dL_cell_6 ?_
    refine t_iload1 dL_cell_7 ?_
    refine pw_sld rfl (vp_in_nI h (by omega)) dL_cell_8 ?_
    rw [nI_clamp (by omega)]
    refine pw_goto 21 dL_cell_9 (by decide) ?_
    refine pw_iret dL_cell_21 rfl ?_
    exact ⟨rfl, by rw [show celV Lx xs k = xs k from if_pos h], rfl, rfl, rfl⟩
  · refine pw_icmp_ge 12 dL_cell_3 (by decide) (fun _ => ?_) (fun z => absurd (nI_le (by omega) (by omega)) z)
    refine pw_ldc k_L_7 dL_cell_12 ?_
    refine t_iload1 dL_cell_14 ?_
    refine pw_iconst (5) dL_cell_15 (by decide) ?_
    refine pw_iadd dL_cell_16 ?_
    refine pw_imul dL_cell_17 ?_
    refine pw_ldc k_L_8 dL_cell_18 ?_
    refine pw_iadd dL_cell_20 ?_
    refine pw_iret dL_cell_21 rfl ?_
    exact ⟨rfl, by rw [show celV Lx xs k = 970437061 * (nI k + 5) + 780465003 from if_neg h], rfl, rfl, rfl⟩
end L36
def PI (e : Nat) (S : CS) : Prop := WF S ∧ BL S ∧ ∃ c h, c ≤ e ∧ h ≤ 48 * e ∧ S.1 5 = nI c ∧ S.1 0 = nI h
theorem PI.up {e : Nat} {S S2 : CS} (h : PI e S) (hW : WF S2) (hB : BL S2) (e5 : S2.1 5 = S.1 5) (e0 : S2.1 0 = S.1 0) : PI (e + 1) S2 := by
  obtain ⟨-, -, c, q, h1, h2, h3, h4⟩ := h
  exact ⟨hW, hB, c, q, by omega, by omega, e5.trans h3, e0.trans h4⟩
theorem PI.same {e : Nat} {S : CS} (h : PI e S) : PI (e + 1) S := h.up h.1 h.2.1 rfl rfl
theorem PI.hours {e N : Nat} {S : CS} (h : PI e S) (hN : N ≤ 48) : PI (e + 1) (hsS N S) := by
  obtain ⟨hW, hB, c, q, h1, h2, h3, h4⟩ := h
  exact ⟨hW.hours N, hB.hours hW.1.1 N, c, q + N, by omega, by omega, by rw [hsS_g (Or.inl rfl)]; exact h3, by rw [hs_g0, h4]; exact nI_add q N⟩
theorem nI_subN {a b : Nat} (h : b ≤ a) (ha : a < 2 ^ 31) : nI a - nI b = nI (a - b) := by
  rw [← Int32.toInt_inj, Jvm.Kit.i32_sub (by rw [nI_toInt (by omega), nI_toInt (by omega)]; omega) (by rw [nI_toInt (by omega), nI_toInt (by omega)]; omega), nI_toInt (by omega), nI_toInt (by omega), nI_toInt (by omega)]
  omega
theorem uf_at {S : CS} {m w : Nat} {x : Int32} : (upF S m w x).2.1 m w = x := if_pos ⟨rfl, rfl⟩
theorem uf_o {S : CS} {m w j v : Nat} {x : Int32} (h : v ≠ w) : (upF S m w x).2.1 j v = S.2.1 j v := if_neg fun z => h z.2
theorem WF.no1 {S : CS} (h : WF S) : moS S (-1) = none := by
  rcases mo_ex h.1.1 (S := S) (x := -1) with q | ⟨m, p, hm, hp, hx⟩
  · exact q
  · have := (h.sk hm hp).1
    rw [hx] at this
    exact absurd (by decide) this
theorem cn_of {S : CS} {m n : Nat} (h : S.2.1 m 9 = nI n) (hn : n < 2 ^ 31) : cnt S m = n := by
  unfold cnt
  rw [h]
  exact nI_clamp hn
/-- a sack that comes -/
theorem br_at {S : CS} {m : Nat} {x due : Int32} (hm : m < 5) (hc : cnt S m < 6) : ats (brS S m x due) m (plS S m (S.1 5) due) (S.1 5) ∧ ∀ k, (brS S m x due).2.2 m (plS S m (S.1 5) due) k = if k = 0 then S.1 5 else if k = 1 then x else if k = 2 then x else due := by
  have hk : ∀ k, (brS S m x due).2.2 m (plS S m (S.1 5) due) k = if k = 0 then S.1 5 else if k = 1 then x else if k = 2 then x else due := by
    intro k
    unfold brS inS upM upG
    dsimp only
    rw [if_pos rfl, if_neg (Nat.lt_irrefl _), if_pos rfl]
  have e9 : (brS S m x due).2.1 m 9 = nI (cnt S m + 1) := by
    show (inS S m (cnt S m) _ _ _ _ _).2.1 m 9 = _
    rw [in_f9, if_pos rfl]
  have hcn : cnt (brS S m x due) m = cnt S m + 1 := cn_of e9 (by omega)
  refine ⟨⟨hm, ?_, (hk 0).trans (if_pos rfl)⟩, hk⟩
  rw [hcn]
  have := pl_le (S := S) (m := m) (s := S.1 5) (due := due)
  omega
/-- a sack that is carried -/
theorem ca_at {S : CS} {m t p pl n : Nat} {x h r due : Int32} (ht : t < 5) (hne : ¬ m = t) (hc : cnt S t < 6) (hpl : pl ≤ cnt S t) : ats (dpS (inS S t (cnt S t) pl x h r due) m p n) t pl x ∧ (dpS (inS S t (cnt S t) pl x h r due) m p n).2.2 t pl 2 = r := by
  have hk : ∀ k, (dpS (inS S t (cnt S t) pl x h r due) m p n).2.2 t pl k = if k = 0 then x else if k = 1 then h else if k = 2 then r else due := by
    intro k
    unfold dpS inS upM
    dsimp only
    rw [if_neg fun z => hne z.symm, if_pos rfl, if_neg (Nat.lt_irrefl _), if_pos rfl]
  have e9 : (dpS (inS S t (cnt S t) pl x h r due) m p n).2.1 t 9 = nI (cnt S t + 1) := by
    rw [dp_f9, if_neg fun z => hne z.symm, in_f9, if_pos rfl]
  have hcn : cnt (dpS (inS S t (cnt S t) pl x h r due) m p n) t = cnt S t + 1 := cn_of e9 (by omega)
  exact ⟨⟨ht, by rw [hcn]; omega, (hk 0).trans (if_pos rfl)⟩, (hk 2).trans rfl⟩
/-- a sack that was taken back -/
theorem bk_no {S : CS} {m p : Nat} {y : Int32} (hW : WF S) (hm : m < 5) (hp : p < cnt S m) : moS (upG (dpS S m p (cnt S m)) 8 y) (S.2.2 m p 0) = none := by
  have d := dp_is (S := S) (m := m) (p := p) rfl (hW.1.1.c hm).1
  refine fdN_no fun j _ hj hz => hz (po_none.mpr fun q hq he => ?_)
  exact NU.gone hW.2.1.2.2.1 d hm hp j q (by omega) hq he
