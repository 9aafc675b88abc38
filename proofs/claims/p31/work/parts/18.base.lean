/-! Ground for the methods' proofs -/
theorem en1 {a : Value} {as : List Value} (h : a.category = 1) : en (a :: as) = some a :: en as := by simp [en, h]
theorem en2 {a : Value} {as : List Value} (h : a.category = 2) : en (a :: as) = some a :: none :: en as := by simp [en, h]
theorem en0 : en [] = [] := rfl
theorem no_x : (∃ E a b c, noX E a b c) → (mt : MT) → mt.1.cls = "TideMills" := fun ⟨_, _, _, _, h⟩ => h.elim
section BASE
variable {l : Launch} {mt : MT} {d mc ms N pc : Nat} {as st : List Value} {L : List (Option Value)} {im : TI} {rm : TP} {lm : TL} {Q : TQ} {X : TX}
theorem PW.pad {k : Nat} {L0 : List (Option Value)} (h : L ++ List.replicate k none = L0) (K : PW l mt d mc ms N pc L0 st im rm lm Q X) : PW l mt d mc ms N pc L st im rm lm Q X := by
  refine PW.less (L' := L0) (fun i v hv => ?_) K
  rw [← h] at hv
  rcases Nat.lt_or_ge i L.length with h1 | h1
  · rwa [List.getElem?_append_left h1] at hv
  · rw [List.getElem?_append_right h1] at hv
    rw [List.getElem?_replicate] at hv
    split at hv <;> cases hv
theorem Con.ofN {k : Nat} {L0 : List (Option Value)} (hlt : l.stackTraces = false) (hy : plainName mt.1.cls = true) (hh : mt.2.2.2.2.1 = some []) (hscr : mt.2.2.2.2.2 = none) (hlen : (en as).length ≤ mt.2.2.1) (hen : en as ++ List.replicate k none = L0) (K : PW l mt d mc ms N 0 L0 [] im rm lm Q noX) : Con l mt d mc ms N as im rm lm Q noX :=
  Con.of hlt hy hh hscr (fun h => no_x h mt) hlen (PW.pad hen K)
/-- a method of TideMills that may throw -/
theorem Con.ofX {k : Nat} {L0 : List (Option Value)} (hlt : l.stackTraces = false) (hy : plainName mt.1.cls = true) (hh : mt.2.2.2.2.1 = some []) (hscr : mt.2.2.2.2.2 = none) (hcl : mt.1.cls = "TideMills") (hlen : (en as).length ≤ mt.2.2.1) (hen : en as ++ List.replicate k none = L0) (K : PW l mt d mc ms N 0 L0 [] im rm lm Q X) : Con l mt d mc ms N as im rm lm Q X :=
  Con.of hlt hy hh hscr (fun _ => hcl) hlen (PW.pad hen K)
end BASE
theorem ui_ap {f : TI} {o k o' k' : Nat} {v : Int32} : ui f o k v o' k' = if o' = o ∧ k' = k then v else f o' k' := by
  unfold ui
  by_cases h : o' = o
  · subst h; simp [upd]
  · simp [h]
theorem vin {x : Int32} {n : Nat} {m : Int32} (h0 : ¬ x < 0) (h1 : x < m) (hm : m.toInt = n) : vp_in x n := by
  rw [vp_in_iff, ← hm]
  rw [Int32.lt_iff_toInt_lt] at h0 h1
  simp at h0
  exact ⟨h0, h1⟩
theorem vin_nI {p n : Nat} (h : p < n) (hn : n < 2 ^ 31) : vp_in (nI p) n := vp_in_nI h hn
def oI (o : Option Nat) : Int32 := match o with
  | none => -1
  | some p => nI p
theorem ui_ne {f : TI} {o k o' : Nat} {v : Int32} (h : o' ≠ o) : ui f o k v o' = f o' := by unfold ui; rw [if_neg h]
theorem ui_at {f : TI} {o k p : Nat} {v : Int32} : ui f o k v o p = if p = k then v else f o p := by unfold ui; rw [if_pos rfl]; rfl
