/-! the reader looks at its own rows only -/
def cg (a b : Int32 × TI) : Prop := a.1 = b.1 ∧ a.2 238 = b.2 238 ∧ a.2 239 = b.2 239
theorem cg_if {p : Prop} [Decidable p] {a b c d : Int32 × TI} (h : cg a b) (g : cg c d) : cg (if p then a else c) (if p then b else d) := by
  split
  · exact h
  · exact g
theorem ui_cg {im im2 : TI} {o a k : Nat} {v : Int32} (h : im2 o = im o) : ui im2 a k v o = ui im a k v o := by
  funext p
  rw [ui_ap, ui_ap, h]
theorem bgM_cg {im im2 : TI} {x : Int32} {o : Nat} (h : im2 o = im o) : bgM im2 x o = bgM im x o := by
  unfold bgM
  split
  · exact ui_cg (ui_cg (ui_cg h))
  · exact ui_cg (ui_cg h)
theorem beM_cg {im im2 : TI} {o : Nat} (h : im2 o = im o) : beM im2 o = beM im o := bgM_cg (ui_cg h)
theorem tkK_cg {im im2 : TI} {x : Int32} (h8 : im2 238 = im 238) (h9 : im2 239 = im 239) : cg (tkK im2 x) (tkK im x) := cg_if ⟨rfl, ui_cg (a := 238) (k := 0) (v := x) h8, ui_cg (a := 238) (k := 0) (v := x) h9⟩ ⟨rfl, h8, h9⟩
theorem tkD_cg {im im2 : TI} {x : Int32} (h8 : im2 238 = im 238) (h9 : im2 239 = im 239) : cg (tkD im2 x) (tkD im x) := by
  have hn : ∀ y, nuI im2 y = nuI im y := fun y => nuI_fr h9
  unfold tkD
  by_cases e : tdP im x
  · rw [if_pos e, if_pos (show tdP im2 x by unfold tdP; rw [hn, h8]; exact e)]
    exact ⟨rfl, by dsimp only; rw [hn, h8]; exact ui_cg (ui_cg h8), by dsimp only; rw [hn, h8]; exact ui_cg (ui_cg h9)⟩
  · rw [if_neg e, if_neg (show ¬ tdP im2 x by unfold tdP; rw [hn, h8]; exact e)]
    exact ⟨rfl, h8, h9⟩
theorem nwP_cg {im im2 : TI} (h8 : im2 238 = im 238) (h9 : im2 239 = im 239) : nwP im2 ↔ nwP im := by
  unfold nwP
  rw [nuI_fr h9, h8]
theorem tkC_cg {im im2 : TI} (h8 : im2 238 = im 238) (h9 : im2 239 = im 239) : cg (tkC im2) (tkC im) := by
  unfold tkC
  by_cases e : nwP im ∧ im 238 2 < lnI (im 238 0)
  · rw [if_pos e, if_pos (show nwP im2 ∧ im2 238 2 < lnI (im2 238 0) by rw [h8]; exact ⟨(nwP_cg h8 h9).mpr e.1, e.2⟩)]
    exact ⟨rfl, by dsimp only; rw [h8]; exact bgM_cg h8, by dsimp only; rw [h8]; exact bgM_cg h9⟩
  · rw [if_neg e, if_neg (show ¬ (nwP im2 ∧ im2 238 2 < lnI (im2 238 0)) by rw [h8]; exact fun z => e ⟨(nwP_cg h8 h9).mp z.1, z.2⟩)]
    exact ⟨rfl, h8, h9⟩
theorem pwP_cg {im im2 : TI} (h8 : im2 238 = im 238) (h9 : im2 239 = im 239) : pwP im2 ↔ pwP im := by
  unfold pwP
  rw [h8]
  exact and_congr Iff.rfl (and_congr Iff.rfl (nwP_cg h8 h9))
theorem tkS_cg {im im2 : TI} (h8 : im2 238 = im 238) (h9 : im2 239 = im 239) : cg (tkS im2) (tkS im) := by
  unfold tkS
  by_cases e : pwP im
  · rw [if_pos e, if_pos ((pwP_cg h8 h9).mpr e)]
    exact ⟨rfl, beM_cg h8, beM_cg h9⟩
  · rw [if_neg e, if_neg (fun z => e ((pwP_cg h8 h9).mp z))]
    exact ⟨rfl, h8, h9⟩
theorem tkA_cg {im im2 : TI} {x : Int32} (h8 : im2 238 = im 238) (h9 : im2 239 = im 239) : cg (tkA im2 x) (tkA im x) := by
  unfold tkA
  rw [h8]
  exact cg_if (tkK_cg h8 h9) (cg_if (tkD_cg h8 h9) (cg_if (tkC_cg h8 h9) (cg_if (tkS_cg h8 h9) ⟨rfl, h8, h9⟩)))
