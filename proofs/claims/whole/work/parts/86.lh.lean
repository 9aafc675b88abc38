/-! The law's helpers -/
section CSH
variable {l : Launch} {mt y : MT} {d dc mc ms mcc msc N pc i : Nat} {L : List (Option Value)} {as rest st : List Value} {im : TI} {rm : TP} {lm : TL} {Q Qc : TQ} {X Xc : TX}
theorem pw_callSH {x : Nat × Nat × Nat × Nat} {hs : List (Nat × Nat × Nat × Nat)} (hC : Con l y dc mcc msc N as im rm lm Qc Xc) (hyh : y.2.2.2.2.1 = some (x :: hs))
    (hcw : Cond.codeWith y.1 y.2.1 y.2.2.1 y.2.2.2.1 (x :: hs) ∈ wsAll) (hml : Cond.methodLink mt.1.cls i y.1 ∈ wsAll) (hmi : Cond.static y.1 ∈ wsAll) (hini : Cond.initialized y.1.cls ∈ wsAll)
    (hok : okC mt y d dc as.length) (hd : decode mt.2.1 pc = .ok (.invokestatic i, 3)) (hcat : (rest.map fun v => v.category).sum ≤ 8)
    (hk : ∀ N' v im' rm' lm', Qc N' v im' rm' lm' → okF N L rest X N') (hX : ∀ E a b c, Xc E a b c → X E a b c ∧ 8 ≤ d)
    (K : ∀ N' v im' rm' lm', Qc N' v im' rm' lm' → PW l mt d mc ms N' (pc + 3) L (v.toList ++ rest) im' rm' lm' Q X) :
    PW l mt d (mcc + mc) (msc + ms) N pc L (as.reverse ++ rest) im rm lm Q X := by
  intro p e s m args below meth c D A ad cy MC MS Z H locs cells slots ls hF hW hL hc hs2 hR hT2
  obtain ⟨o1, o2, o3, o4, o5⟩ := hok
  have hst : (as.reverse ++ rest).map (tr ad) = (as.map (tr ad)).reverse ++ rest.map (tr ad) := by simp
  have hce : cw y = .codeWith y.1 y.2.1 y.2.2.1 y.2.2.2.1 (x :: hs) := by unfold cw; rw [hyh]
  have hG : GoodIn wsAll (va_wsS mt.1.cls i y.1 (cw y :: wsAll)) := by
    refine goodAll_app (by rw [hce]; exact hcw) fun w hw => ?_
    simp only [List.mem_cons, List.not_mem_nil, or_false] at hw
    rcases hw with rfl | rfl | rfl <;> assumption
  have hrun := vx_runSX (l := l) (p := p) (e := e) (R := rmd d MC MS) (s := s) (m := m) (args := args) (below := below) (meth := meth) (c := c) (H := H) (locs := locs) (cells := cells) (slots := slots) (As := as.map (tr ad)) (rest := rest.map (tr ad)) (g := F0 m pc ls ((as.reverse ++ rest).map (tr ad))) ⟨hF.1, hF.2.1, hF.2.2.1, hF.2.2.2.2.1, hF.2.2.2.2.2.1⟩ (hC D ad cy H.size)
    (vx_cwSW as.length hF.2.2.2.2.2.1 hG (by rw [hce]) rfl rfl ⟨o3, o4, o5⟩ (room_ok o1 o2)) ⟨CP.blind, call_pre hF hW as⟩ rfl (by simp) hL.1 hst (lv_room (by rw [cat_sum]; exact hcat)) hd ⟨by show cells + mcc ≤ MC; omega, by show slots + msc ≤ MS; omega⟩
  exact call_core hrun hk K hF hW hL hc hs2 (prop_x hX (by omega) (by omega) hT2) hR hT2
end CSH
theorem kdU : kd 247 = 8 := by rw [kd_eq]; decide +kernel
theorem alU : al 247 = 1 := by rw [al_eq]; decide +kernel
theorem vin01 : vp_in 0 (al 247) := by rw [alU]; unfold vp_in; decide
set_option maxHeartbeats 4000000 in
set_option maxRecDepth 100000 in
theorem H_pond {l : Launch} (hlt : l.stackTraces = false) {im : TI} {rm : TP} {lm : TL} {a1 a2 a3 : Int32} {x : Int32} {Φ : TI → TP → Prop} (hC : Con l m_X4_pond 9 0 0 NN [pv (some 0), .int a1, .int a2, .int a3] im rm lm (QG (fun v i r q => v = some (.int x) ∧ q = lm ∧ Φ i r)) noX) : Con l m_L_pond 10 0 0 NN [pv (some 0), .int a1, .int a2, .int a3, pv (some 247)] im rm lm (QG (fun v i r q => v = some (.int 0) ∧ q = ul lm 247 0 x.toInt64 ∧ Φ i r)) noX := by
  refine Con.ofH hlt (by decide +kernel) rfl rfl noXe (by rw [en1 pv_cat, en1 rfl, en1 rfl, en1 rfl, en1 pv_cat, en0]; exact Nat.le_of_ble_eq_true rfl) (PW.pad (k := 1) (L0 := [some (pv (some 0)), some (.int a1), some (.int a2), some (.int a3), some (pv (some 247)), none]) (by rw [en1 pv_cat, en1 rfl, en1 rfl, en1 rfl, en1 pv_cat, en0]; rfl) ?_)
  refine t_aload4 dL_pond_0 ?_
  refine pw_iconst (0) dL_pond_2 (by decide) ?_
  refine t_aload0 dL_pond_3 ?_
  refine t_iload1 dL_pond_4 ?_
  refine t_iload2 dL_pond_5 ?_
  refine t_iload3 dL_pond_6 ?_
  refine g_callV3G hC rfl ft4 rfl mc_X4_pond ml_L_7 mi_X4_pond ms_X4_pond in_X4 (okc_X4_pond (by decide)) dL_pond_7 kdT (by exact Nat.le_of_ble_eq_true rfl) (fun _ _ _ _ h => h.elim) ⟨Nat.le_refl _, Nat.le_refl _⟩ (fun v i r q h => ?_)
  obtain ⟨rfl, rfl, h⟩ := h
  refine pw_i2l dL_pond_10 ?_
  refine g_last (k := 247) dL_pond_11 kdU vin01 ?_
  refine pw_goto 27 dL_pond_12 (by decide) ?_
  refine pw_iconst (0) dL_pond_27 (by decide) ?_
  refine pw_iret dL_pond_28 rfl ?_
  exact ⟨rfl, rfl, rfl, h⟩
set_option maxHeartbeats 4000000 in
set_option maxRecDepth 100000 in
theorem HX_pond_1 {l : Launch} (hlt : l.stackTraces = false) {im : TI} {rm : TP} {lm : TL} {a1 a2 a3 : Int32} {Xc : TX} (hC : Con l m_X4_pond 9 1 6 NN [pv (some 0), .int a1, .int a2, .int a3] im rm lm (QG (fun _ _ _ _ => False)) Xc) (hE : ∀ E a b c, Xc E a b c → E = xcI) : Con l m_L_pond 10 1 6 NN [pv (some 0), .int a1, .int a2, .int a3, pv (some 247)] im rm lm (QG (fun v i r q => v = some (.int 1) ∧ Xc xcI i r q)) noX := by
  refine Con.ofH hlt (by decide +kernel) rfl rfl noXe (by rw [en1 pv_cat, en1 rfl, en1 rfl, en1 rfl, en1 pv_cat, en0]; exact Nat.le_of_ble_eq_true rfl) (PW.pad (k := 1) (L0 := [some (pv (some 0)), some (.int a1), some (.int a2), some (.int a3), some (pv (some 247)), none]) (by rw [en1 pv_cat, en1 rfl, en1 rfl, en1 rfl, en1 pv_cat, en0]; rfl) ?_)
  refine t_aload4 dL_pond_0 ?_
  refine pw_iconst (0) dL_pond_2 (by decide) ?_
  refine t_aload0 dL_pond_3 ?_
  refine t_iload1 dL_pond_4 ?_
  refine t_iload2 dL_pond_5 ?_
  refine t_iload3 dL_pond_6 ?_
  refine g_catch (as := [.int a1, .int a2, .int a3]) (b := 0) (rest := [.int 0, pv (some 247)]) (E0 := xcI) (hp := []) (x := (0, 12, 15, 13)) (hs := [(0, 12, 19, 15), (0, 12, 23, 17)]) (h := 15) (k := 5) (sz := 2) rfl hC rfl ft4 rfl mc_X4_pond ml_L_7 mi_X4_pond ms_X4_pond in_X4 (okc_X4_pond (by decide)) dL_pond_7 kdT (by exact Nat.le_of_ble_eq_true rfl) hE (by decide) rfl (fun z hz => by cases hz) ⟨by decide, by decide, rfl, by decide⟩ cl_L_13 (Or.inl ⟨dL_pond_15, rfl⟩) (by decide) (hp_of okp_r rfl) (fun i r q hx => ?_)
  refine pw_iconst (1) dL_pond_17 (by decide) ?_
  refine pw_iret dL_pond_18 rfl ?_
  exact ⟨rfl, rfl, hx⟩
set_option maxHeartbeats 4000000 in
set_option maxRecDepth 100000 in
theorem HX_pond_2 {l : Launch} (hlt : l.stackTraces = false) {im : TI} {rm : TP} {lm : TL} {a1 a2 a3 : Int32} {Xc : TX} (hC : Con l m_X4_pond 9 1 6 NN [pv (some 0), .int a1, .int a2, .int a3] im rm lm (QG (fun _ _ _ _ => False)) Xc) (hE : ∀ E a b c, Xc E a b c → E = xcA) : Con l m_L_pond 10 1 6 NN [pv (some 0), .int a1, .int a2, .int a3, pv (some 247)] im rm lm (QG (fun v i r q => v = some (.int 2) ∧ Xc xcA i r q)) noX := by
  refine Con.ofH hlt (by decide +kernel) rfl rfl noXe (by rw [en1 pv_cat, en1 rfl, en1 rfl, en1 rfl, en1 pv_cat, en0]; exact Nat.le_of_ble_eq_true rfl) (PW.pad (k := 1) (L0 := [some (pv (some 0)), some (.int a1), some (.int a2), some (.int a3), some (pv (some 247)), none]) (by rw [en1 pv_cat, en1 rfl, en1 rfl, en1 rfl, en1 pv_cat, en0]; rfl) ?_)
  refine t_aload4 dL_pond_0 ?_
  refine pw_iconst (0) dL_pond_2 (by decide) ?_
  refine t_aload0 dL_pond_3 ?_
  refine t_iload1 dL_pond_4 ?_
  refine t_iload2 dL_pond_5 ?_
  refine t_iload3 dL_pond_6 ?_
  refine g_catch (as := [.int a1, .int a2, .int a3]) (b := 0) (rest := [.int 0, pv (some 247)]) (E0 := xcA) (hp := [(0, 12, 15, 13)]) (x := (0, 12, 19, 15)) (hs := [(0, 12, 23, 17)]) (h := 19) (k := 5) (sz := 2) rfl hC rfl ft4 rfl mc_X4_pond ml_L_7 mi_X4_pond ms_X4_pond in_X4 (okc_X4_pond (by decide)) dL_pond_7 kdT (by exact Nat.le_of_ble_eq_true rfl) hE (by decide) rfl (fun z hz => by obtain rfl := List.mem_singleton.mp hz; exact ⟨by decide, xcI, by decide, by decide, cl_L_13⟩) ⟨by decide, by decide, rfl, by decide⟩ cl_L_15 (Or.inl ⟨dL_pond_19, rfl⟩) (by decide) (hp_of okp_r rfl) (fun i r q hx => ?_)
  refine pw_iconst (2) dL_pond_21 (by decide) ?_
  refine pw_iret dL_pond_22 rfl ?_
  exact ⟨rfl, rfl, hx⟩
set_option maxHeartbeats 4000000 in
set_option maxRecDepth 100000 in
theorem HX_pond_3 {l : Launch} (hlt : l.stackTraces = false) {im : TI} {rm : TP} {lm : TL} {a1 a2 a3 : Int32} {Xc : TX} (hC : Con l m_X4_pond 9 1 6 NN [pv (some 0), .int a1, .int a2, .int a3] im rm lm (QG (fun _ _ _ _ => False)) Xc) (hE : ∀ E a b c, Xc E a b c → E = xcS) : Con l m_L_pond 10 1 6 NN [pv (some 0), .int a1, .int a2, .int a3, pv (some 247)] im rm lm (QG (fun v i r q => v = some (.int 3) ∧ Xc xcS i r q)) noX := by
  refine Con.ofH hlt (by decide +kernel) rfl rfl noXe (by rw [en1 pv_cat, en1 rfl, en1 rfl, en1 rfl, en1 pv_cat, en0]; exact Nat.le_of_ble_eq_true rfl) (PW.pad (k := 1) (L0 := [some (pv (some 0)), some (.int a1), some (.int a2), some (.int a3), some (pv (some 247)), none]) (by rw [en1 pv_cat, en1 rfl, en1 rfl, en1 rfl, en1 pv_cat, en0]; rfl) ?_)
  refine t_aload4 dL_pond_0 ?_
  refine pw_iconst (0) dL_pond_2 (by decide) ?_
  refine t_aload0 dL_pond_3 ?_
  refine t_iload1 dL_pond_4 ?_
  refine t_iload2 dL_pond_5 ?_
  refine t_iload3 dL_pond_6 ?_
  refine g_catch (as := [.int a1, .int a2, .int a3]) (b := 0) (rest := [.int 0, pv (some 247)]) (E0 := xcS) (hp := [(0, 12, 15, 13), (0, 12, 19, 15)]) (x := (0, 12, 23, 17)) (hs := []) (h := 23) (k := 5) (sz := 2) rfl hC rfl ft4 rfl mc_X4_pond ml_L_7 mi_X4_pond ms_X4_pond in_X4 (okc_X4_pond (by decide)) dL_pond_7 kdT (by exact Nat.le_of_ble_eq_true rfl) hE (by decide) rfl (fun z hz => by rcases List.mem_cons.mp hz with rfl | hz; exact ⟨by decide, xcI, by decide, by decide, cl_L_13⟩; obtain rfl := List.mem_singleton.mp hz; exact ⟨by decide, xcA, by decide, by decide, cl_L_15⟩) ⟨by decide, by decide, rfl, by decide⟩ cl_L_17 (Or.inl ⟨dL_pond_23, rfl⟩) (by decide) (hp_of okp_r rfl) (fun i r q hx => ?_)
  refine pw_iconst (3) dL_pond_25 (by decide) ?_
  refine pw_iret dL_pond_26 rfl ?_
  exact ⟨rfl, rfl, hx⟩
set_option maxHeartbeats 4000000 in
set_option maxRecDepth 100000 in
theorem H_gate {l : Launch} (hlt : l.stackTraces = false) {im : TI} {rm : TP} {lm : TL} {a1 a2 a3 : Int32} {x : Int32} {Φ : TI → TP → Prop} (hC : Con l m_X4_gate 9 0 0 NN [pv (some 0), .int a1, .int a2, .int a3] im rm lm (QG (fun v i r q => v = some (.int x) ∧ q = lm ∧ Φ i r)) noX) : Con l m_L_gate 10 0 0 NN [pv (some 0), .int a1, .int a2, .int a3, pv (some 247)] im rm lm (QG (fun v i r q => v = some (.int 0) ∧ q = ul lm 247 0 x.toInt64 ∧ Φ i r)) noX := by
  refine Con.ofH hlt (by decide +kernel) rfl rfl noXe (by rw [en1 pv_cat, en1 rfl, en1 rfl, en1 rfl, en1 pv_cat, en0]; exact Nat.le_of_ble_eq_true rfl) (PW.pad (k := 1) (L0 := [some (pv (some 0)), some (.int a1), some (.int a2), some (.int a3), some (pv (some 247)), none]) (by rw [en1 pv_cat, en1 rfl, en1 rfl, en1 rfl, en1 pv_cat, en0]; rfl) ?_)
  refine t_aload4 dL_gate_0 ?_
  refine pw_iconst (0) dL_gate_2 (by decide) ?_
  refine t_aload0 dL_gate_3 ?_
  refine t_iload1 dL_gate_4 ?_
  refine t_iload2 dL_gate_5 ?_
  refine t_iload3 dL_gate_6 ?_
  refine g_callV3G hC rfl ft4 rfl mc_X4_gate ml_L_19 mi_X4_gate ms_X4_gate in_X4 (okc_X4_gate (by decide)) dL_gate_7 kdT (by exact Nat.le_of_ble_eq_true rfl) (fun _ _ _ _ h => h.elim) ⟨Nat.le_refl _, Nat.le_refl _⟩ (fun v i r q h => ?_)
  obtain ⟨rfl, rfl, h⟩ := h
  refine pw_i2l dL_gate_10 ?_
  refine g_last (k := 247) dL_gate_11 kdU vin01 ?_
  refine pw_goto 23 dL_gate_12 (by decide) ?_
  refine pw_iconst (0) dL_gate_23 (by decide) ?_
  refine pw_iret dL_gate_24 rfl ?_
  exact ⟨rfl, rfl, rfl, h⟩
set_option maxHeartbeats 4000000 in
set_option maxRecDepth 100000 in
theorem HX_gate_1 {l : Launch} (hlt : l.stackTraces = false) {im : TI} {rm : TP} {lm : TL} {a1 a2 a3 : Int32} {Xc : TX} (hC : Con l m_X4_gate 9 1 6 NN [pv (some 0), .int a1, .int a2, .int a3] im rm lm (QG (fun _ _ _ _ => False)) Xc) (hE : ∀ E a b c, Xc E a b c → E = xcI) : Con l m_L_gate 10 1 6 NN [pv (some 0), .int a1, .int a2, .int a3, pv (some 247)] im rm lm (QG (fun v i r q => v = some (.int 1) ∧ Xc xcI i r q)) noX := by
  refine Con.ofH hlt (by decide +kernel) rfl rfl noXe (by rw [en1 pv_cat, en1 rfl, en1 rfl, en1 rfl, en1 pv_cat, en0]; exact Nat.le_of_ble_eq_true rfl) (PW.pad (k := 1) (L0 := [some (pv (some 0)), some (.int a1), some (.int a2), some (.int a3), some (pv (some 247)), none]) (by rw [en1 pv_cat, en1 rfl, en1 rfl, en1 rfl, en1 pv_cat, en0]; rfl) ?_)
  refine t_aload4 dL_gate_0 ?_
  refine pw_iconst (0) dL_gate_2 (by decide) ?_
  refine t_aload0 dL_gate_3 ?_
  refine t_iload1 dL_gate_4 ?_
  refine t_iload2 dL_gate_5 ?_
  refine t_iload3 dL_gate_6 ?_
  refine g_catch (as := [.int a1, .int a2, .int a3]) (b := 0) (rest := [.int 0, pv (some 247)]) (E0 := xcI) (hp := []) (x := (0, 12, 15, 13)) (hs := [(0, 12, 19, 15)]) (h := 15) (k := 5) (sz := 2) rfl hC rfl ft4 rfl mc_X4_gate ml_L_19 mi_X4_gate ms_X4_gate in_X4 (okc_X4_gate (by decide)) dL_gate_7 kdT (by exact Nat.le_of_ble_eq_true rfl) hE (by decide) rfl (fun z hz => by cases hz) ⟨by decide, by decide, rfl, by decide⟩ cl_L_13 (Or.inl ⟨dL_gate_15, rfl⟩) (by decide) (hp_of okp_r rfl) (fun i r q hx => ?_)
  refine pw_iconst (1) dL_gate_17 (by decide) ?_
  refine pw_iret dL_gate_18 rfl ?_
  exact ⟨rfl, rfl, hx⟩
set_option maxHeartbeats 4000000 in
set_option maxRecDepth 100000 in
theorem HX_gate_2 {l : Launch} (hlt : l.stackTraces = false) {im : TI} {rm : TP} {lm : TL} {a1 a2 a3 : Int32} {Xc : TX} (hC : Con l m_X4_gate 9 1 6 NN [pv (some 0), .int a1, .int a2, .int a3] im rm lm (QG (fun _ _ _ _ => False)) Xc) (hE : ∀ E a b c, Xc E a b c → E = xcA) : Con l m_L_gate 10 1 6 NN [pv (some 0), .int a1, .int a2, .int a3, pv (some 247)] im rm lm (QG (fun v i r q => v = some (.int 2) ∧ Xc xcA i r q)) noX := by
  refine Con.ofH hlt (by decide +kernel) rfl rfl noXe (by rw [en1 pv_cat, en1 rfl, en1 rfl, en1 rfl, en1 pv_cat, en0]; exact Nat.le_of_ble_eq_true rfl) (PW.pad (k := 1) (L0 := [some (pv (some 0)), some (.int a1), some (.int a2), some (.int a3), some (pv (some 247)), none]) (by rw [en1 pv_cat, en1 rfl, en1 rfl, en1 rfl, en1 pv_cat, en0]; rfl) ?_)
  refine t_aload4 dL_gate_0 ?_
  refine pw_iconst (0) dL_gate_2 (by decide) ?_
  refine t_aload0 dL_gate_3 ?_
  refine t_iload1 dL_gate_4 ?_
  refine t_iload2 dL_gate_5 ?_
  refine t_iload3 dL_gate_6 ?_
  refine g_catch (as := [.int a1, .int a2, .int a3]) (b := 0) (rest := [.int 0, pv (some 247)]) (E0 := xcA) (hp := [(0, 12, 15, 13)]) (x := (0, 12, 19, 15)) (hs := []) (h := 19) (k := 5) (sz := 2) rfl hC rfl ft4 rfl mc_X4_gate ml_L_19 mi_X4_gate ms_X4_gate in_X4 (okc_X4_gate (by decide)) dL_gate_7 kdT (by exact Nat.le_of_ble_eq_true rfl) hE (by decide) rfl (fun z hz => by obtain rfl := List.mem_singleton.mp hz; exact ⟨by decide, xcI, by decide, by decide, cl_L_13⟩) ⟨by decide, by decide, rfl, by decide⟩ cl_L_15 (Or.inl ⟨dL_gate_19, rfl⟩) (by decide) (hp_of okp_r rfl) (fun i r q hx => ?_)
  refine pw_iconst (2) dL_gate_21 (by decide) ?_
  refine pw_iret dL_gate_22 rfl ?_
  exact ⟨rfl, rfl, hx⟩
set_option maxHeartbeats 4000000 in
set_option maxRecDepth 100000 in
theorem H_gear {l : Launch} (hlt : l.stackTraces = false) {im : TI} {rm : TP} {lm : TL} {a1 a2 a3 : Int32} {x : Int32} {Φ : TI → TP → Prop} (hC : Con l m_X4_gear 9 0 0 NN [pv (some 0), .int a1, .int a2, .int a3] im rm lm (QG (fun v i r q => v = some (.int x) ∧ q = lm ∧ Φ i r)) noX) : Con l m_L_gear 10 0 0 NN [pv (some 0), .int a1, .int a2, .int a3, pv (some 247)] im rm lm (QG (fun v i r q => v = some (.int 0) ∧ q = ul lm 247 0 x.toInt64 ∧ Φ i r)) noX := by
  refine Con.ofH hlt (by decide +kernel) rfl rfl noXe (by rw [en1 pv_cat, en1 rfl, en1 rfl, en1 rfl, en1 pv_cat, en0]; exact Nat.le_of_ble_eq_true rfl) (PW.pad (k := 1) (L0 := [some (pv (some 0)), some (.int a1), some (.int a2), some (.int a3), some (pv (some 247)), none]) (by rw [en1 pv_cat, en1 rfl, en1 rfl, en1 rfl, en1 pv_cat, en0]; rfl) ?_)
  refine t_aload4 dL_gear_0 ?_
  refine pw_iconst (0) dL_gear_2 (by decide) ?_
  refine t_aload0 dL_gear_3 ?_
  refine t_iload1 dL_gear_4 ?_
  refine t_iload2 dL_gear_5 ?_
  refine t_iload3 dL_gear_6 ?_
  refine g_callV3G hC rfl ft4 rfl mc_X4_gear ml_L_22 mi_X4_gear ms_X4_gear in_X4 (okc_X4_gear (by decide)) dL_gear_7 kdT (by exact Nat.le_of_ble_eq_true rfl) (fun _ _ _ _ h => h.elim) ⟨Nat.le_refl _, Nat.le_refl _⟩ (fun v i r q h => ?_)
  obtain ⟨rfl, rfl, h⟩ := h
  refine pw_i2l dL_gear_10 ?_
  refine g_last (k := 247) dL_gear_11 kdU vin01 ?_
  refine pw_goto 23 dL_gear_12 (by decide) ?_
  refine pw_iconst (0) dL_gear_23 (by decide) ?_
  refine pw_iret dL_gear_24 rfl ?_
  exact ⟨rfl, rfl, rfl, h⟩
set_option maxHeartbeats 4000000 in
set_option maxRecDepth 100000 in
theorem HX_gear_1 {l : Launch} (hlt : l.stackTraces = false) {im : TI} {rm : TP} {lm : TL} {a1 a2 a3 : Int32} {Xc : TX} (hC : Con l m_X4_gear 9 1 6 NN [pv (some 0), .int a1, .int a2, .int a3] im rm lm (QG (fun _ _ _ _ => False)) Xc) (hE : ∀ E a b c, Xc E a b c → E = xcI) : Con l m_L_gear 10 1 6 NN [pv (some 0), .int a1, .int a2, .int a3, pv (some 247)] im rm lm (QG (fun v i r q => v = some (.int 1) ∧ Xc xcI i r q)) noX := by
  refine Con.ofH hlt (by decide +kernel) rfl rfl noXe (by rw [en1 pv_cat, en1 rfl, en1 rfl, en1 rfl, en1 pv_cat, en0]; exact Nat.le_of_ble_eq_true rfl) (PW.pad (k := 1) (L0 := [some (pv (some 0)), some (.int a1), some (.int a2), some (.int a3), some (pv (some 247)), none]) (by rw [en1 pv_cat, en1 rfl, en1 rfl, en1 rfl, en1 pv_cat, en0]; rfl) ?_)
  refine t_aload4 dL_gear_0 ?_
  refine pw_iconst (0) dL_gear_2 (by decide) ?_
  refine t_aload0 dL_gear_3 ?_
  refine t_iload1 dL_gear_4 ?_
  refine t_iload2 dL_gear_5 ?_
  refine t_iload3 dL_gear_6 ?_
  refine g_catch (as := [.int a1, .int a2, .int a3]) (b := 0) (rest := [.int 0, pv (some 247)]) (E0 := xcI) (hp := []) (x := (0, 12, 15, 13)) (hs := [(0, 12, 19, 15)]) (h := 15) (k := 5) (sz := 2) rfl hC rfl ft4 rfl mc_X4_gear ml_L_22 mi_X4_gear ms_X4_gear in_X4 (okc_X4_gear (by decide)) dL_gear_7 kdT (by exact Nat.le_of_ble_eq_true rfl) hE (by decide) rfl (fun z hz => by cases hz) ⟨by decide, by decide, rfl, by decide⟩ cl_L_13 (Or.inl ⟨dL_gear_15, rfl⟩) (by decide) (hp_of okp_r rfl) (fun i r q hx => ?_)
  refine pw_iconst (1) dL_gear_17 (by decide) ?_
  refine pw_iret dL_gear_18 rfl ?_
  exact ⟨rfl, rfl, hx⟩
set_option maxHeartbeats 4000000 in
set_option maxRecDepth 100000 in
theorem HX_gear_2 {l : Launch} (hlt : l.stackTraces = false) {im : TI} {rm : TP} {lm : TL} {a1 a2 a3 : Int32} {Xc : TX} (hC : Con l m_X4_gear 9 1 6 NN [pv (some 0), .int a1, .int a2, .int a3] im rm lm (QG (fun _ _ _ _ => False)) Xc) (hE : ∀ E a b c, Xc E a b c → E = xcA) : Con l m_L_gear 10 1 6 NN [pv (some 0), .int a1, .int a2, .int a3, pv (some 247)] im rm lm (QG (fun v i r q => v = some (.int 2) ∧ Xc xcA i r q)) noX := by
  refine Con.ofH hlt (by decide +kernel) rfl rfl noXe (by rw [en1 pv_cat, en1 rfl, en1 rfl, en1 rfl, en1 pv_cat, en0]; exact Nat.le_of_ble_eq_true rfl) (PW.pad (k := 1) (L0 := [some (pv (some 0)), some (.int a1), some (.int a2), some (.int a3), some (pv (some 247)), none]) (by rw [en1 pv_cat, en1 rfl, en1 rfl, en1 rfl, en1 pv_cat, en0]; rfl) ?_)
  refine t_aload4 dL_gear_0 ?_
  refine pw_iconst (0) dL_gear_2 (by decide) ?_
  refine t_aload0 dL_gear_3 ?_
  refine t_iload1 dL_gear_4 ?_
  refine t_iload2 dL_gear_5 ?_
  refine t_iload3 dL_gear_6 ?_
  refine g_catch (as := [.int a1, .int a2, .int a3]) (b := 0) (rest := [.int 0, pv (some 247)]) (E0 := xcA) (hp := [(0, 12, 15, 13)]) (x := (0, 12, 19, 15)) (hs := []) (h := 19) (k := 5) (sz := 2) rfl hC rfl ft4 rfl mc_X4_gear ml_L_22 mi_X4_gear ms_X4_gear in_X4 (okc_X4_gear (by decide)) dL_gear_7 kdT (by exact Nat.le_of_ble_eq_true rfl) hE (by decide) rfl (fun z hz => by obtain rfl := List.mem_singleton.mp hz; exact ⟨by decide, xcI, by decide, by decide, cl_L_13⟩) ⟨by decide, by decide, rfl, by decide⟩ cl_L_15 (Or.inl ⟨dL_gear_19, rfl⟩) (by decide) (hp_of okp_r rfl) (fun i r q hx => ?_)
  refine pw_iconst (2) dL_gear_21 (by decide) ?_
  refine pw_iret dL_gear_22 rfl ?_
  exact ⟨rfl, rfl, hx⟩
set_option maxHeartbeats 4000000 in
set_option maxRecDepth 100000 in
theorem H_set {l : Launch} (hlt : l.stackTraces = false) {im : TI} {rm : TP} {lm : TL} {a1 a2 : Int32} {x : Int32} {Φ : TI → TP → Prop} (hC : Con l m_X4_set 9 0 0 NN [pv (some 0), .int a1, .int a2] im rm lm (QG (fun v i r q => v = some (.int x) ∧ q = lm ∧ Φ i r)) noX) : Con l m_L_set 10 0 0 NN [pv (some 0), .int a1, .int a2, pv (some 247)] im rm lm (QG (fun v i r q => v = some (.int 0) ∧ q = ul lm 247 0 x.toInt64 ∧ Φ i r)) noX := by
  refine Con.ofH hlt (by decide +kernel) rfl rfl noXe (by rw [en1 pv_cat, en1 rfl, en1 rfl, en1 pv_cat, en0]; exact Nat.le_of_ble_eq_true rfl) (PW.pad (k := 1) (L0 := [some (pv (some 0)), some (.int a1), some (.int a2), some (pv (some 247)), none]) (by rw [en1 pv_cat, en1 rfl, en1 rfl, en1 pv_cat, en0]; rfl) ?_)
  refine t_aload3 dL_set_0 ?_
  refine pw_iconst (0) dL_set_1 (by decide) ?_
  refine t_aload0 dL_set_2 ?_
  refine t_iload1 dL_set_3 ?_
  refine t_iload2 dL_set_4 ?_
  refine g_callV2G hC rfl ft4 rfl mc_X4_set ml_L_25 mi_X4_set ms_X4_set in_X4 (okc_X4_set (by decide)) dL_set_5 kdT (by exact Nat.le_of_ble_eq_true rfl) (fun _ _ _ _ h => h.elim) ⟨Nat.le_refl _, Nat.le_refl _⟩ (fun v i r q h => ?_)
  obtain ⟨rfl, rfl, h⟩ := h
  refine pw_i2l dL_set_8 ?_
  refine g_last (k := 247) dL_set_9 kdU vin01 ?_
  refine pw_goto 21 dL_set_10 (by decide) ?_
  refine pw_iconst (0) dL_set_21 (by decide) ?_
  refine pw_iret dL_set_22 rfl ?_
  exact ⟨rfl, rfl, rfl, h⟩
set_option maxHeartbeats 4000000 in
set_option maxRecDepth 100000 in
theorem HX_set_1 {l : Launch} (hlt : l.stackTraces = false) {im : TI} {rm : TP} {lm : TL} {a1 a2 : Int32} {Xc : TX} (hC : Con l m_X4_set 9 1 6 NN [pv (some 0), .int a1, .int a2] im rm lm (QG (fun _ _ _ _ => False)) Xc) (hE : ∀ E a b c, Xc E a b c → E = xcI) : Con l m_L_set 10 1 6 NN [pv (some 0), .int a1, .int a2, pv (some 247)] im rm lm (QG (fun v i r q => v = some (.int 1) ∧ Xc xcI i r q)) noX := by
  refine Con.ofH hlt (by decide +kernel) rfl rfl noXe (by rw [en1 pv_cat, en1 rfl, en1 rfl, en1 pv_cat, en0]; exact Nat.le_of_ble_eq_true rfl) (PW.pad (k := 1) (L0 := [some (pv (some 0)), some (.int a1), some (.int a2), some (pv (some 247)), none]) (by rw [en1 pv_cat, en1 rfl, en1 rfl, en1 pv_cat, en0]; rfl) ?_)
  refine t_aload3 dL_set_0 ?_
  refine pw_iconst (0) dL_set_1 (by decide) ?_
  refine t_aload0 dL_set_2 ?_
  refine t_iload1 dL_set_3 ?_
  refine t_iload2 dL_set_4 ?_
  refine g_catch (as := [.int a1, .int a2]) (b := 0) (rest := [.int 0, pv (some 247)]) (E0 := xcI) (hp := []) (x := (0, 10, 13, 13)) (hs := [(0, 10, 17, 15)]) (h := 13) (k := 4) (sz := 2) rfl hC rfl ft4 rfl mc_X4_set ml_L_25 mi_X4_set ms_X4_set in_X4 (okc_X4_set (by decide)) dL_set_5 kdT (by exact Nat.le_of_ble_eq_true rfl) hE (by decide) rfl (fun z hz => by cases hz) ⟨by decide, by decide, rfl, by decide⟩ cl_L_13 (Or.inl ⟨dL_set_13, rfl⟩) (by decide) (hp_of okp_r rfl) (fun i r q hx => ?_)
  refine pw_iconst (1) dL_set_15 (by decide) ?_
  refine pw_iret dL_set_16 rfl ?_
  exact ⟨rfl, rfl, hx⟩
set_option maxHeartbeats 4000000 in
set_option maxRecDepth 100000 in
theorem HX_set_2 {l : Launch} (hlt : l.stackTraces = false) {im : TI} {rm : TP} {lm : TL} {a1 a2 : Int32} {Xc : TX} (hC : Con l m_X4_set 9 1 6 NN [pv (some 0), .int a1, .int a2] im rm lm (QG (fun _ _ _ _ => False)) Xc) (hE : ∀ E a b c, Xc E a b c → E = xcA) : Con l m_L_set 10 1 6 NN [pv (some 0), .int a1, .int a2, pv (some 247)] im rm lm (QG (fun v i r q => v = some (.int 2) ∧ Xc xcA i r q)) noX := by
  refine Con.ofH hlt (by decide +kernel) rfl rfl noXe (by rw [en1 pv_cat, en1 rfl, en1 rfl, en1 pv_cat, en0]; exact Nat.le_of_ble_eq_true rfl) (PW.pad (k := 1) (L0 := [some (pv (some 0)), some (.int a1), some (.int a2), some (pv (some 247)), none]) (by rw [en1 pv_cat, en1 rfl, en1 rfl, en1 pv_cat, en0]; rfl) ?_)
  refine t_aload3 dL_set_0 ?_
  refine pw_iconst (0) dL_set_1 (by decide) ?_
  refine t_aload0 dL_set_2 ?_
  refine t_iload1 dL_set_3 ?_
  refine t_iload2 dL_set_4 ?_
  refine g_catch (as := [.int a1, .int a2]) (b := 0) (rest := [.int 0, pv (some 247)]) (E0 := xcA) (hp := [(0, 10, 13, 13)]) (x := (0, 10, 17, 15)) (hs := []) (h := 17) (k := 4) (sz := 2) rfl hC rfl ft4 rfl mc_X4_set ml_L_25 mi_X4_set ms_X4_set in_X4 (okc_X4_set (by decide)) dL_set_5 kdT (by exact Nat.le_of_ble_eq_true rfl) hE (by decide) rfl (fun z hz => by obtain rfl := List.mem_singleton.mp hz; exact ⟨by decide, xcI, by decide, by decide, cl_L_13⟩) ⟨by decide, by decide, rfl, by decide⟩ cl_L_15 (Or.inl ⟨dL_set_17, rfl⟩) (by decide) (hp_of okp_r rfl) (fun i r q hx => ?_)
  refine pw_iconst (2) dL_set_19 (by decide) ?_
  refine pw_iret dL_set_20 rfl ?_
  exact ⟨rfl, rfl, hx⟩
set_option maxHeartbeats 4000000 in
set_option maxRecDepth 100000 in
theorem H_pass {l : Launch} (hlt : l.stackTraces = false) {im : TI} {rm : TP} {lm : TL} {a1 : Int32} {x : Int32} {Φ : TI → TP → Prop} (hC : Con l m_X4_pass 9 0 0 NN [pv (some 0), .int a1] im rm lm (QG (fun v i r q => v = some (.int x) ∧ q = lm ∧ Φ i r)) noX) : Con l m_L_pass 10 0 0 NN [pv (some 0), .int a1, pv (some 247)] im rm lm (QG (fun v i r q => v = some (.int 0) ∧ q = ul lm 247 0 x.toInt64 ∧ Φ i r)) noX := by
  refine Con.ofH hlt (by decide +kernel) rfl rfl noXe (by rw [en1 pv_cat, en1 rfl, en1 pv_cat, en0]; exact Nat.le_of_ble_eq_true rfl) (PW.pad (k := 1) (L0 := [some (pv (some 0)), some (.int a1), some (pv (some 247)), none]) (by rw [en1 pv_cat, en1 rfl, en1 pv_cat, en0]; rfl) ?_)
  refine t_aload2 dL_pass_0 ?_
  refine pw_iconst (0) dL_pass_1 (by decide) ?_
  refine t_aload0 dL_pass_2 ?_
  refine t_iload1 dL_pass_3 ?_
  refine g_callV1G hC rfl ft4 rfl mc_X4_pass ml_L_29 mi_X4_pass ms_X4_pass in_X4 (okc_X4_pass (by decide)) dL_pass_4 kdT (by exact Nat.le_of_ble_eq_true rfl) (fun _ _ _ _ h => h.elim) ⟨Nat.le_refl _, Nat.le_refl _⟩ (fun v i r q h => ?_)
  obtain ⟨rfl, rfl, h⟩ := h
  refine pw_i2l dL_pass_7 ?_
  refine g_last (k := 247) dL_pass_8 kdU vin01 ?_
  refine pw_goto 15 dL_pass_9 (by decide) ?_
  refine pw_iconst (0) dL_pass_15 (by decide) ?_
  refine pw_iret dL_pass_16 rfl ?_
  exact ⟨rfl, rfl, rfl, h⟩
set_option maxHeartbeats 4000000 in
set_option maxRecDepth 100000 in
theorem HX_pass_1 {l : Launch} (hlt : l.stackTraces = false) {im : TI} {rm : TP} {lm : TL} {a1 : Int32} {Xc : TX} (hC : Con l m_X4_pass 9 1 6 NN [pv (some 0), .int a1] im rm lm (QG (fun _ _ _ _ => False)) Xc) (hE : ∀ E a b c, Xc E a b c → E = xcA) : Con l m_L_pass 10 1 6 NN [pv (some 0), .int a1, pv (some 247)] im rm lm (QG (fun v i r q => v = some (.int 1) ∧ Xc xcA i r q)) noX := by
  refine Con.ofH hlt (by decide +kernel) rfl rfl noXe (by rw [en1 pv_cat, en1 rfl, en1 pv_cat, en0]; exact Nat.le_of_ble_eq_true rfl) (PW.pad (k := 1) (L0 := [some (pv (some 0)), some (.int a1), some (pv (some 247)), none]) (by rw [en1 pv_cat, en1 rfl, en1 pv_cat, en0]; rfl) ?_)
  refine t_aload2 dL_pass_0 ?_
  refine pw_iconst (0) dL_pass_1 (by decide) ?_
  refine t_aload0 dL_pass_2 ?_
  refine t_iload1 dL_pass_3 ?_
  refine g_catch (as := [.int a1]) (b := 0) (rest := [.int 0, pv (some 247)]) (E0 := xcA) (hp := []) (x := (0, 9, 12, 15)) (hs := []) (h := 12) (k := 3) (sz := 1) rfl hC rfl ft4 rfl mc_X4_pass ml_L_29 mi_X4_pass ms_X4_pass in_X4 (okc_X4_pass (by decide)) dL_pass_4 kdT (by exact Nat.le_of_ble_eq_true rfl) hE (by decide) rfl (fun z hz => by cases hz) ⟨by decide, by decide, rfl, by decide⟩ cl_L_15 (Or.inr ⟨⟨3, by decide⟩, dL_pass_12, rfl, rfl⟩) (by decide) (hp_of okp_r rfl) (fun i r q hx => ?_)
  refine pw_iconst (1) dL_pass_13 (by decide) ?_
  refine pw_iret dL_pass_14 rfl ?_
  exact ⟨rfl, rfl, hx⟩
set_option maxHeartbeats 4000000 in
set_option maxRecDepth 100000 in
theorem H_sack {l : Launch} (hlt : l.stackTraces = false) {im : TI} {rm : TP} {lm : TL} {a1 a2 a3 : Int32} {x : Int32} {Φ : TI → TP → Prop} (hC : Con l m_X4_sack 9 0 0 NN [pv (some 0), .int a1, .int a2, .int a3] im rm lm (QG (fun v i r q => v = some (.int x) ∧ q = lm ∧ Φ i r)) noX) : Con l m_L_sack 10 0 0 NN [pv (some 0), .int a1, .int a2, .int a3, pv (some 247)] im rm lm (QG (fun v i r q => v = some (.int 0) ∧ q = ul lm 247 0 x.toInt64 ∧ Φ i r)) noX := by
  refine Con.ofH hlt (by decide +kernel) rfl rfl noXe (by rw [en1 pv_cat, en1 rfl, en1 rfl, en1 rfl, en1 pv_cat, en0]; exact Nat.le_of_ble_eq_true rfl) (PW.pad (k := 1) (L0 := [some (pv (some 0)), some (.int a1), some (.int a2), some (.int a3), some (pv (some 247)), none]) (by rw [en1 pv_cat, en1 rfl, en1 rfl, en1 rfl, en1 pv_cat, en0]; rfl) ?_)
  refine t_aload4 dL_sack_0 ?_
  refine pw_iconst (0) dL_sack_2 (by decide) ?_
  refine t_aload0 dL_sack_3 ?_
  refine t_iload1 dL_sack_4 ?_
  refine t_iload2 dL_sack_5 ?_
  refine t_iload3 dL_sack_6 ?_
  refine g_callV3G hC rfl ft4 rfl mc_X4_sack ml_L_33 mi_X4_sack ms_X4_sack in_X4 (okc_X4_sack (by decide)) dL_sack_7 kdT (by exact Nat.le_of_ble_eq_true rfl) (fun _ _ _ _ h => h.elim) ⟨Nat.le_refl _, Nat.le_refl _⟩ (fun v i r q h => ?_)
  obtain ⟨rfl, rfl, h⟩ := h
  refine pw_i2l dL_sack_10 ?_
  refine g_last (k := 247) dL_sack_11 kdU vin01 ?_
  refine pw_goto 27 dL_sack_12 (by decide) ?_
  refine pw_iconst (0) dL_sack_27 (by decide) ?_
  refine pw_iret dL_sack_28 rfl ?_
  exact ⟨rfl, rfl, rfl, h⟩
set_option maxHeartbeats 4000000 in
set_option maxRecDepth 100000 in
theorem HX_sack_1 {l : Launch} (hlt : l.stackTraces = false) {im : TI} {rm : TP} {lm : TL} {a1 a2 a3 : Int32} {Xc : TX} (hC : Con l m_X4_sack 9 1 6 NN [pv (some 0), .int a1, .int a2, .int a3] im rm lm (QG (fun _ _ _ _ => False)) Xc) (hE : ∀ E a b c, Xc E a b c → E = xcI) : Con l m_L_sack 10 1 6 NN [pv (some 0), .int a1, .int a2, .int a3, pv (some 247)] im rm lm (QG (fun v i r q => v = some (.int 1) ∧ Xc xcI i r q)) noX := by
  refine Con.ofH hlt (by decide +kernel) rfl rfl noXe (by rw [en1 pv_cat, en1 rfl, en1 rfl, en1 rfl, en1 pv_cat, en0]; exact Nat.le_of_ble_eq_true rfl) (PW.pad (k := 1) (L0 := [some (pv (some 0)), some (.int a1), some (.int a2), some (.int a3), some (pv (some 247)), none]) (by rw [en1 pv_cat, en1 rfl, en1 rfl, en1 rfl, en1 pv_cat, en0]; rfl) ?_)
  refine t_aload4 dL_sack_0 ?_
  refine pw_iconst (0) dL_sack_2 (by decide) ?_
  refine t_aload0 dL_sack_3 ?_
  refine t_iload1 dL_sack_4 ?_
  refine t_iload2 dL_sack_5 ?_
  refine t_iload3 dL_sack_6 ?_
  refine g_catch (as := [.int a1, .int a2, .int a3]) (b := 0) (rest := [.int 0, pv (some 247)]) (E0 := xcI) (hp := []) (x := (0, 12, 15, 13)) (hs := [(0, 12, 19, 15), (0, 12, 23, 17)]) (h := 15) (k := 5) (sz := 2) rfl hC rfl ft4 rfl mc_X4_sack ml_L_33 mi_X4_sack ms_X4_sack in_X4 (okc_X4_sack (by decide)) dL_sack_7 kdT (by exact Nat.le_of_ble_eq_true rfl) hE (by decide) rfl (fun z hz => by cases hz) ⟨by decide, by decide, rfl, by decide⟩ cl_L_13 (Or.inl ⟨dL_sack_15, rfl⟩) (by decide) (hp_of okp_r rfl) (fun i r q hx => ?_)
  refine pw_iconst (1) dL_sack_17 (by decide) ?_
  refine pw_iret dL_sack_18 rfl ?_
  exact ⟨rfl, rfl, hx⟩
set_option maxHeartbeats 4000000 in
set_option maxRecDepth 100000 in
theorem HX_sack_2 {l : Launch} (hlt : l.stackTraces = false) {im : TI} {rm : TP} {lm : TL} {a1 a2 a3 : Int32} {Xc : TX} (hC : Con l m_X4_sack 9 1 6 NN [pv (some 0), .int a1, .int a2, .int a3] im rm lm (QG (fun _ _ _ _ => False)) Xc) (hE : ∀ E a b c, Xc E a b c → E = xcA) : Con l m_L_sack 10 1 6 NN [pv (some 0), .int a1, .int a2, .int a3, pv (some 247)] im rm lm (QG (fun v i r q => v = some (.int 2) ∧ Xc xcA i r q)) noX := by
  refine Con.ofH hlt (by decide +kernel) rfl rfl noXe (by rw [en1 pv_cat, en1 rfl, en1 rfl, en1 rfl, en1 pv_cat, en0]; exact Nat.le_of_ble_eq_true rfl) (PW.pad (k := 1) (L0 := [some (pv (some 0)), some (.int a1), some (.int a2), some (.int a3), some (pv (some 247)), none]) (by rw [en1 pv_cat, en1 rfl, en1 rfl, en1 rfl, en1 pv_cat, en0]; rfl) ?_)
  refine t_aload4 dL_sack_0 ?_
  refine pw_iconst (0) dL_sack_2 (by decide) ?_
  refine t_aload0 dL_sack_3 ?_
  refine t_iload1 dL_sack_4 ?_
  refine t_iload2 dL_sack_5 ?_
  refine t_iload3 dL_sack_6 ?_
  refine g_catch (as := [.int a1, .int a2, .int a3]) (b := 0) (rest := [.int 0, pv (some 247)]) (E0 := xcA) (hp := [(0, 12, 15, 13)]) (x := (0, 12, 19, 15)) (hs := [(0, 12, 23, 17)]) (h := 19) (k := 5) (sz := 2) rfl hC rfl ft4 rfl mc_X4_sack ml_L_33 mi_X4_sack ms_X4_sack in_X4 (okc_X4_sack (by decide)) dL_sack_7 kdT (by exact Nat.le_of_ble_eq_true rfl) hE (by decide) rfl (fun z hz => by obtain rfl := List.mem_singleton.mp hz; exact ⟨by decide, xcI, by decide, by decide, cl_L_13⟩) ⟨by decide, by decide, rfl, by decide⟩ cl_L_15 (Or.inl ⟨dL_sack_19, rfl⟩) (by decide) (hp_of okp_r rfl) (fun i r q hx => ?_)
  refine pw_iconst (2) dL_sack_21 (by decide) ?_
  refine pw_iret dL_sack_22 rfl ?_
  exact ⟨rfl, rfl, hx⟩
set_option maxHeartbeats 4000000 in
set_option maxRecDepth 100000 in
theorem HX_sack_3 {l : Launch} (hlt : l.stackTraces = false) {im : TI} {rm : TP} {lm : TL} {a1 a2 a3 : Int32} {Xc : TX} (hC : Con l m_X4_sack 9 1 6 NN [pv (some 0), .int a1, .int a2, .int a3] im rm lm (QG (fun _ _ _ _ => False)) Xc) (hE : ∀ E a b c, Xc E a b c → E = xcS) : Con l m_L_sack 10 1 6 NN [pv (some 0), .int a1, .int a2, .int a3, pv (some 247)] im rm lm (QG (fun v i r q => v = some (.int 3) ∧ Xc xcS i r q)) noX := by
  refine Con.ofH hlt (by decide +kernel) rfl rfl noXe (by rw [en1 pv_cat, en1 rfl, en1 rfl, en1 rfl, en1 pv_cat, en0]; exact Nat.le_of_ble_eq_true rfl) (PW.pad (k := 1) (L0 := [some (pv (some 0)), some (.int a1), some (.int a2), some (.int a3), some (pv (some 247)), none]) (by rw [en1 pv_cat, en1 rfl, en1 rfl, en1 rfl, en1 pv_cat, en0]; rfl) ?_)
  refine t_aload4 dL_sack_0 ?_
  refine pw_iconst (0) dL_sack_2 (by decide) ?_
  refine t_aload0 dL_sack_3 ?_
  refine t_iload1 dL_sack_4 ?_
  refine t_iload2 dL_sack_5 ?_
  refine t_iload3 dL_sack_6 ?_
  refine g_catch (as := [.int a1, .int a2, .int a3]) (b := 0) (rest := [.int 0, pv (some 247)]) (E0 := xcS) (hp := [(0, 12, 15, 13), (0, 12, 19, 15)]) (x := (0, 12, 23, 17)) (hs := []) (h := 23) (k := 5) (sz := 2) rfl hC rfl ft4 rfl mc_X4_sack ml_L_33 mi_X4_sack ms_X4_sack in_X4 (okc_X4_sack (by decide)) dL_sack_7 kdT (by exact Nat.le_of_ble_eq_true rfl) hE (by decide) rfl (fun z hz => by rcases List.mem_cons.mp hz with rfl | hz; exact ⟨by decide, xcI, by decide, by decide, cl_L_13⟩; obtain rfl := List.mem_singleton.mp hz; exact ⟨by decide, xcA, by decide, by decide, cl_L_15⟩) ⟨by decide, by decide, rfl, by decide⟩ cl_L_17 (Or.inl ⟨dL_sack_23, rfl⟩) (by decide) (hp_of okp_r rfl) (fun i r q hx => ?_)
  refine pw_iconst (3) dL_sack_25 (by decide) ?_
  refine pw_iret dL_sack_26 rfl ?_
  exact ⟨rfl, rfl, hx⟩
set_option maxHeartbeats 4000000 in
set_option maxRecDepth 100000 in
theorem H_carry {l : Launch} (hlt : l.stackTraces = false) {im : TI} {rm : TP} {lm : TL} {a1 a2 : Int32} {x : Int32} {Φ : TI → TP → Prop} (hC : Con l m_X4_carry 9 0 0 NN [pv (some 0), .int a1, .int a2] im rm lm (QG (fun v i r q => v = some (.int x) ∧ q = lm ∧ Φ i r)) noX) : Con l m_L_carry 10 0 0 NN [pv (some 0), .int a1, .int a2, pv (some 247)] im rm lm (QG (fun v i r q => v = some (.int 0) ∧ q = ul lm 247 0 x.toInt64 ∧ Φ i r)) noX := by
  refine Con.ofH hlt (by decide +kernel) rfl rfl noXe (by rw [en1 pv_cat, en1 rfl, en1 rfl, en1 pv_cat, en0]; exact Nat.le_of_ble_eq_true rfl) (PW.pad (k := 1) (L0 := [some (pv (some 0)), some (.int a1), some (.int a2), some (pv (some 247)), none]) (by rw [en1 pv_cat, en1 rfl, en1 rfl, en1 pv_cat, en0]; rfl) ?_)
  refine t_aload3 dL_carry_0 ?_
  refine pw_iconst (0) dL_carry_1 (by decide) ?_
  refine t_aload0 dL_carry_2 ?_
  refine t_iload1 dL_carry_3 ?_
  refine t_iload2 dL_carry_4 ?_
  refine g_callV2G hC rfl ft4 rfl mc_X4_carry ml_L_36 mi_X4_carry ms_X4_carry in_X4 (okc_X4_carry (by decide)) dL_carry_5 kdT (by exact Nat.le_of_ble_eq_true rfl) (fun _ _ _ _ h => h.elim) ⟨Nat.le_refl _, Nat.le_refl _⟩ (fun v i r q h => ?_)
  obtain ⟨rfl, rfl, h⟩ := h
  refine pw_i2l dL_carry_8 ?_
  refine g_last (k := 247) dL_carry_9 kdU vin01 ?_
  refine pw_goto 21 dL_carry_10 (by decide) ?_
  refine pw_iconst (0) dL_carry_21 (by decide) ?_
  refine pw_iret dL_carry_22 rfl ?_
  exact ⟨rfl, rfl, rfl, h⟩
set_option maxHeartbeats 4000000 in
set_option maxRecDepth 100000 in
theorem HX_carry_1 {l : Launch} (hlt : l.stackTraces = false) {im : TI} {rm : TP} {lm : TL} {a1 a2 : Int32} {Xc : TX} (hC : Con l m_X4_carry 9 1 6 NN [pv (some 0), .int a1, .int a2] im rm lm (QG (fun _ _ _ _ => False)) Xc) (hE : ∀ E a b c, Xc E a b c → E = xcI) : Con l m_L_carry 10 1 6 NN [pv (some 0), .int a1, .int a2, pv (some 247)] im rm lm (QG (fun v i r q => v = some (.int 1) ∧ Xc xcI i r q)) noX := by
  refine Con.ofH hlt (by decide +kernel) rfl rfl noXe (by rw [en1 pv_cat, en1 rfl, en1 rfl, en1 pv_cat, en0]; exact Nat.le_of_ble_eq_true rfl) (PW.pad (k := 1) (L0 := [some (pv (some 0)), some (.int a1), some (.int a2), some (pv (some 247)), none]) (by rw [en1 pv_cat, en1 rfl, en1 rfl, en1 pv_cat, en0]; rfl) ?_)
  refine t_aload3 dL_carry_0 ?_
  refine pw_iconst (0) dL_carry_1 (by decide) ?_
  refine t_aload0 dL_carry_2 ?_
  refine t_iload1 dL_carry_3 ?_
  refine t_iload2 dL_carry_4 ?_
  refine g_catch (as := [.int a1, .int a2]) (b := 0) (rest := [.int 0, pv (some 247)]) (E0 := xcI) (hp := []) (x := (0, 10, 13, 13)) (hs := [(0, 10, 17, 17)]) (h := 13) (k := 4) (sz := 2) rfl hC rfl ft4 rfl mc_X4_carry ml_L_36 mi_X4_carry ms_X4_carry in_X4 (okc_X4_carry (by decide)) dL_carry_5 kdT (by exact Nat.le_of_ble_eq_true rfl) hE (by decide) rfl (fun z hz => by cases hz) ⟨by decide, by decide, rfl, by decide⟩ cl_L_13 (Or.inl ⟨dL_carry_13, rfl⟩) (by decide) (hp_of okp_r rfl) (fun i r q hx => ?_)
  refine pw_iconst (1) dL_carry_15 (by decide) ?_
  refine pw_iret dL_carry_16 rfl ?_
  exact ⟨rfl, rfl, hx⟩
set_option maxHeartbeats 4000000 in
set_option maxRecDepth 100000 in
theorem HX_carry_2 {l : Launch} (hlt : l.stackTraces = false) {im : TI} {rm : TP} {lm : TL} {a1 a2 : Int32} {Xc : TX} (hC : Con l m_X4_carry 9 1 6 NN [pv (some 0), .int a1, .int a2] im rm lm (QG (fun _ _ _ _ => False)) Xc) (hE : ∀ E a b c, Xc E a b c → E = xcS) : Con l m_L_carry 10 1 6 NN [pv (some 0), .int a1, .int a2, pv (some 247)] im rm lm (QG (fun v i r q => v = some (.int 2) ∧ Xc xcS i r q)) noX := by
  refine Con.ofH hlt (by decide +kernel) rfl rfl noXe (by rw [en1 pv_cat, en1 rfl, en1 rfl, en1 pv_cat, en0]; exact Nat.le_of_ble_eq_true rfl) (PW.pad (k := 1) (L0 := [some (pv (some 0)), some (.int a1), some (.int a2), some (pv (some 247)), none]) (by rw [en1 pv_cat, en1 rfl, en1 rfl, en1 pv_cat, en0]; rfl) ?_)
  refine t_aload3 dL_carry_0 ?_
  refine pw_iconst (0) dL_carry_1 (by decide) ?_
  refine t_aload0 dL_carry_2 ?_
  refine t_iload1 dL_carry_3 ?_
  refine t_iload2 dL_carry_4 ?_
  refine g_catch (as := [.int a1, .int a2]) (b := 0) (rest := [.int 0, pv (some 247)]) (E0 := xcS) (hp := [(0, 10, 13, 13)]) (x := (0, 10, 17, 17)) (hs := []) (h := 17) (k := 4) (sz := 2) rfl hC rfl ft4 rfl mc_X4_carry ml_L_36 mi_X4_carry ms_X4_carry in_X4 (okc_X4_carry (by decide)) dL_carry_5 kdT (by exact Nat.le_of_ble_eq_true rfl) hE (by decide) rfl (fun z hz => by obtain rfl := List.mem_singleton.mp hz; exact ⟨by decide, xcI, by decide, by decide, cl_L_13⟩) ⟨by decide, by decide, rfl, by decide⟩ cl_L_17 (Or.inl ⟨dL_carry_17, rfl⟩) (by decide) (hp_of okp_r rfl) (fun i r q hx => ?_)
  refine pw_iconst (2) dL_carry_19 (by decide) ?_
  refine pw_iret dL_carry_20 rfl ?_
  exact ⟨rfl, rfl, hx⟩
set_option maxHeartbeats 4000000 in
set_option maxRecDepth 100000 in
theorem H_back {l : Launch} (hlt : l.stackTraces = false) {im : TI} {rm : TP} {lm : TL} {a1 : Int32} {x : Int32} {Φ : TI → TP → Prop} (hC : Con l m_X4_back 9 0 0 NN [pv (some 0), .int a1] im rm lm (QG (fun v i r q => v = some (.int x) ∧ q = lm ∧ Φ i r)) noX) : Con l m_L_back 10 0 0 NN [pv (some 0), .int a1, pv (some 247)] im rm lm (QG (fun v i r q => v = some (.int 0) ∧ q = ul lm 247 0 x.toInt64 ∧ Φ i r)) noX := by
  refine Con.ofH hlt (by decide +kernel) rfl rfl noXe (by rw [en1 pv_cat, en1 rfl, en1 pv_cat, en0]; exact Nat.le_of_ble_eq_true rfl) (PW.pad (k := 1) (L0 := [some (pv (some 0)), some (.int a1), some (pv (some 247)), none]) (by rw [en1 pv_cat, en1 rfl, en1 pv_cat, en0]; rfl) ?_)
  refine t_aload2 dL_back_0 ?_
  refine pw_iconst (0) dL_back_1 (by decide) ?_
  refine t_aload0 dL_back_2 ?_
  refine t_iload1 dL_back_3 ?_
  refine g_callV1G hC rfl ft4 rfl mc_X4_back ml_L_39 mi_X4_back ms_X4_back in_X4 (okc_X4_back (by decide)) dL_back_4 kdT (by exact Nat.le_of_ble_eq_true rfl) (fun _ _ _ _ h => h.elim) ⟨Nat.le_refl _, Nat.le_refl _⟩ (fun v i r q h => ?_)
  obtain ⟨rfl, rfl, h⟩ := h
  refine pw_i2l dL_back_7 ?_
  refine g_last (k := 247) dL_back_8 kdU vin01 ?_
  refine pw_goto 15 dL_back_9 (by decide) ?_
  refine pw_iconst (0) dL_back_15 (by decide) ?_
  refine pw_iret dL_back_16 rfl ?_
  exact ⟨rfl, rfl, rfl, h⟩
set_option maxHeartbeats 4000000 in
set_option maxRecDepth 100000 in
theorem HX_back_1 {l : Launch} (hlt : l.stackTraces = false) {im : TI} {rm : TP} {lm : TL} {a1 : Int32} {Xc : TX} (hC : Con l m_X4_back 9 1 6 NN [pv (some 0), .int a1] im rm lm (QG (fun _ _ _ _ => False)) Xc) (hE : ∀ E a b c, Xc E a b c → E = xcS) : Con l m_L_back 10 1 6 NN [pv (some 0), .int a1, pv (some 247)] im rm lm (QG (fun v i r q => v = some (.int 1) ∧ Xc xcS i r q)) noX := by
  refine Con.ofH hlt (by decide +kernel) rfl rfl noXe (by rw [en1 pv_cat, en1 rfl, en1 pv_cat, en0]; exact Nat.le_of_ble_eq_true rfl) (PW.pad (k := 1) (L0 := [some (pv (some 0)), some (.int a1), some (pv (some 247)), none]) (by rw [en1 pv_cat, en1 rfl, en1 pv_cat, en0]; rfl) ?_)
  refine t_aload2 dL_back_0 ?_
  refine pw_iconst (0) dL_back_1 (by decide) ?_
  refine t_aload0 dL_back_2 ?_
  refine t_iload1 dL_back_3 ?_
  refine g_catch (as := [.int a1]) (b := 0) (rest := [.int 0, pv (some 247)]) (E0 := xcS) (hp := []) (x := (0, 9, 12, 17)) (hs := []) (h := 12) (k := 3) (sz := 1) rfl hC rfl ft4 rfl mc_X4_back ml_L_39 mi_X4_back ms_X4_back in_X4 (okc_X4_back (by decide)) dL_back_4 kdT (by exact Nat.le_of_ble_eq_true rfl) hE (by decide) rfl (fun z hz => by cases hz) ⟨by decide, by decide, rfl, by decide⟩ cl_L_17 (Or.inr ⟨⟨3, by decide⟩, dL_back_12, rfl, rfl⟩) (by decide) (hp_of okp_r rfl) (fun i r q hx => ?_)
  refine pw_iconst (1) dL_back_13 (by decide) ?_
  refine pw_iret dL_back_14 rfl ?_
  exact ⟨rfl, rfl, hx⟩
set_option maxHeartbeats 4000000 in
set_option maxRecDepth 100000 in
theorem H_append {l : Launch} (hlt : l.stackTraces = false) {im : TI} {rm : TP} {lm : TL} {a1 : Int32} {x : Int32} {Φ : TI → TP → Prop} (hC : Con l m_X4_append 9 0 0 NN [pv (some 0), .int a1] im rm lm (QG (fun v i r q => v = some (.int x) ∧ q = lm ∧ Φ i r)) noX) : Con l m_L_append 10 0 0 NN [pv (some 0), .int a1, pv (some 247)] im rm lm (QG (fun v i r q => v = some (.int 0) ∧ q = ul lm 247 0 x.toInt64 ∧ Φ i r)) noX := by
  refine Con.ofH hlt (by decide +kernel) rfl rfl noXe (by rw [en1 pv_cat, en1 rfl, en1 pv_cat, en0]; exact Nat.le_of_ble_eq_true rfl) (PW.pad (k := 1) (L0 := [some (pv (some 0)), some (.int a1), some (pv (some 247)), none]) (by rw [en1 pv_cat, en1 rfl, en1 pv_cat, en0]; rfl) ?_)
  refine t_aload2 dL_append_0 ?_
  refine pw_iconst (0) dL_append_1 (by decide) ?_
  refine t_aload0 dL_append_2 ?_
  refine t_iload1 dL_append_3 ?_
  refine g_callV1G hC rfl ft4 rfl mc_X4_append ml_L_42 mi_X4_append ms_X4_append in_X4 (okc_X4_append (by decide)) dL_append_4 kdT (by exact Nat.le_of_ble_eq_true rfl) (fun _ _ _ _ h => h.elim) ⟨Nat.le_refl _, Nat.le_refl _⟩ (fun v i r q h => ?_)
  obtain ⟨rfl, rfl, h⟩ := h
  refine pw_i2l dL_append_7 ?_
  refine g_last (k := 247) dL_append_8 kdU vin01 ?_
  refine pw_goto 18 dL_append_9 (by decide) ?_
  refine pw_iconst (0) dL_append_18 (by decide) ?_
  refine pw_iret dL_append_19 rfl ?_
  exact ⟨rfl, rfl, rfl, h⟩
set_option maxHeartbeats 4000000 in
set_option maxRecDepth 100000 in
theorem HX_append_1 {l : Launch} (hlt : l.stackTraces = false) {im : TI} {rm : TP} {lm : TL} {a1 : Int32} {Xc : TX} (hC : Con l m_X4_append 9 1 6 NN [pv (some 0), .int a1] im rm lm (QG (fun _ _ _ _ => False)) Xc) (hE : ∀ E a b c, Xc E a b c → E = xcA) : Con l m_L_append 10 1 6 NN [pv (some 0), .int a1, pv (some 247)] im rm lm (QG (fun v i r q => v = some (.int 1) ∧ Xc xcA i r q)) noX := by
  refine Con.ofH hlt (by decide +kernel) rfl rfl noXe (by rw [en1 pv_cat, en1 rfl, en1 pv_cat, en0]; exact Nat.le_of_ble_eq_true rfl) (PW.pad (k := 1) (L0 := [some (pv (some 0)), some (.int a1), some (pv (some 247)), none]) (by rw [en1 pv_cat, en1 rfl, en1 pv_cat, en0]; rfl) ?_)
  refine t_aload2 dL_append_0 ?_
  refine pw_iconst (0) dL_append_1 (by decide) ?_
  refine t_aload0 dL_append_2 ?_
  refine t_iload1 dL_append_3 ?_
  refine g_catch (as := [.int a1]) (b := 0) (rest := [.int 0, pv (some 247)]) (E0 := xcA) (hp := []) (x := (0, 9, 12, 15)) (hs := [(0, 9, 15, 17)]) (h := 12) (k := 3) (sz := 1) rfl hC rfl ft4 rfl mc_X4_append ml_L_42 mi_X4_append ms_X4_append in_X4 (okc_X4_append (by decide)) dL_append_4 kdT (by exact Nat.le_of_ble_eq_true rfl) hE (by decide) rfl (fun z hz => by cases hz) ⟨by decide, by decide, rfl, by decide⟩ cl_L_15 (Or.inr ⟨⟨3, by decide⟩, dL_append_12, rfl, rfl⟩) (by decide) (hp_of okp_r rfl) (fun i r q hx => ?_)
  refine pw_iconst (1) dL_append_13 (by decide) ?_
  refine pw_iret dL_append_14 rfl ?_
  exact ⟨rfl, rfl, hx⟩
set_option maxHeartbeats 4000000 in
set_option maxRecDepth 100000 in
theorem HX_append_2 {l : Launch} (hlt : l.stackTraces = false) {im : TI} {rm : TP} {lm : TL} {a1 : Int32} {Xc : TX} (hC : Con l m_X4_append 9 1 6 NN [pv (some 0), .int a1] im rm lm (QG (fun _ _ _ _ => False)) Xc) (hE : ∀ E a b c, Xc E a b c → E = xcS) : Con l m_L_append 10 1 6 NN [pv (some 0), .int a1, pv (some 247)] im rm lm (QG (fun v i r q => v = some (.int 2) ∧ Xc xcS i r q)) noX := by
  refine Con.ofH hlt (by decide +kernel) rfl rfl noXe (by rw [en1 pv_cat, en1 rfl, en1 pv_cat, en0]; exact Nat.le_of_ble_eq_true rfl) (PW.pad (k := 1) (L0 := [some (pv (some 0)), some (.int a1), some (pv (some 247)), none]) (by rw [en1 pv_cat, en1 rfl, en1 pv_cat, en0]; rfl) ?_)
  refine t_aload2 dL_append_0 ?_
  refine pw_iconst (0) dL_append_1 (by decide) ?_
  refine t_aload0 dL_append_2 ?_
  refine t_iload1 dL_append_3 ?_
  refine g_catch (as := [.int a1]) (b := 0) (rest := [.int 0, pv (some 247)]) (E0 := xcS) (hp := [(0, 9, 12, 15)]) (x := (0, 9, 15, 17)) (hs := []) (h := 15) (k := 3) (sz := 1) rfl hC rfl ft4 rfl mc_X4_append ml_L_42 mi_X4_append ms_X4_append in_X4 (okc_X4_append (by decide)) dL_append_4 kdT (by exact Nat.le_of_ble_eq_true rfl) hE (by decide) rfl (fun z hz => by obtain rfl := List.mem_singleton.mp hz; exact ⟨by decide, xcA, by decide, by decide, cl_L_15⟩) ⟨by decide, by decide, rfl, by decide⟩ cl_L_17 (Or.inr ⟨⟨3, by decide⟩, dL_append_15, rfl, rfl⟩) (by decide) (hp_of okp_r rfl) (fun i r q hx => ?_)
  refine pw_iconst (2) dL_append_16 (by decide) ?_
  refine pw_iret dL_append_17 rfl ?_
  exact ⟨rfl, rfl, hx⟩
set_option maxHeartbeats 4000000 in
set_option maxRecDepth 100000 in
theorem H_play {l : Launch} (hlt : l.stackTraces = false) {im : TI} {rm : TP} {lm : TL} {x : Int32} {Φ : TI → TP → Prop} (hC : Con l m_X4_play 9 0 0 NN [pv (some 0)] im rm lm (QG (fun v i r q => v = some (.int x) ∧ q = lm ∧ Φ i r)) noX) : Con l m_L_play 10 0 0 NN [pv (some 0), pv (some 247)] im rm lm (QG (fun v i r q => v = some (.int 0) ∧ q = ul lm 247 0 x.toInt64 ∧ Φ i r)) noX := by
  refine Con.ofH hlt (by decide +kernel) rfl rfl noXe (by rw [en1 pv_cat, en1 pv_cat, en0]; exact Nat.le_of_ble_eq_true rfl) (PW.pad (k := 1) (L0 := [some (pv (some 0)), some (pv (some 247)), none]) (by rw [en1 pv_cat, en1 pv_cat, en0]; rfl) ?_)
  refine t_aload1 dL_play_0 ?_
  refine pw_iconst (0) dL_play_1 (by decide) ?_
  refine t_aload0 dL_play_2 ?_
  refine g_callV0G hC rfl ft4 rfl mc_X4_play ml_L_45 mi_X4_play ms_X4_play in_X4 (okc_X4_play (by decide)) dL_play_3 kdT (by exact Nat.le_of_ble_eq_true rfl) (fun _ _ _ _ h => h.elim) ⟨Nat.le_refl _, Nat.le_refl _⟩ (fun v i r q h => ?_)
  obtain ⟨rfl, rfl, h⟩ := h
  refine pw_i2l dL_play_6 ?_
  refine g_last (k := 247) dL_play_7 kdU vin01 ?_
  refine pw_goto 14 dL_play_8 (by decide) ?_
  refine pw_iconst (0) dL_play_14 (by decide) ?_
  refine pw_iret dL_play_15 rfl ?_
  exact ⟨rfl, rfl, rfl, h⟩
set_option maxHeartbeats 4000000 in
set_option maxRecDepth 100000 in
theorem HX_play_1 {l : Launch} (hlt : l.stackTraces = false) {im : TI} {rm : TP} {lm : TL} {Xc : TX} (hC : Con l m_X4_play 9 1 6 NN [pv (some 0)] im rm lm (QG (fun _ _ _ _ => False)) Xc) (hE : ∀ E a b c, Xc E a b c → E = xcA) : Con l m_L_play 10 1 6 NN [pv (some 0), pv (some 247)] im rm lm (QG (fun v i r q => v = some (.int 1) ∧ Xc xcA i r q)) noX := by
  refine Con.ofH hlt (by decide +kernel) rfl rfl noXe (by rw [en1 pv_cat, en1 pv_cat, en0]; exact Nat.le_of_ble_eq_true rfl) (PW.pad (k := 1) (L0 := [some (pv (some 0)), some (pv (some 247)), none]) (by rw [en1 pv_cat, en1 pv_cat, en0]; rfl) ?_)
  refine t_aload1 dL_play_0 ?_
  refine pw_iconst (0) dL_play_1 (by decide) ?_
  refine t_aload0 dL_play_2 ?_
  refine g_catch (as := []) (b := 0) (rest := [.int 0, pv (some 247)]) (E0 := xcA) (hp := []) (x := (0, 8, 11, 15)) (hs := []) (h := 11) (k := 2) (sz := 1) rfl hC rfl ft4 rfl mc_X4_play ml_L_45 mi_X4_play ms_X4_play in_X4 (okc_X4_play (by decide)) dL_play_3 kdT (by exact Nat.le_of_ble_eq_true rfl) hE (by decide) rfl (fun z hz => by cases hz) ⟨by decide, by decide, rfl, by decide⟩ cl_L_15 (Or.inr ⟨⟨2, by decide⟩, dL_play_11, rfl, rfl⟩) (by decide) (hp_of okp_r rfl) (fun i r q hx => ?_)
  refine pw_iconst (1) dL_play_12 (by decide) ?_
  refine pw_iret dL_play_13 rfl ?_
  exact ⟨rfl, rfl, hx⟩
set_option maxHeartbeats 4000000 in
set_option maxRecDepth 100000 in
theorem H_undo {l : Launch} (hlt : l.stackTraces = false) {im : TI} {rm : TP} {lm : TL} {x : Int32} {Φ : TI → TP → Prop} (hC : Con l m_X4_undo 9 0 0 NN [pv (some 0)] im rm lm (QG (fun v i r q => v = some (.int x) ∧ q = lm ∧ Φ i r)) noX) : Con l m_L_undo 10 0 0 NN [pv (some 0), pv (some 247)] im rm lm (QG (fun v i r q => v = some (.int 0) ∧ q = ul lm 247 0 x.toInt64 ∧ Φ i r)) noX := by
  refine Con.ofH hlt (by decide +kernel) rfl rfl noXe (by rw [en1 pv_cat, en1 pv_cat, en0]; exact Nat.le_of_ble_eq_true rfl) (PW.pad (k := 1) (L0 := [some (pv (some 0)), some (pv (some 247)), none]) (by rw [en1 pv_cat, en1 pv_cat, en0]; rfl) ?_)
  refine t_aload1 dL_undo_0 ?_
  refine pw_iconst (0) dL_undo_1 (by decide) ?_
  refine t_aload0 dL_undo_2 ?_
  refine g_callV0G hC rfl ft4 rfl mc_X4_undo ml_L_49 mi_X4_undo ms_X4_undo in_X4 (okc_X4_undo (by decide)) dL_undo_3 kdT (by exact Nat.le_of_ble_eq_true rfl) (fun _ _ _ _ h => h.elim) ⟨Nat.le_refl _, Nat.le_refl _⟩ (fun v i r q h => ?_)
  obtain ⟨rfl, rfl, h⟩ := h
  refine pw_i2l dL_undo_6 ?_
  refine g_last (k := 247) dL_undo_7 kdU vin01 ?_
  refine pw_goto 14 dL_undo_8 (by decide) ?_
  refine pw_iconst (0) dL_undo_14 (by decide) ?_
  refine pw_iret dL_undo_15 rfl ?_
  exact ⟨rfl, rfl, rfl, h⟩
set_option maxHeartbeats 4000000 in
set_option maxRecDepth 100000 in
theorem HX_undo_1 {l : Launch} (hlt : l.stackTraces = false) {im : TI} {rm : TP} {lm : TL} {Xc : TX} (hC : Con l m_X4_undo 9 1 6 NN [pv (some 0)] im rm lm (QG (fun _ _ _ _ => False)) Xc) (hE : ∀ E a b c, Xc E a b c → E = xcS) : Con l m_L_undo 10 1 6 NN [pv (some 0), pv (some 247)] im rm lm (QG (fun v i r q => v = some (.int 1) ∧ Xc xcS i r q)) noX := by
  refine Con.ofH hlt (by decide +kernel) rfl rfl noXe (by rw [en1 pv_cat, en1 pv_cat, en0]; exact Nat.le_of_ble_eq_true rfl) (PW.pad (k := 1) (L0 := [some (pv (some 0)), some (pv (some 247)), none]) (by rw [en1 pv_cat, en1 pv_cat, en0]; rfl) ?_)
  refine t_aload1 dL_undo_0 ?_
  refine pw_iconst (0) dL_undo_1 (by decide) ?_
  refine t_aload0 dL_undo_2 ?_
  refine g_catch (as := []) (b := 0) (rest := [.int 0, pv (some 247)]) (E0 := xcS) (hp := []) (x := (0, 8, 11, 17)) (hs := []) (h := 11) (k := 2) (sz := 1) rfl hC rfl ft4 rfl mc_X4_undo ml_L_49 mi_X4_undo ms_X4_undo in_X4 (okc_X4_undo (by decide)) dL_undo_3 kdT (by exact Nat.le_of_ble_eq_true rfl) hE (by decide) rfl (fun z hz => by cases hz) ⟨by decide, by decide, rfl, by decide⟩ cl_L_17 (Or.inr ⟨⟨2, by decide⟩, dL_undo_11, rfl, rfl⟩) (by decide) (hp_of okp_r rfl) (fun i r q hx => ?_)
  refine pw_iconst (1) dL_undo_12 (by decide) ?_
  refine pw_iret dL_undo_13 rfl ?_
  exact ⟨rfl, rfl, hx⟩
set_option maxHeartbeats 4000000 in
set_option maxRecDepth 100000 in
theorem H_restore {l : Launch} (hlt : l.stackTraces = false) {im : TI} {rm : TP} {lm : TL} {x : Int32} {Φ : TI → TP → Prop} (hC : Con l m_X4_restore 9 0 0 NN [pv (some 0)] im rm lm (QG (fun v i r q => v = some (.int x) ∧ q = lm ∧ Φ i r)) noX) : Con l m_L_restore 10 0 0 NN [pv (some 0), pv (some 247)] im rm lm (QG (fun v i r q => v = some (.int 0) ∧ q = ul lm 247 0 x.toInt64 ∧ Φ i r)) noX := by
  refine Con.ofH hlt (by decide +kernel) rfl rfl noXe (by rw [en1 pv_cat, en1 pv_cat, en0]; exact Nat.le_of_ble_eq_true rfl) (PW.pad (k := 1) (L0 := [some (pv (some 0)), some (pv (some 247)), none]) (by rw [en1 pv_cat, en1 pv_cat, en0]; rfl) ?_)
  refine t_aload1 dL_restore_0 ?_
  refine pw_iconst (0) dL_restore_1 (by decide) ?_
  refine t_aload0 dL_restore_2 ?_
  refine g_callV0G hC rfl ft4 rfl mc_X4_restore ml_L_52 mi_X4_restore ms_X4_restore in_X4 (okc_X4_restore (by decide)) dL_restore_3 kdT (by exact Nat.le_of_ble_eq_true rfl) (fun _ _ _ _ h => h.elim) ⟨Nat.le_refl _, Nat.le_refl _⟩ (fun v i r q h => ?_)
  obtain ⟨rfl, rfl, h⟩ := h
  refine pw_i2l dL_restore_6 ?_
  refine g_last (k := 247) dL_restore_7 kdU vin01 ?_
  refine pw_goto 14 dL_restore_8 (by decide) ?_
  refine pw_iconst (0) dL_restore_14 (by decide) ?_
  refine pw_iret dL_restore_15 rfl ?_
  exact ⟨rfl, rfl, rfl, h⟩
set_option maxHeartbeats 4000000 in
set_option maxRecDepth 100000 in
theorem HX_restore_1 {l : Launch} (hlt : l.stackTraces = false) {im : TI} {rm : TP} {lm : TL} {Xc : TX} (hC : Con l m_X4_restore 9 1 6 NN [pv (some 0)] im rm lm (QG (fun _ _ _ _ => False)) Xc) (hE : ∀ E a b c, Xc E a b c → E = xcS) : Con l m_L_restore 10 1 6 NN [pv (some 0), pv (some 247)] im rm lm (QG (fun v i r q => v = some (.int 1) ∧ Xc xcS i r q)) noX := by
  refine Con.ofH hlt (by decide +kernel) rfl rfl noXe (by rw [en1 pv_cat, en1 pv_cat, en0]; exact Nat.le_of_ble_eq_true rfl) (PW.pad (k := 1) (L0 := [some (pv (some 0)), some (pv (some 247)), none]) (by rw [en1 pv_cat, en1 pv_cat, en0]; rfl) ?_)
  refine t_aload1 dL_restore_0 ?_
  refine pw_iconst (0) dL_restore_1 (by decide) ?_
  refine t_aload0 dL_restore_2 ?_
  refine g_catch (as := []) (b := 0) (rest := [.int 0, pv (some 247)]) (E0 := xcS) (hp := []) (x := (0, 8, 11, 17)) (hs := []) (h := 11) (k := 2) (sz := 1) rfl hC rfl ft4 rfl mc_X4_restore ml_L_52 mi_X4_restore ms_X4_restore in_X4 (okc_X4_restore (by decide)) dL_restore_3 kdT (by exact Nat.le_of_ble_eq_true rfl) hE (by decide) rfl (fun z hz => by cases hz) ⟨by decide, by decide, rfl, by decide⟩ cl_L_17 (Or.inr ⟨⟨2, by decide⟩, dL_restore_11, rfl, rfl⟩) (by decide) (hp_of okp_r rfl) (fun i r q hx => ?_)
  refine pw_iconst (1) dL_restore_12 (by decide) ?_
  refine pw_iret dL_restore_13 rfl ?_
  exact ⟨rfl, rfl, hx⟩
set_option maxHeartbeats 4000000 in
set_option maxRecDepth 100000 in
theorem H_mill {l : Launch} (hlt : l.stackTraces = false) {im : TI} {rm : TP} {lm : TL} {a1 a2 : Int32} {x : Int32} {Φ : TI → TP → Prop} (hC : Con l m_X4_mill 9 0 0 NN [pv (some 0), .int a1, .int a2] im rm lm (QG (fun v i r q => v = some (.int x) ∧ q = lm ∧ Φ i r)) noX) : Con l m_L_mill 10 0 0 NN [pv (some 0), .int a1, .int a2, pv (some 247)] im rm lm (QG (fun v i r q => v = some (.int 0) ∧ q = ul lm 247 0 x.toInt64 ∧ Φ i r)) noX := by
  refine Con.ofH hlt (by decide +kernel) rfl rfl noXe (by rw [en1 pv_cat, en1 rfl, en1 rfl, en1 pv_cat, en0]; exact Nat.le_of_ble_eq_true rfl) (PW.pad (k := 1) (L0 := [some (pv (some 0)), some (.int a1), some (.int a2), some (pv (some 247)), none]) (by rw [en1 pv_cat, en1 rfl, en1 rfl, en1 pv_cat, en0]; rfl) ?_)
  refine t_aload3 dL_mill_0 ?_
  refine pw_iconst (0) dL_mill_1 (by decide) ?_
  refine t_aload0 dL_mill_2 ?_
  refine t_iload1 dL_mill_3 ?_
  refine t_iload2 dL_mill_4 ?_
  refine g_callV2G hC rfl ft4 rfl mc_X4_mill ml_L_55 mi_X4_mill ms_X4_mill in_X4 (okc_X4_mill (by decide)) dL_mill_5 kdT (by exact Nat.le_of_ble_eq_true rfl) (fun _ _ _ _ h => h.elim) ⟨Nat.le_refl _, Nat.le_refl _⟩ (fun v i r q h => ?_)
  obtain ⟨rfl, rfl, h⟩ := h
  refine pw_i2l dL_mill_8 ?_
  refine g_last (k := 247) dL_mill_9 kdU vin01 ?_
  refine pw_goto 21 dL_mill_10 (by decide) ?_
  refine pw_iconst (0) dL_mill_21 (by decide) ?_
  refine pw_iret dL_mill_22 rfl ?_
  exact ⟨rfl, rfl, rfl, h⟩
set_option maxHeartbeats 4000000 in
set_option maxRecDepth 100000 in
theorem HX_mill_1 {l : Launch} (hlt : l.stackTraces = false) {im : TI} {rm : TP} {lm : TL} {a1 a2 : Int32} {Xc : TX} (hC : Con l m_X4_mill 9 1 6 NN [pv (some 0), .int a1, .int a2] im rm lm (QG (fun _ _ _ _ => False)) Xc) (hE : ∀ E a b c, Xc E a b c → E = xcI) : Con l m_L_mill 10 1 6 NN [pv (some 0), .int a1, .int a2, pv (some 247)] im rm lm (QG (fun v i r q => v = some (.int 1) ∧ Xc xcI i r q)) noX := by
  refine Con.ofH hlt (by decide +kernel) rfl rfl noXe (by rw [en1 pv_cat, en1 rfl, en1 rfl, en1 pv_cat, en0]; exact Nat.le_of_ble_eq_true rfl) (PW.pad (k := 1) (L0 := [some (pv (some 0)), some (.int a1), some (.int a2), some (pv (some 247)), none]) (by rw [en1 pv_cat, en1 rfl, en1 rfl, en1 pv_cat, en0]; rfl) ?_)
  refine t_aload3 dL_mill_0 ?_
  refine pw_iconst (0) dL_mill_1 (by decide) ?_
  refine t_aload0 dL_mill_2 ?_
  refine t_iload1 dL_mill_3 ?_
  refine t_iload2 dL_mill_4 ?_
  refine g_catch (as := [.int a1, .int a2]) (b := 0) (rest := [.int 0, pv (some 247)]) (E0 := xcI) (hp := []) (x := (0, 10, 13, 13)) (hs := [(0, 10, 17, 15)]) (h := 13) (k := 4) (sz := 2) rfl hC rfl ft4 rfl mc_X4_mill ml_L_55 mi_X4_mill ms_X4_mill in_X4 (okc_X4_mill (by decide)) dL_mill_5 kdT (by exact Nat.le_of_ble_eq_true rfl) hE (by decide) rfl (fun z hz => by cases hz) ⟨by decide, by decide, rfl, by decide⟩ cl_L_13 (Or.inl ⟨dL_mill_13, rfl⟩) (by decide) (hp_of okp_r rfl) (fun i r q hx => ?_)
  refine pw_iconst (1) dL_mill_15 (by decide) ?_
  refine pw_iret dL_mill_16 rfl ?_
  exact ⟨rfl, rfl, hx⟩
set_option maxHeartbeats 4000000 in
set_option maxRecDepth 100000 in
theorem HX_mill_2 {l : Launch} (hlt : l.stackTraces = false) {im : TI} {rm : TP} {lm : TL} {a1 a2 : Int32} {Xc : TX} (hC : Con l m_X4_mill 9 1 6 NN [pv (some 0), .int a1, .int a2] im rm lm (QG (fun _ _ _ _ => False)) Xc) (hE : ∀ E a b c, Xc E a b c → E = xcA) : Con l m_L_mill 10 1 6 NN [pv (some 0), .int a1, .int a2, pv (some 247)] im rm lm (QG (fun v i r q => v = some (.int 2) ∧ Xc xcA i r q)) noX := by
  refine Con.ofH hlt (by decide +kernel) rfl rfl noXe (by rw [en1 pv_cat, en1 rfl, en1 rfl, en1 pv_cat, en0]; exact Nat.le_of_ble_eq_true rfl) (PW.pad (k := 1) (L0 := [some (pv (some 0)), some (.int a1), some (.int a2), some (pv (some 247)), none]) (by rw [en1 pv_cat, en1 rfl, en1 rfl, en1 pv_cat, en0]; rfl) ?_)
  refine t_aload3 dL_mill_0 ?_
  refine pw_iconst (0) dL_mill_1 (by decide) ?_
  refine t_aload0 dL_mill_2 ?_
  refine t_iload1 dL_mill_3 ?_
  refine t_iload2 dL_mill_4 ?_
  refine g_catch (as := [.int a1, .int a2]) (b := 0) (rest := [.int 0, pv (some 247)]) (E0 := xcA) (hp := [(0, 10, 13, 13)]) (x := (0, 10, 17, 15)) (hs := []) (h := 17) (k := 4) (sz := 2) rfl hC rfl ft4 rfl mc_X4_mill ml_L_55 mi_X4_mill ms_X4_mill in_X4 (okc_X4_mill (by decide)) dL_mill_5 kdT (by exact Nat.le_of_ble_eq_true rfl) hE (by decide) rfl (fun z hz => by obtain rfl := List.mem_singleton.mp hz; exact ⟨by decide, xcI, by decide, by decide, cl_L_13⟩) ⟨by decide, by decide, rfl, by decide⟩ cl_L_15 (Or.inl ⟨dL_mill_17, rfl⟩) (by decide) (hp_of okp_r rfl) (fun i r q hx => ?_)
  refine pw_iconst (2) dL_mill_19 (by decide) ?_
  refine pw_iret dL_mill_20 rfl ?_
  exact ⟨rfl, rfl, hx⟩
set_option maxHeartbeats 4000000 in
set_option maxRecDepth 100000 in
theorem H_sackAt {l : Launch} (hlt : l.stackTraces = false) {im : TI} {rm : TP} {lm : TL} {a1 a2 : Int32} {x : Int32} {Φ : TI → TP → Prop} (hC : Con l m_X4_sackAt 9 0 0 NN [pv (some 0), .int a1, .int a2] im rm lm (QG (fun v i r q => v = some (.int x) ∧ q = lm ∧ Φ i r)) noX) : Con l m_L_sackAt 10 0 0 NN [pv (some 0), .int a1, .int a2, pv (some 247)] im rm lm (QG (fun v i r q => v = some (.int 0) ∧ q = ul lm 247 0 x.toInt64 ∧ Φ i r)) noX := by
  refine Con.ofH hlt (by decide +kernel) rfl rfl noXe (by rw [en1 pv_cat, en1 rfl, en1 rfl, en1 pv_cat, en0]; exact Nat.le_of_ble_eq_true rfl) (PW.pad (k := 1) (L0 := [some (pv (some 0)), some (.int a1), some (.int a2), some (pv (some 247)), none]) (by rw [en1 pv_cat, en1 rfl, en1 rfl, en1 pv_cat, en0]; rfl) ?_)
  refine t_aload3 dL_sackAt_0 ?_
  refine pw_iconst (0) dL_sackAt_1 (by decide) ?_
  refine t_aload0 dL_sackAt_2 ?_
  refine t_iload1 dL_sackAt_3 ?_
  refine t_iload2 dL_sackAt_4 ?_
  refine g_callV2G hC rfl ft4 rfl mc_X4_sackAt ml_L_58 mi_X4_sackAt ms_X4_sackAt in_X4 (okc_X4_sackAt (by decide)) dL_sackAt_5 kdT (by exact Nat.le_of_ble_eq_true rfl) (fun _ _ _ _ h => h.elim) ⟨Nat.le_refl _, Nat.le_refl _⟩ (fun v i r q h => ?_)
  obtain ⟨rfl, rfl, h⟩ := h
  refine pw_i2l dL_sackAt_8 ?_
  refine g_last (k := 247) dL_sackAt_9 kdU vin01 ?_
  refine pw_goto 21 dL_sackAt_10 (by decide) ?_
  refine pw_iconst (0) dL_sackAt_21 (by decide) ?_
  refine pw_iret dL_sackAt_22 rfl ?_
  exact ⟨rfl, rfl, rfl, h⟩
set_option maxHeartbeats 4000000 in
set_option maxRecDepth 100000 in
theorem HX_sackAt_1 {l : Launch} (hlt : l.stackTraces = false) {im : TI} {rm : TP} {lm : TL} {a1 a2 : Int32} {Xc : TX} (hC : Con l m_X4_sackAt 9 1 6 NN [pv (some 0), .int a1, .int a2] im rm lm (QG (fun _ _ _ _ => False)) Xc) (hE : ∀ E a b c, Xc E a b c → E = xcI) : Con l m_L_sackAt 10 1 6 NN [pv (some 0), .int a1, .int a2, pv (some 247)] im rm lm (QG (fun v i r q => v = some (.int 1) ∧ Xc xcI i r q)) noX := by
  refine Con.ofH hlt (by decide +kernel) rfl rfl noXe (by rw [en1 pv_cat, en1 rfl, en1 rfl, en1 pv_cat, en0]; exact Nat.le_of_ble_eq_true rfl) (PW.pad (k := 1) (L0 := [some (pv (some 0)), some (.int a1), some (.int a2), some (pv (some 247)), none]) (by rw [en1 pv_cat, en1 rfl, en1 rfl, en1 pv_cat, en0]; rfl) ?_)
  refine t_aload3 dL_sackAt_0 ?_
  refine pw_iconst (0) dL_sackAt_1 (by decide) ?_
  refine t_aload0 dL_sackAt_2 ?_
  refine t_iload1 dL_sackAt_3 ?_
  refine t_iload2 dL_sackAt_4 ?_
  refine g_catch (as := [.int a1, .int a2]) (b := 0) (rest := [.int 0, pv (some 247)]) (E0 := xcI) (hp := []) (x := (0, 10, 13, 13)) (hs := [(0, 10, 17, 15)]) (h := 13) (k := 4) (sz := 2) rfl hC rfl ft4 rfl mc_X4_sackAt ml_L_58 mi_X4_sackAt ms_X4_sackAt in_X4 (okc_X4_sackAt (by decide)) dL_sackAt_5 kdT (by exact Nat.le_of_ble_eq_true rfl) hE (by decide) rfl (fun z hz => by cases hz) ⟨by decide, by decide, rfl, by decide⟩ cl_L_13 (Or.inl ⟨dL_sackAt_13, rfl⟩) (by decide) (hp_of okp_r rfl) (fun i r q hx => ?_)
  refine pw_iconst (1) dL_sackAt_15 (by decide) ?_
  refine pw_iret dL_sackAt_16 rfl ?_
  exact ⟨rfl, rfl, hx⟩
set_option maxHeartbeats 4000000 in
set_option maxRecDepth 100000 in
theorem HX_sackAt_2 {l : Launch} (hlt : l.stackTraces = false) {im : TI} {rm : TP} {lm : TL} {a1 a2 : Int32} {Xc : TX} (hC : Con l m_X4_sackAt 9 1 6 NN [pv (some 0), .int a1, .int a2] im rm lm (QG (fun _ _ _ _ => False)) Xc) (hE : ∀ E a b c, Xc E a b c → E = xcA) : Con l m_L_sackAt 10 1 6 NN [pv (some 0), .int a1, .int a2, pv (some 247)] im rm lm (QG (fun v i r q => v = some (.int 2) ∧ Xc xcA i r q)) noX := by
  refine Con.ofH hlt (by decide +kernel) rfl rfl noXe (by rw [en1 pv_cat, en1 rfl, en1 rfl, en1 pv_cat, en0]; exact Nat.le_of_ble_eq_true rfl) (PW.pad (k := 1) (L0 := [some (pv (some 0)), some (.int a1), some (.int a2), some (pv (some 247)), none]) (by rw [en1 pv_cat, en1 rfl, en1 rfl, en1 pv_cat, en0]; rfl) ?_)
  refine t_aload3 dL_sackAt_0 ?_
  refine pw_iconst (0) dL_sackAt_1 (by decide) ?_
  refine t_aload0 dL_sackAt_2 ?_
  refine t_iload1 dL_sackAt_3 ?_
  refine t_iload2 dL_sackAt_4 ?_
  refine g_catch (as := [.int a1, .int a2]) (b := 0) (rest := [.int 0, pv (some 247)]) (E0 := xcA) (hp := [(0, 10, 13, 13)]) (x := (0, 10, 17, 15)) (hs := []) (h := 17) (k := 4) (sz := 2) rfl hC rfl ft4 rfl mc_X4_sackAt ml_L_58 mi_X4_sackAt ms_X4_sackAt in_X4 (okc_X4_sackAt (by decide)) dL_sackAt_5 kdT (by exact Nat.le_of_ble_eq_true rfl) hE (by decide) rfl (fun z hz => by obtain rfl := List.mem_singleton.mp hz; exact ⟨by decide, xcI, by decide, by decide, cl_L_13⟩) ⟨by decide, by decide, rfl, by decide⟩ cl_L_15 (Or.inl ⟨dL_sackAt_17, rfl⟩) (by decide) (hp_of okp_r rfl) (fun i r q hx => ?_)
  refine pw_iconst (2) dL_sackAt_19 (by decide) ?_
  refine pw_iret dL_sackAt_20 rfl ?_
  exact ⟨rfl, rfl, hx⟩
set_option maxHeartbeats 4000000 in
set_option maxRecDepth 100000 in
theorem H_sackOf {l : Launch} (hlt : l.stackTraces = false) {im : TI} {rm : TP} {lm : TL} {a1 a2 : Int32} {x : Int32} {Φ : TI → TP → Prop} (hC : Con l m_X4_sackOf 9 0 0 NN [pv (some 0), .int a1, .int a2] im rm lm (QG (fun v i r q => v = some (.int x) ∧ q = lm ∧ Φ i r)) noX) : Con l m_L_sackOf 10 0 0 NN [pv (some 0), .int a1, .int a2, pv (some 247)] im rm lm (QG (fun v i r q => v = some (.int 0) ∧ q = ul lm 247 0 x.toInt64 ∧ Φ i r)) noX := by
  refine Con.ofH hlt (by decide +kernel) rfl rfl noXe (by rw [en1 pv_cat, en1 rfl, en1 rfl, en1 pv_cat, en0]; exact Nat.le_of_ble_eq_true rfl) (PW.pad (k := 1) (L0 := [some (pv (some 0)), some (.int a1), some (.int a2), some (pv (some 247)), none]) (by rw [en1 pv_cat, en1 rfl, en1 rfl, en1 pv_cat, en0]; rfl) ?_)
  refine t_aload3 dL_sackOf_0 ?_
  refine pw_iconst (0) dL_sackOf_1 (by decide) ?_
  refine t_aload0 dL_sackOf_2 ?_
  refine t_iload1 dL_sackOf_3 ?_
  refine t_iload2 dL_sackOf_4 ?_
  refine g_callV2G hC rfl ft4 rfl mc_X4_sackOf ml_L_61 mi_X4_sackOf ms_X4_sackOf in_X4 (okc_X4_sackOf (by decide)) dL_sackOf_5 kdT (by exact Nat.le_of_ble_eq_true rfl) (fun _ _ _ _ h => h.elim) ⟨Nat.le_refl _, Nat.le_refl _⟩ (fun v i r q h => ?_)
  obtain ⟨rfl, rfl, h⟩ := h
  refine pw_i2l dL_sackOf_8 ?_
  refine g_last (k := 247) dL_sackOf_9 kdU vin01 ?_
  refine pw_goto 17 dL_sackOf_10 (by decide) ?_
  refine pw_iconst (0) dL_sackOf_17 (by decide) ?_
  refine pw_iret dL_sackOf_18 rfl ?_
  exact ⟨rfl, rfl, rfl, h⟩
set_option maxHeartbeats 4000000 in
set_option maxRecDepth 100000 in
theorem HX_sackOf_1 {l : Launch} (hlt : l.stackTraces = false) {im : TI} {rm : TP} {lm : TL} {a1 a2 : Int32} {Xc : TX} (hC : Con l m_X4_sackOf 9 1 6 NN [pv (some 0), .int a1, .int a2] im rm lm (QG (fun _ _ _ _ => False)) Xc) (hE : ∀ E a b c, Xc E a b c → E = xcA) : Con l m_L_sackOf 10 1 6 NN [pv (some 0), .int a1, .int a2, pv (some 247)] im rm lm (QG (fun v i r q => v = some (.int 1) ∧ Xc xcA i r q)) noX := by
  refine Con.ofH hlt (by decide +kernel) rfl rfl noXe (by rw [en1 pv_cat, en1 rfl, en1 rfl, en1 pv_cat, en0]; exact Nat.le_of_ble_eq_true rfl) (PW.pad (k := 1) (L0 := [some (pv (some 0)), some (.int a1), some (.int a2), some (pv (some 247)), none]) (by rw [en1 pv_cat, en1 rfl, en1 rfl, en1 pv_cat, en0]; rfl) ?_)
  refine t_aload3 dL_sackOf_0 ?_
  refine pw_iconst (0) dL_sackOf_1 (by decide) ?_
  refine t_aload0 dL_sackOf_2 ?_
  refine t_iload1 dL_sackOf_3 ?_
  refine t_iload2 dL_sackOf_4 ?_
  refine g_catch (as := [.int a1, .int a2]) (b := 0) (rest := [.int 0, pv (some 247)]) (E0 := xcA) (hp := []) (x := (0, 10, 13, 15)) (hs := []) (h := 13) (k := 4) (sz := 2) rfl hC rfl ft4 rfl mc_X4_sackOf ml_L_61 mi_X4_sackOf ms_X4_sackOf in_X4 (okc_X4_sackOf (by decide)) dL_sackOf_5 kdT (by exact Nat.le_of_ble_eq_true rfl) hE (by decide) rfl (fun z hz => by cases hz) ⟨by decide, by decide, rfl, by decide⟩ cl_L_15 (Or.inl ⟨dL_sackOf_13, rfl⟩) (by decide) (hp_of okp_r rfl) (fun i r q hx => ?_)
  refine pw_iconst (1) dL_sackOf_15 (by decide) ?_
  refine pw_iret dL_sackOf_16 rfl ?_
  exact ⟨rfl, rfl, hx⟩
set_option maxHeartbeats 4000000 in
set_option maxRecDepth 100000 in
theorem H_whyNot {l : Launch} (hlt : l.stackTraces = false) {im : TI} {rm : TP} {lm : TL} {a1 : Int32} {x : Int32} {Φ : TI → TP → Prop} (hC : Con l m_X4_whyNot 9 0 0 NN [pv (some 0), .int a1] im rm lm (QG (fun v i r q => v = some (.int x) ∧ q = lm ∧ Φ i r)) noX) : Con l m_L_whyNot 10 0 0 NN [pv (some 0), .int a1, pv (some 247)] im rm lm (QG (fun v i r q => v = some (.int 0) ∧ q = ul lm 247 0 x.toInt64 ∧ Φ i r)) noX := by
  refine Con.ofH hlt (by decide +kernel) rfl rfl noXe (by rw [en1 pv_cat, en1 rfl, en1 pv_cat, en0]; exact Nat.le_of_ble_eq_true rfl) (PW.pad (k := 1) (L0 := [some (pv (some 0)), some (.int a1), some (pv (some 247)), none]) (by rw [en1 pv_cat, en1 rfl, en1 pv_cat, en0]; rfl) ?_)
  refine t_aload2 dL_whyNot_0 ?_
  refine pw_iconst (0) dL_whyNot_1 (by decide) ?_
  refine t_aload0 dL_whyNot_2 ?_
  refine t_iload1 dL_whyNot_3 ?_
  refine g_callV1G hC rfl ft4 rfl mc_X4_whyNot ml_L_64 mi_X4_whyNot ms_X4_whyNot in_X4 (okc_X4_whyNot (by decide)) dL_whyNot_4 kdT (by exact Nat.le_of_ble_eq_true rfl) (fun _ _ _ _ h => h.elim) ⟨Nat.le_refl _, Nat.le_refl _⟩ (fun v i r q h => ?_)
  obtain ⟨rfl, rfl, h⟩ := h
  refine pw_i2l dL_whyNot_7 ?_
  refine g_last (k := 247) dL_whyNot_8 kdU vin01 ?_
  refine pw_goto 15 dL_whyNot_9 (by decide) ?_
  refine pw_iconst (0) dL_whyNot_15 (by decide) ?_
  refine pw_iret dL_whyNot_16 rfl ?_
  exact ⟨rfl, rfl, rfl, h⟩
set_option maxHeartbeats 4000000 in
set_option maxRecDepth 100000 in
theorem HX_whyNot_1 {l : Launch} (hlt : l.stackTraces = false) {im : TI} {rm : TP} {lm : TL} {a1 : Int32} {Xc : TX} (hC : Con l m_X4_whyNot 9 1 6 NN [pv (some 0), .int a1] im rm lm (QG (fun _ _ _ _ => False)) Xc) (hE : ∀ E a b c, Xc E a b c → E = xcI) : Con l m_L_whyNot 10 1 6 NN [pv (some 0), .int a1, pv (some 247)] im rm lm (QG (fun v i r q => v = some (.int 1) ∧ Xc xcI i r q)) noX := by
  refine Con.ofH hlt (by decide +kernel) rfl rfl noXe (by rw [en1 pv_cat, en1 rfl, en1 pv_cat, en0]; exact Nat.le_of_ble_eq_true rfl) (PW.pad (k := 1) (L0 := [some (pv (some 0)), some (.int a1), some (pv (some 247)), none]) (by rw [en1 pv_cat, en1 rfl, en1 pv_cat, en0]; rfl) ?_)
  refine t_aload2 dL_whyNot_0 ?_
  refine pw_iconst (0) dL_whyNot_1 (by decide) ?_
  refine t_aload0 dL_whyNot_2 ?_
  refine t_iload1 dL_whyNot_3 ?_
  refine g_catch (as := [.int a1]) (b := 0) (rest := [.int 0, pv (some 247)]) (E0 := xcI) (hp := []) (x := (0, 9, 12, 13)) (hs := []) (h := 12) (k := 3) (sz := 1) rfl hC rfl ft4 rfl mc_X4_whyNot ml_L_64 mi_X4_whyNot ms_X4_whyNot in_X4 (okc_X4_whyNot (by decide)) dL_whyNot_4 kdT (by exact Nat.le_of_ble_eq_true rfl) hE (by decide) rfl (fun z hz => by cases hz) ⟨by decide, by decide, rfl, by decide⟩ cl_L_13 (Or.inr ⟨⟨3, by decide⟩, dL_whyNot_12, rfl, rfl⟩) (by decide) (hp_of okp_r rfl) (fun i r q hx => ?_)
  refine pw_iconst (1) dL_whyNot_13 (by decide) ?_
  refine pw_iret dL_whyNot_14 rfl ?_
  exact ⟨rfl, rfl, hx⟩
set_option maxHeartbeats 4000000 in
set_option maxRecDepth 100000 in
theorem H_tide {l : Launch} (hlt : l.stackTraces = false) {im : TI} {rm : TP} {lm : TL} {a1 : Int32} {x : Int32} {Φ : TI → TP → Prop} (hC : Con l m_X4_tide 9 0 0 NN [pv (some 0), .int a1] im rm lm (QG (fun v i r q => v = some (.int x) ∧ q = lm ∧ Φ i r)) noX) : Con l m_L_tide 10 0 0 NN [pv (some 0), .int a1, pv (some 247)] im rm lm (QG (fun v i r q => v = some (.int 0) ∧ q = ul lm 247 0 x.toInt64 ∧ Φ i r)) noX := by
  refine Con.ofH hlt (by decide +kernel) rfl rfl noXe (by rw [en1 pv_cat, en1 rfl, en1 pv_cat, en0]; exact Nat.le_of_ble_eq_true rfl) (PW.pad (k := 1) (L0 := [some (pv (some 0)), some (.int a1), some (pv (some 247)), none]) (by rw [en1 pv_cat, en1 rfl, en1 pv_cat, en0]; rfl) ?_)
  refine t_aload2 dL_tide_0 ?_
  refine pw_iconst (0) dL_tide_1 (by decide) ?_
  refine t_aload0 dL_tide_2 ?_
  refine t_iload1 dL_tide_3 ?_
  refine g_callV1G hC rfl ft4 rfl mc_X4_tide ml_L_67 mi_X4_tide ms_X4_tide in_X4 (okc_X4_tide (by decide)) dL_tide_4 kdT (by exact Nat.le_of_ble_eq_true rfl) (fun _ _ _ _ h => h.elim) ⟨Nat.le_refl _, Nat.le_refl _⟩ (fun v i r q h => ?_)
  obtain ⟨rfl, rfl, h⟩ := h
  refine pw_i2l dL_tide_7 ?_
  refine g_last (k := 247) dL_tide_8 kdU vin01 ?_
  refine pw_goto 15 dL_tide_9 (by decide) ?_
  refine pw_iconst (0) dL_tide_15 (by decide) ?_
  refine pw_iret dL_tide_16 rfl ?_
  exact ⟨rfl, rfl, rfl, h⟩
set_option maxHeartbeats 4000000 in
set_option maxRecDepth 100000 in
theorem HX_tide_1 {l : Launch} (hlt : l.stackTraces = false) {im : TI} {rm : TP} {lm : TL} {a1 : Int32} {Xc : TX} (hC : Con l m_X4_tide 9 1 6 NN [pv (some 0), .int a1] im rm lm (QG (fun _ _ _ _ => False)) Xc) (hE : ∀ E a b c, Xc E a b c → E = xcA) : Con l m_L_tide 10 1 6 NN [pv (some 0), .int a1, pv (some 247)] im rm lm (QG (fun v i r q => v = some (.int 1) ∧ Xc xcA i r q)) noX := by
  refine Con.ofH hlt (by decide +kernel) rfl rfl noXe (by rw [en1 pv_cat, en1 rfl, en1 pv_cat, en0]; exact Nat.le_of_ble_eq_true rfl) (PW.pad (k := 1) (L0 := [some (pv (some 0)), some (.int a1), some (pv (some 247)), none]) (by rw [en1 pv_cat, en1 rfl, en1 pv_cat, en0]; rfl) ?_)
  refine t_aload2 dL_tide_0 ?_
  refine pw_iconst (0) dL_tide_1 (by decide) ?_
  refine t_aload0 dL_tide_2 ?_
  refine t_iload1 dL_tide_3 ?_
  refine g_catch (as := [.int a1]) (b := 0) (rest := [.int 0, pv (some 247)]) (E0 := xcA) (hp := []) (x := (0, 9, 12, 15)) (hs := []) (h := 12) (k := 3) (sz := 1) rfl hC rfl ft4 rfl mc_X4_tide ml_L_67 mi_X4_tide ms_X4_tide in_X4 (okc_X4_tide (by decide)) dL_tide_4 kdT (by exact Nat.le_of_ble_eq_true rfl) hE (by decide) rfl (fun z hz => by cases hz) ⟨by decide, by decide, rfl, by decide⟩ cl_L_15 (Or.inr ⟨⟨3, by decide⟩, dL_tide_12, rfl, rfl⟩) (by decide) (hp_of okp_r rfl) (fun i r q hx => ?_)
  refine pw_iconst (1) dL_tide_13 (by decide) ?_
  refine pw_iret dL_tide_14 rfl ?_
  exact ⟨rfl, rfl, hx⟩
set_option maxHeartbeats 4000000 in
set_option maxRecDepth 100000 in
theorem H_count {l : Launch} (hlt : l.stackTraces = false) {im : TI} {rm : TP} {lm : TL} {a1 : Int32} {x : Int32} {Φ : TI → TP → Prop} (hC : Con l m_X4_count 9 0 0 NN [pv (some 0), .int a1] im rm lm (QG (fun v i r q => v = some (.int x) ∧ q = lm ∧ Φ i r)) noX) : Con l m_L_count 10 0 0 NN [pv (some 0), .int a1, pv (some 247)] im rm lm (QG (fun v i r q => v = some (.int 0) ∧ q = ul lm 247 0 x.toInt64 ∧ Φ i r)) noX := by
  refine Con.ofH hlt (by decide +kernel) rfl rfl noXe (by rw [en1 pv_cat, en1 rfl, en1 pv_cat, en0]; exact Nat.le_of_ble_eq_true rfl) (PW.pad (k := 1) (L0 := [some (pv (some 0)), some (.int a1), some (pv (some 247)), none]) (by rw [en1 pv_cat, en1 rfl, en1 pv_cat, en0]; rfl) ?_)
  refine t_aload2 dL_count_0 ?_
  refine pw_iconst (0) dL_count_1 (by decide) ?_
  refine t_aload0 dL_count_2 ?_
  refine t_iload1 dL_count_3 ?_
  refine g_callV1G hC rfl ft4 rfl mc_X4_count ml_L_70 mi_X4_count ms_X4_count in_X4 (okc_X4_count (by decide)) dL_count_4 kdT (by exact Nat.le_of_ble_eq_true rfl) (fun _ _ _ _ h => h.elim) ⟨Nat.le_refl _, Nat.le_refl _⟩ (fun v i r q h => ?_)
  obtain ⟨rfl, rfl, h⟩ := h
  refine pw_i2l dL_count_7 ?_
  refine g_last (k := 247) dL_count_8 kdU vin01 ?_
  refine pw_goto 15 dL_count_9 (by decide) ?_
  refine pw_iconst (0) dL_count_15 (by decide) ?_
  refine pw_iret dL_count_16 rfl ?_
  exact ⟨rfl, rfl, rfl, h⟩
set_option maxHeartbeats 4000000 in
set_option maxRecDepth 100000 in
theorem HX_count_1 {l : Launch} (hlt : l.stackTraces = false) {im : TI} {rm : TP} {lm : TL} {a1 : Int32} {Xc : TX} (hC : Con l m_X4_count 9 1 6 NN [pv (some 0), .int a1] im rm lm (QG (fun _ _ _ _ => False)) Xc) (hE : ∀ E a b c, Xc E a b c → E = xcA) : Con l m_L_count 10 1 6 NN [pv (some 0), .int a1, pv (some 247)] im rm lm (QG (fun v i r q => v = some (.int 1) ∧ Xc xcA i r q)) noX := by
  refine Con.ofH hlt (by decide +kernel) rfl rfl noXe (by rw [en1 pv_cat, en1 rfl, en1 pv_cat, en0]; exact Nat.le_of_ble_eq_true rfl) (PW.pad (k := 1) (L0 := [some (pv (some 0)), some (.int a1), some (pv (some 247)), none]) (by rw [en1 pv_cat, en1 rfl, en1 pv_cat, en0]; rfl) ?_)
  refine t_aload2 dL_count_0 ?_
  refine pw_iconst (0) dL_count_1 (by decide) ?_
  refine t_aload0 dL_count_2 ?_
  refine t_iload1 dL_count_3 ?_
  refine g_catch (as := [.int a1]) (b := 0) (rest := [.int 0, pv (some 247)]) (E0 := xcA) (hp := []) (x := (0, 9, 12, 15)) (hs := []) (h := 12) (k := 3) (sz := 1) rfl hC rfl ft4 rfl mc_X4_count ml_L_70 mi_X4_count ms_X4_count in_X4 (okc_X4_count (by decide)) dL_count_4 kdT (by exact Nat.le_of_ble_eq_true rfl) hE (by decide) rfl (fun z hz => by cases hz) ⟨by decide, by decide, rfl, by decide⟩ cl_L_15 (Or.inr ⟨⟨3, by decide⟩, dL_count_12, rfl, rfl⟩) (by decide) (hp_of okp_r rfl) (fun i r q hx => ?_)
  refine pw_iconst (1) dL_count_13 (by decide) ?_
  refine pw_iret dL_count_14 rfl ?_
  exact ⟨rfl, rfl, hx⟩
set_option maxHeartbeats 4000000 in
set_option maxRecDepth 100000 in
theorem H_next {l : Launch} (hlt : l.stackTraces = false) {im : TI} {rm : TP} {lm : TL} {a1 : Int32} {x : Int32} {Φ : TI → TP → Prop} (hC : Con l m_X4_next 9 0 0 NN [pv (some 0), .int a1] im rm lm (QG (fun v i r q => v = some (.int x) ∧ q = lm ∧ Φ i r)) noX) : Con l m_L_next 10 0 0 NN [pv (some 0), .int a1, pv (some 247)] im rm lm (QG (fun v i r q => v = some (.int 0) ∧ q = ul lm 247 0 x.toInt64 ∧ Φ i r)) noX := by
  refine Con.ofH hlt (by decide +kernel) rfl rfl noXe (by rw [en1 pv_cat, en1 rfl, en1 pv_cat, en0]; exact Nat.le_of_ble_eq_true rfl) (PW.pad (k := 1) (L0 := [some (pv (some 0)), some (.int a1), some (pv (some 247)), none]) (by rw [en1 pv_cat, en1 rfl, en1 pv_cat, en0]; rfl) ?_)
  refine t_aload2 dL_next_0 ?_
  refine pw_iconst (0) dL_next_1 (by decide) ?_
  refine t_aload0 dL_next_2 ?_
  refine t_iload1 dL_next_3 ?_
  refine g_callV1G hC rfl ft4 rfl mc_X4_next ml_L_73 mi_X4_next ms_X4_next in_X4 (okc_X4_next (by decide)) dL_next_4 kdT (by exact Nat.le_of_ble_eq_true rfl) (fun _ _ _ _ h => h.elim) ⟨Nat.le_refl _, Nat.le_refl _⟩ (fun v i r q h => ?_)
  obtain ⟨rfl, rfl, h⟩ := h
  refine pw_i2l dL_next_7 ?_
  refine g_last (k := 247) dL_next_8 kdU vin01 ?_
  refine pw_goto 15 dL_next_9 (by decide) ?_
  refine pw_iconst (0) dL_next_15 (by decide) ?_
  refine pw_iret dL_next_16 rfl ?_
  exact ⟨rfl, rfl, rfl, h⟩
set_option maxHeartbeats 4000000 in
set_option maxRecDepth 100000 in
theorem HX_next_1 {l : Launch} (hlt : l.stackTraces = false) {im : TI} {rm : TP} {lm : TL} {a1 : Int32} {Xc : TX} (hC : Con l m_X4_next 9 1 6 NN [pv (some 0), .int a1] im rm lm (QG (fun _ _ _ _ => False)) Xc) (hE : ∀ E a b c, Xc E a b c → E = xcA) : Con l m_L_next 10 1 6 NN [pv (some 0), .int a1, pv (some 247)] im rm lm (QG (fun v i r q => v = some (.int 1) ∧ Xc xcA i r q)) noX := by
  refine Con.ofH hlt (by decide +kernel) rfl rfl noXe (by rw [en1 pv_cat, en1 rfl, en1 pv_cat, en0]; exact Nat.le_of_ble_eq_true rfl) (PW.pad (k := 1) (L0 := [some (pv (some 0)), some (.int a1), some (pv (some 247)), none]) (by rw [en1 pv_cat, en1 rfl, en1 pv_cat, en0]; rfl) ?_)
  refine t_aload2 dL_next_0 ?_
  refine pw_iconst (0) dL_next_1 (by decide) ?_
  refine t_aload0 dL_next_2 ?_
  refine t_iload1 dL_next_3 ?_
  refine g_catch (as := [.int a1]) (b := 0) (rest := [.int 0, pv (some 247)]) (E0 := xcA) (hp := []) (x := (0, 9, 12, 15)) (hs := []) (h := 12) (k := 3) (sz := 1) rfl hC rfl ft4 rfl mc_X4_next ml_L_73 mi_X4_next ms_X4_next in_X4 (okc_X4_next (by decide)) dL_next_4 kdT (by exact Nat.le_of_ble_eq_true rfl) hE (by decide) rfl (fun z hz => by cases hz) ⟨by decide, by decide, rfl, by decide⟩ cl_L_15 (Or.inr ⟨⟨3, by decide⟩, dL_next_12, rfl, rfl⟩) (by decide) (hp_of okp_r rfl) (fun i r q hx => ?_)
  refine pw_iconst (1) dL_next_13 (by decide) ?_
  refine pw_iret dL_next_14 rfl ?_
  exact ⟨rfl, rfl, hx⟩
set_option maxHeartbeats 4000000 in
set_option maxRecDepth 100000 in
theorem H_ifPassed {l : Launch} (hlt : l.stackTraces = false) {im : TI} {rm : TP} {lm : TL} {a1 a2 : Int32} {x : Int32} {Φ : TI → TP → Prop} (hC : Con l m_X4_ifPassed 9 0 0 NN [pv (some 0), .int a1, .int a2] im rm lm (QG (fun v i r q => v = some (.int x) ∧ q = lm ∧ Φ i r)) noX) : Con l m_L_ifPassed 10 0 0 NN [pv (some 0), .int a1, .int a2, pv (some 247)] im rm lm (QG (fun v i r q => v = some (.int 0) ∧ q = ul lm 247 0 x.toInt64 ∧ Φ i r)) noX := by
  refine Con.ofH hlt (by decide +kernel) rfl rfl noXe (by rw [en1 pv_cat, en1 rfl, en1 rfl, en1 pv_cat, en0]; exact Nat.le_of_ble_eq_true rfl) (PW.pad (k := 1) (L0 := [some (pv (some 0)), some (.int a1), some (.int a2), some (pv (some 247)), none]) (by rw [en1 pv_cat, en1 rfl, en1 rfl, en1 pv_cat, en0]; rfl) ?_)
  refine t_aload3 dL_ifPassed_0 ?_
  refine pw_iconst (0) dL_ifPassed_1 (by decide) ?_
  refine t_aload0 dL_ifPassed_2 ?_
  refine t_iload1 dL_ifPassed_3 ?_
  refine t_iload2 dL_ifPassed_4 ?_
  refine g_callV2G hC rfl ft4 rfl mc_X4_ifPassed ml_L_76 mi_X4_ifPassed ms_X4_ifPassed in_X4 (okc_X4_ifPassed (by decide)) dL_ifPassed_5 kdT (by exact Nat.le_of_ble_eq_true rfl) (fun _ _ _ _ h => h.elim) ⟨Nat.le_refl _, Nat.le_refl _⟩ (fun v i r q h => ?_)
  obtain ⟨rfl, rfl, h⟩ := h
  refine pw_i2l dL_ifPassed_8 ?_
  refine g_last (k := 247) dL_ifPassed_9 kdU vin01 ?_
  refine pw_goto 17 dL_ifPassed_10 (by decide) ?_
  refine pw_iconst (0) dL_ifPassed_17 (by decide) ?_
  refine pw_iret dL_ifPassed_18 rfl ?_
  exact ⟨rfl, rfl, rfl, h⟩
set_option maxHeartbeats 4000000 in
set_option maxRecDepth 100000 in
theorem HX_ifPassed_1 {l : Launch} (hlt : l.stackTraces = false) {im : TI} {rm : TP} {lm : TL} {a1 a2 : Int32} {Xc : TX} (hC : Con l m_X4_ifPassed 9 1 6 NN [pv (some 0), .int a1, .int a2] im rm lm (QG (fun _ _ _ _ => False)) Xc) (hE : ∀ E a b c, Xc E a b c → E = xcA) : Con l m_L_ifPassed 10 1 6 NN [pv (some 0), .int a1, .int a2, pv (some 247)] im rm lm (QG (fun v i r q => v = some (.int 1) ∧ Xc xcA i r q)) noX := by
  refine Con.ofH hlt (by decide +kernel) rfl rfl noXe (by rw [en1 pv_cat, en1 rfl, en1 rfl, en1 pv_cat, en0]; exact Nat.le_of_ble_eq_true rfl) (PW.pad (k := 1) (L0 := [some (pv (some 0)), some (.int a1), some (.int a2), some (pv (some 247)), none]) (by rw [en1 pv_cat, en1 rfl, en1 rfl, en1 pv_cat, en0]; rfl) ?_)
  refine t_aload3 dL_ifPassed_0 ?_
  refine pw_iconst (0) dL_ifPassed_1 (by decide) ?_
  refine t_aload0 dL_ifPassed_2 ?_
  refine t_iload1 dL_ifPassed_3 ?_
  refine t_iload2 dL_ifPassed_4 ?_
  refine g_catch (as := [.int a1, .int a2]) (b := 0) (rest := [.int 0, pv (some 247)]) (E0 := xcA) (hp := []) (x := (0, 10, 13, 15)) (hs := []) (h := 13) (k := 4) (sz := 2) rfl hC rfl ft4 rfl mc_X4_ifPassed ml_L_76 mi_X4_ifPassed ms_X4_ifPassed in_X4 (okc_X4_ifPassed (by decide)) dL_ifPassed_5 kdT (by exact Nat.le_of_ble_eq_true rfl) hE (by decide) rfl (fun z hz => by cases hz) ⟨by decide, by decide, rfl, by decide⟩ cl_L_15 (Or.inl ⟨dL_ifPassed_13, rfl⟩) (by decide) (hp_of okp_r rfl) (fun i r q hx => ?_)
  refine pw_iconst (1) dL_ifPassed_15 (by decide) ?_
  refine pw_iret dL_ifPassed_16 rfl ?_
  exact ⟨rfl, rfl, hx⟩
set_option maxHeartbeats 4000000 in
set_option maxRecDepth 100000 in
theorem H_bestStone {l : Launch} (hlt : l.stackTraces = false) {im : TI} {rm : TP} {lm : TL} {a1 : Int32} {x : Int32} {Φ : TI → TP → Prop} (hC : Con l m_X4_bestStone 9 0 0 NN [pv (some 0), .int a1] im rm lm (QG (fun v i r q => v = some (.int x) ∧ q = lm ∧ Φ i r)) noX) : Con l m_L_bestStone 10 0 0 NN [pv (some 0), .int a1, pv (some 247)] im rm lm (QG (fun v i r q => v = some (.int 0) ∧ q = ul lm 247 0 x.toInt64 ∧ Φ i r)) noX := by
  refine Con.ofH hlt (by decide +kernel) rfl rfl noXe (by rw [en1 pv_cat, en1 rfl, en1 pv_cat, en0]; exact Nat.le_of_ble_eq_true rfl) (PW.pad (k := 1) (L0 := [some (pv (some 0)), some (.int a1), some (pv (some 247)), none]) (by rw [en1 pv_cat, en1 rfl, en1 pv_cat, en0]; rfl) ?_)
  refine t_aload2 dL_bestStone_0 ?_
  refine pw_iconst (0) dL_bestStone_1 (by decide) ?_
  refine t_aload0 dL_bestStone_2 ?_
  refine t_iload1 dL_bestStone_3 ?_
  refine g_callV1G hC rfl ft4 rfl mc_X4_bestStone ml_L_79 mi_X4_bestStone ms_X4_bestStone in_X4 (okc_X4_bestStone (by decide)) dL_bestStone_4 kdT (by exact Nat.le_of_ble_eq_true rfl) (fun _ _ _ _ h => h.elim) ⟨Nat.le_refl _, Nat.le_refl _⟩ (fun v i r q h => ?_)
  obtain ⟨rfl, rfl, h⟩ := h
  refine pw_i2l dL_bestStone_7 ?_
  refine g_last (k := 247) dL_bestStone_8 kdU vin01 ?_
  refine pw_goto 15 dL_bestStone_9 (by decide) ?_
  refine pw_iconst (0) dL_bestStone_15 (by decide) ?_
  refine pw_iret dL_bestStone_16 rfl ?_
  exact ⟨rfl, rfl, rfl, h⟩
set_option maxHeartbeats 4000000 in
set_option maxRecDepth 100000 in
theorem HX_bestStone_1 {l : Launch} (hlt : l.stackTraces = false) {im : TI} {rm : TP} {lm : TL} {a1 : Int32} {Xc : TX} (hC : Con l m_X4_bestStone 9 1 6 NN [pv (some 0), .int a1] im rm lm (QG (fun _ _ _ _ => False)) Xc) (hE : ∀ E a b c, Xc E a b c → E = xcI) : Con l m_L_bestStone 10 1 6 NN [pv (some 0), .int a1, pv (some 247)] im rm lm (QG (fun v i r q => v = some (.int 1) ∧ Xc xcI i r q)) noX := by
  refine Con.ofH hlt (by decide +kernel) rfl rfl noXe (by rw [en1 pv_cat, en1 rfl, en1 pv_cat, en0]; exact Nat.le_of_ble_eq_true rfl) (PW.pad (k := 1) (L0 := [some (pv (some 0)), some (.int a1), some (pv (some 247)), none]) (by rw [en1 pv_cat, en1 rfl, en1 pv_cat, en0]; rfl) ?_)
  refine t_aload2 dL_bestStone_0 ?_
  refine pw_iconst (0) dL_bestStone_1 (by decide) ?_
  refine t_aload0 dL_bestStone_2 ?_
  refine t_iload1 dL_bestStone_3 ?_
  refine g_catch (as := [.int a1]) (b := 0) (rest := [.int 0, pv (some 247)]) (E0 := xcI) (hp := []) (x := (0, 9, 12, 13)) (hs := []) (h := 12) (k := 3) (sz := 1) rfl hC rfl ft4 rfl mc_X4_bestStone ml_L_79 mi_X4_bestStone ms_X4_bestStone in_X4 (okc_X4_bestStone (by decide)) dL_bestStone_4 kdT (by exact Nat.le_of_ble_eq_true rfl) hE (by decide) rfl (fun z hz => by cases hz) ⟨by decide, by decide, rfl, by decide⟩ cl_L_13 (Or.inr ⟨⟨3, by decide⟩, dL_bestStone_12, rfl, rfl⟩) (by decide) (hp_of okp_r rfl) (fun i r q hx => ?_)
  refine pw_iconst (1) dL_bestStone_13 (by decide) ?_
  refine pw_iret dL_bestStone_14 rfl ?_
  exact ⟨rfl, rfl, hx⟩
