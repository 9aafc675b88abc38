/-! The law: a block for each op -/
section LAWB
variable {l : Launch} {Lx : Nat} {xs : Nat → Int32} {i : Nat} {mc ms mcc msc : Nat} {im : TI} {rm : TP} {lm : TL} {Q : TQ} {c x : Int32}
set_option maxHeartbeats 4000000 in
set_option maxRecDepth 100000 in
theorem op_pond (hlt : l.stackTraces = false) {Φ : TI → TP → TL → Prop} {Ψ : TI → TP → Prop} (hi : i + 4 ≤ Lx) (hL : Lx ≤ 2048) (hh : Con l m_L_pond 10 mcc msc NN [pv (some 0), .int (xs (i + 1)), .int (xs (i + 2)), .int (xs (i + 3)), pv (some 247)] im rm lm (QG (fun v i r q => v = some (.int c) ∧ Φ i r q)) noX)
    (hm : ∀ i1 r1 q1, Φ i1 r1 q1 → Con l m_X5_pond 9 0 0 NN [pv (some 240), .int (xs (i + 1)), .int (xs (i + 2)), .int (xs (i + 3))] i1 r1 q1 (QI (fun y i2 => i2 240 8 = c ∧ (c = 0 → q1 247 0 = y.toInt64) ∧ Ψ i2 r1) r1 q1) noX)
    (K : ∀ i2 r2 q2, Ψ i2 r2 → PW l (m_L_law Lx xs) 12 mc ms NN 1604 (LL i) [] i2 r2 q2 Q noX) : PW l (m_L_law Lx xs) 12 (mcc + mc) (msc + ms) NN 164 (LL i) [] im rm lm Q noX := by
  refine t_aload1 dL_law_164 ?_
  refine t_aload0 dL_law_165 ?_
  refine t_iload4 dL_law_166 ?_
  refine pw_iconst (1) dL_law_168 (by decide) ?_
  refine pw_iadd dL_law_169 ?_
  refine pw_sld rfl (xin (k := 1) hi hL (by decide)).1 dL_law_170 ?_
  rw [show (nI i + 1).toNatClampNeg = i + 1 from (xin (k := 1) hi hL (by decide)).2]
  refine t_aload0 dL_law_171 ?_
  refine t_iload4 dL_law_172 ?_
  refine pw_iconst (2) dL_law_174 (by decide) ?_
  refine pw_iadd dL_law_175 ?_
  refine pw_sld rfl (xin (k := 2) hi hL (by decide)).1 dL_law_176 ?_
  rw [show (nI i + 2).toNatClampNeg = i + 2 from (xin (k := 2) hi hL (by decide)).2]
  refine t_aload0 dL_law_177 ?_
  refine t_iload4 dL_law_178 ?_
  refine pw_iconst (3) dL_law_180 (by decide) ?_
  refine pw_iadd dL_law_181 ?_
  refine pw_sld rfl (xin (k := 3) hi hL (by decide)).1 dL_law_182 ?_
  rw [show (nI i + 3).toNatClampNeg = i + 3 from (xin (k := 3) hi hL (by decide)).2]
  refine t_aload3 dL_law_183 ?_
  refine pw_callSH (as := [pv (some 0), .int (xs (i + 1)), .int (xs (i + 2)), .int (xs (i + 3)), pv (some 247)]) (x := (0, 12, 15, 13)) (hs := [(0, 12, 19, 15), (0, 12, 23, 17)]) hh rfl mc_L_pond ml_L_86 mi_L_pond in_L (okc_L_pond (by decide)) dL_law_184 (by exact Nat.le_of_ble_eq_true rfl) (fun N' v i r q h => Or.inl h.1) (fun _ _ _ _ h => h.elim) (fun N1 v1 i1 r1 q1 h1 => ?_)
  obtain ⟨rfl, rfl, h1⟩ := h1
  refine t_istore5 dL_law_187 (by exact Nat.le_of_ble_eq_true rfl) okp_i ?_
  refine t_aload2 dL_law_189 ?_
  refine t_aload0 dL_law_190 ?_
  refine t_iload4 dL_law_191 ?_
  refine pw_iconst (1) dL_law_193 (by decide) ?_
  refine pw_iadd dL_law_194 ?_
  refine pw_sld rfl (xin (k := 1) hi hL (by decide)).1 dL_law_195 ?_
  rw [show (nI i + 1).toNatClampNeg = i + 1 from (xin (k := 1) hi hL (by decide)).2]
  refine t_aload0 dL_law_196 ?_
  refine t_iload4 dL_law_197 ?_
  refine pw_iconst (2) dL_law_199 (by decide) ?_
  refine pw_iadd dL_law_200 ?_
  refine pw_sld rfl (xin (k := 2) hi hL (by decide)).1 dL_law_201 ?_
  rw [show (nI i + 2).toNatClampNeg = i + 2 from (xin (k := 2) hi hL (by decide)).2]
  refine t_aload0 dL_law_202 ?_
  refine t_iload4 dL_law_203 ?_
  refine pw_iconst (3) dL_law_205 (by decide) ?_
  refine pw_iadd dL_law_206 ?_
  refine pw_sld rfl (xin (k := 3) hi hL (by decide)).1 dL_law_207 ?_
  rw [show (nI i + 3).toNatClampNeg = i + 3 from (xin (k := 3) hi hL (by decide)).2]
  refine g_callV3I (hm i1 r1 q1 h1) rfl ft5 rfl mc_X5_pond ml_L_91 mi_X5_pond ms_X5_pond in_X5 (okc_X5_pond (by decide)) dL_law_208 kdM (by exact Nat.le_of_ble_eq_true rfl) (fun y i2 h2 => ?_)
  refine t_istore6 dL_law_211 (by exact Nat.le_of_ble_eq_true rfl) okp_i ?_
  refine t_aload2 dL_law_213 ?_
  refine g_callV0P (M_thrown (l := l) hlt) rfl ft5 rfl mc_X5_thrown ml_L_92 mi_X5_thrown ms_X5_thrown in_X5 (okc_X5_thrown (by decide)) dL_law_214 kdM (by exact Nat.le_of_ble_eq_true rfl) ?_
  refine t_iload5 dL_law_217 ?_
  refine pw_icmp_eq 224 dL_law_219 (by decide) (fun _ => ?_) (fun h => absurd h2.1 h)
  refine t_iload5 dL_law_224 ?_
  refine pw_if_ne 241 dL_law_226 (by decide) (fun _ => ?_) (fun h0 => ?_)
  · refine pw_goto 1604 dL_law_241 (by decide) ?_
    exact PW.less LLless (K _ _ _ h2.2.2)
  · refine t_aload3 dL_law_229 ?_
    refine pw_iconst (0) dL_law_230 (by decide) ?_
    refine g_lald (k := 247) dL_law_231 kdU vin01 ?_
    refine t_iload6 dL_law_232 ?_
    refine pw_i2l dL_law_234 ?_
    refine pw_lcmp dL_law_235 ?_
    refine pw_if_eq 241 dL_law_236 (by decide) (fun _ => ?_) (fun h => absurd (by rw [show (0 : Int32).toNatClampNeg = 0 from rfl, h2.2.1 (Classical.not_not.mp h0)]; exact lgc) h)
    refine pw_goto 1604 dL_law_241 (by decide) ?_
    exact PW.less LLless (K _ _ _ h2.2.2)
set_option maxHeartbeats 4000000 in
set_option maxRecDepth 100000 in
theorem op_gate (hlt : l.stackTraces = false) {Φ : TI → TP → TL → Prop} {Ψ : TI → TP → Prop} (hi : i + 4 ≤ Lx) (hL : Lx ≤ 2048) (hh : Con l m_L_gate 10 mcc msc NN [pv (some 0), .int (xs (i + 1)), .int (xs (i + 2)), .int (xs (i + 3)), pv (some 247)] im rm lm (QG (fun v i r q => v = some (.int c) ∧ Φ i r q)) noX)
    (hm : ∀ i1 r1 q1, Φ i1 r1 q1 → Con l m_X5_gate 9 0 0 NN [pv (some 240), .int (xs (i + 1)), .int (xs (i + 2)), .int (xs (i + 3))] i1 r1 q1 (QI (fun y i2 => i2 240 8 = c ∧ (c = 0 → q1 247 0 = y.toInt64) ∧ Ψ i2 r1) r1 q1) noX)
    (K : ∀ i2 r2 q2, Ψ i2 r2 → PW l (m_L_law Lx xs) 12 mc ms NN 1604 (LL i) [] i2 r2 q2 Q noX) : PW l (m_L_law Lx xs) 12 (mcc + mc) (msc + ms) NN 244 (LL i) [] im rm lm Q noX := by
  refine t_aload1 dL_law_244 ?_
  refine t_aload0 dL_law_245 ?_
  refine t_iload4 dL_law_246 ?_
  refine pw_iconst (1) dL_law_248 (by decide) ?_
  refine pw_iadd dL_law_249 ?_
  refine pw_sld rfl (xin (k := 1) hi hL (by decide)).1 dL_law_250 ?_
  rw [show (nI i + 1).toNatClampNeg = i + 1 from (xin (k := 1) hi hL (by decide)).2]
  refine t_aload0 dL_law_251 ?_
  refine t_iload4 dL_law_252 ?_
  refine pw_iconst (2) dL_law_254 (by decide) ?_
  refine pw_iadd dL_law_255 ?_
  refine pw_sld rfl (xin (k := 2) hi hL (by decide)).1 dL_law_256 ?_
  rw [show (nI i + 2).toNatClampNeg = i + 2 from (xin (k := 2) hi hL (by decide)).2]
  refine t_aload0 dL_law_257 ?_
  refine t_iload4 dL_law_258 ?_
  refine pw_iconst (3) dL_law_260 (by decide) ?_
  refine pw_iadd dL_law_261 ?_
  refine pw_sld rfl (xin (k := 3) hi hL (by decide)).1 dL_law_262 ?_
  rw [show (nI i + 3).toNatClampNeg = i + 3 from (xin (k := 3) hi hL (by decide)).2]
  refine t_aload3 dL_law_263 ?_
  refine pw_callSH (as := [pv (some 0), .int (xs (i + 1)), .int (xs (i + 2)), .int (xs (i + 3)), pv (some 247)]) (x := (0, 12, 15, 13)) (hs := [(0, 12, 19, 15)]) hh rfl mc_L_gate ml_L_95 mi_L_gate in_L (okc_L_gate (by decide)) dL_law_264 (by exact Nat.le_of_ble_eq_true rfl) (fun N' v i r q h => Or.inl h.1) (fun _ _ _ _ h => h.elim) (fun N1 v1 i1 r1 q1 h1 => ?_)
  obtain ⟨rfl, rfl, h1⟩ := h1
  refine t_istore5 dL_law_267 (by exact Nat.le_of_ble_eq_true rfl) okp_i ?_
  refine t_aload2 dL_law_269 ?_
  refine t_aload0 dL_law_270 ?_
  refine t_iload4 dL_law_271 ?_
  refine pw_iconst (1) dL_law_273 (by decide) ?_
  refine pw_iadd dL_law_274 ?_
  refine pw_sld rfl (xin (k := 1) hi hL (by decide)).1 dL_law_275 ?_
  rw [show (nI i + 1).toNatClampNeg = i + 1 from (xin (k := 1) hi hL (by decide)).2]
  refine t_aload0 dL_law_276 ?_
  refine t_iload4 dL_law_277 ?_
  refine pw_iconst (2) dL_law_279 (by decide) ?_
  refine pw_iadd dL_law_280 ?_
  refine pw_sld rfl (xin (k := 2) hi hL (by decide)).1 dL_law_281 ?_
  rw [show (nI i + 2).toNatClampNeg = i + 2 from (xin (k := 2) hi hL (by decide)).2]
  refine t_aload0 dL_law_282 ?_
  refine t_iload4 dL_law_283 ?_
  refine pw_iconst (3) dL_law_285 (by decide) ?_
  refine pw_iadd dL_law_286 ?_
  refine pw_sld rfl (xin (k := 3) hi hL (by decide)).1 dL_law_287 ?_
  rw [show (nI i + 3).toNatClampNeg = i + 3 from (xin (k := 3) hi hL (by decide)).2]
  refine g_callV3I (hm i1 r1 q1 h1) rfl ft5 rfl mc_X5_gate ml_L_97 mi_X5_gate ms_X5_gate in_X5 (okc_X5_gate (by decide)) dL_law_288 kdM (by exact Nat.le_of_ble_eq_true rfl) (fun y i2 h2 => ?_)
  refine t_istore6 dL_law_291 (by exact Nat.le_of_ble_eq_true rfl) okp_i ?_
  refine t_aload2 dL_law_293 ?_
  refine g_callV0P (M_thrown (l := l) hlt) rfl ft5 rfl mc_X5_thrown ml_L_92 mi_X5_thrown ms_X5_thrown in_X5 (okc_X5_thrown (by decide)) dL_law_294 kdM (by exact Nat.le_of_ble_eq_true rfl) ?_
  refine t_iload5 dL_law_297 ?_
  refine pw_icmp_eq 304 dL_law_299 (by decide) (fun _ => ?_) (fun h => absurd h2.1 h)
  refine t_iload5 dL_law_304 ?_
  refine pw_if_ne 321 dL_law_306 (by decide) (fun _ => ?_) (fun h0 => ?_)
  · refine pw_goto 1604 dL_law_321 (by decide) ?_
    exact PW.less LLless (K _ _ _ h2.2.2)
  · refine t_aload3 dL_law_309 ?_
    refine pw_iconst (0) dL_law_310 (by decide) ?_
    refine g_lald (k := 247) dL_law_311 kdU vin01 ?_
    refine t_iload6 dL_law_312 ?_
    refine pw_i2l dL_law_314 ?_
    refine pw_lcmp dL_law_315 ?_
    refine pw_if_eq 321 dL_law_316 (by decide) (fun _ => ?_) (fun h => absurd (by rw [show (0 : Int32).toNatClampNeg = 0 from rfl, h2.2.1 (Classical.not_not.mp h0)]; exact lgc) h)
    refine pw_goto 1604 dL_law_321 (by decide) ?_
    exact PW.less LLless (K _ _ _ h2.2.2)
set_option maxHeartbeats 4000000 in
set_option maxRecDepth 100000 in
theorem op_gear (hlt : l.stackTraces = false) {Φ : TI → TP → TL → Prop} {Ψ : TI → TP → Prop} (hi : i + 4 ≤ Lx) (hL : Lx ≤ 2048) (hh : Con l m_L_gear 10 mcc msc NN [pv (some 0), .int (xs (i + 1)), .int (xs (i + 2)), .int (xs (i + 3)), pv (some 247)] im rm lm (QG (fun v i r q => v = some (.int c) ∧ Φ i r q)) noX)
    (hm : ∀ i1 r1 q1, Φ i1 r1 q1 → Con l m_X5_gear 9 0 0 NN [pv (some 240), .int (xs (i + 1)), .int (xs (i + 2)), .int (xs (i + 3))] i1 r1 q1 (QI (fun y i2 => i2 240 8 = c ∧ (c = 0 → q1 247 0 = y.toInt64) ∧ Ψ i2 r1) r1 q1) noX)
    (K : ∀ i2 r2 q2, Ψ i2 r2 → PW l (m_L_law Lx xs) 12 mc ms NN 1604 (LL i) [] i2 r2 q2 Q noX) : PW l (m_L_law Lx xs) 12 (mcc + mc) (msc + ms) NN 324 (LL i) [] im rm lm Q noX := by
  refine t_aload1 dL_law_324 ?_
  refine t_aload0 dL_law_325 ?_
  refine t_iload4 dL_law_326 ?_
  refine pw_iconst (1) dL_law_328 (by decide) ?_
  refine pw_iadd dL_law_329 ?_
  refine pw_sld rfl (xin (k := 1) hi hL (by decide)).1 dL_law_330 ?_
  rw [show (nI i + 1).toNatClampNeg = i + 1 from (xin (k := 1) hi hL (by decide)).2]
  refine t_aload0 dL_law_331 ?_
  refine t_iload4 dL_law_332 ?_
  refine pw_iconst (2) dL_law_334 (by decide) ?_
  refine pw_iadd dL_law_335 ?_
  refine pw_sld rfl (xin (k := 2) hi hL (by decide)).1 dL_law_336 ?_
  rw [show (nI i + 2).toNatClampNeg = i + 2 from (xin (k := 2) hi hL (by decide)).2]
  refine t_aload0 dL_law_337 ?_
  refine t_iload4 dL_law_338 ?_
  refine pw_iconst (3) dL_law_340 (by decide) ?_
  refine pw_iadd dL_law_341 ?_
  refine pw_sld rfl (xin (k := 3) hi hL (by decide)).1 dL_law_342 ?_
  rw [show (nI i + 3).toNatClampNeg = i + 3 from (xin (k := 3) hi hL (by decide)).2]
  refine t_aload3 dL_law_343 ?_
  refine pw_callSH (as := [pv (some 0), .int (xs (i + 1)), .int (xs (i + 2)), .int (xs (i + 3)), pv (some 247)]) (x := (0, 12, 15, 13)) (hs := [(0, 12, 19, 15)]) hh rfl mc_L_gear ml_L_98 mi_L_gear in_L (okc_L_gear (by decide)) dL_law_344 (by exact Nat.le_of_ble_eq_true rfl) (fun N' v i r q h => Or.inl h.1) (fun _ _ _ _ h => h.elim) (fun N1 v1 i1 r1 q1 h1 => ?_)
  obtain ⟨rfl, rfl, h1⟩ := h1
  refine t_istore5 dL_law_347 (by exact Nat.le_of_ble_eq_true rfl) okp_i ?_
  refine t_aload2 dL_law_349 ?_
  refine t_aload0 dL_law_350 ?_
  refine t_iload4 dL_law_351 ?_
  refine pw_iconst (1) dL_law_353 (by decide) ?_
  refine pw_iadd dL_law_354 ?_
  refine pw_sld rfl (xin (k := 1) hi hL (by decide)).1 dL_law_355 ?_
  rw [show (nI i + 1).toNatClampNeg = i + 1 from (xin (k := 1) hi hL (by decide)).2]
  refine t_aload0 dL_law_356 ?_
  refine t_iload4 dL_law_357 ?_
  refine pw_iconst (2) dL_law_359 (by decide) ?_
  refine pw_iadd dL_law_360 ?_
  refine pw_sld rfl (xin (k := 2) hi hL (by decide)).1 dL_law_361 ?_
  rw [show (nI i + 2).toNatClampNeg = i + 2 from (xin (k := 2) hi hL (by decide)).2]
  refine t_aload0 dL_law_362 ?_
  refine t_iload4 dL_law_363 ?_
  refine pw_iconst (3) dL_law_365 (by decide) ?_
  refine pw_iadd dL_law_366 ?_
  refine pw_sld rfl (xin (k := 3) hi hL (by decide)).1 dL_law_367 ?_
  rw [show (nI i + 3).toNatClampNeg = i + 3 from (xin (k := 3) hi hL (by decide)).2]
  refine g_callV3I (hm i1 r1 q1 h1) rfl ft5 rfl mc_X5_gear ml_L_100 mi_X5_gear ms_X5_gear in_X5 (okc_X5_gear (by decide)) dL_law_368 kdM (by exact Nat.le_of_ble_eq_true rfl) (fun y i2 h2 => ?_)
  refine t_istore6 dL_law_371 (by exact Nat.le_of_ble_eq_true rfl) okp_i ?_
  refine t_aload2 dL_law_373 ?_
  refine g_callV0P (M_thrown (l := l) hlt) rfl ft5 rfl mc_X5_thrown ml_L_92 mi_X5_thrown ms_X5_thrown in_X5 (okc_X5_thrown (by decide)) dL_law_374 kdM (by exact Nat.le_of_ble_eq_true rfl) ?_
  refine t_iload5 dL_law_377 ?_
  refine pw_icmp_eq 384 dL_law_379 (by decide) (fun _ => ?_) (fun h => absurd h2.1 h)
  refine t_iload5 dL_law_384 ?_
  refine pw_if_ne 401 dL_law_386 (by decide) (fun _ => ?_) (fun h0 => ?_)
  · refine pw_goto 1604 dL_law_401 (by decide) ?_
    exact PW.less LLless (K _ _ _ h2.2.2)
  · refine t_aload3 dL_law_389 ?_
    refine pw_iconst (0) dL_law_390 (by decide) ?_
    refine g_lald (k := 247) dL_law_391 kdU vin01 ?_
    refine t_iload6 dL_law_392 ?_
    refine pw_i2l dL_law_394 ?_
    refine pw_lcmp dL_law_395 ?_
    refine pw_if_eq 401 dL_law_396 (by decide) (fun _ => ?_) (fun h => absurd (by rw [show (0 : Int32).toNatClampNeg = 0 from rfl, h2.2.1 (Classical.not_not.mp h0)]; exact lgc) h)
    refine pw_goto 1604 dL_law_401 (by decide) ?_
    exact PW.less LLless (K _ _ _ h2.2.2)
set_option maxHeartbeats 4000000 in
set_option maxRecDepth 100000 in
theorem op_set (hlt : l.stackTraces = false) {Φ : TI → TP → TL → Prop} {Ψ : TI → TP → Prop} (hi : i + 4 ≤ Lx) (hL : Lx ≤ 2048) (hh : Con l m_L_set 10 mcc msc NN [pv (some 0), .int (xs (i + 1)), .int (xs (i + 2)), pv (some 247)] im rm lm (QG (fun v i r q => v = some (.int c) ∧ Φ i r q)) noX)
    (hm : ∀ i1 r1 q1, Φ i1 r1 q1 → Con l m_X5_set 9 0 0 NN [pv (some 240), .int (xs (i + 1)), .int (xs (i + 2))] i1 r1 q1 (QI (fun y i2 => i2 240 8 = c ∧ (c = 0 → q1 247 0 = y.toInt64) ∧ Ψ i2 r1) r1 q1) noX)
    (K : ∀ i2 r2 q2, Ψ i2 r2 → PW l (m_L_law Lx xs) 12 mc ms NN 1604 (LL i) [] i2 r2 q2 Q noX) : PW l (m_L_law Lx xs) 12 (mcc + mc) (msc + ms) NN 404 (LL i) [] im rm lm Q noX := by
  refine t_aload1 dL_law_404 ?_
  refine t_aload0 dL_law_405 ?_
  refine t_iload4 dL_law_406 ?_
  refine pw_iconst (1) dL_law_408 (by decide) ?_
  refine pw_iadd dL_law_409 ?_
  refine pw_sld rfl (xin (k := 1) hi hL (by decide)).1 dL_law_410 ?_
  rw [show (nI i + 1).toNatClampNeg = i + 1 from (xin (k := 1) hi hL (by decide)).2]
  refine t_aload0 dL_law_411 ?_
  refine t_iload4 dL_law_412 ?_
  refine pw_iconst (2) dL_law_414 (by decide) ?_
  refine pw_iadd dL_law_415 ?_
  refine pw_sld rfl (xin (k := 2) hi hL (by decide)).1 dL_law_416 ?_
  rw [show (nI i + 2).toNatClampNeg = i + 2 from (xin (k := 2) hi hL (by decide)).2]
  refine t_aload3 dL_law_417 ?_
  refine pw_callSH (as := [pv (some 0), .int (xs (i + 1)), .int (xs (i + 2)), pv (some 247)]) (x := (0, 10, 13, 13)) (hs := [(0, 10, 17, 15)]) hh rfl mc_L_set ml_L_101 mi_L_set in_L (okc_L_set (by decide)) dL_law_418 (by exact Nat.le_of_ble_eq_true rfl) (fun N' v i r q h => Or.inl h.1) (fun _ _ _ _ h => h.elim) (fun N1 v1 i1 r1 q1 h1 => ?_)
  obtain ⟨rfl, rfl, h1⟩ := h1
  refine t_istore5 dL_law_421 (by exact Nat.le_of_ble_eq_true rfl) okp_i ?_
  refine t_aload2 dL_law_423 ?_
  refine t_aload0 dL_law_424 ?_
  refine t_iload4 dL_law_425 ?_
  refine pw_iconst (1) dL_law_427 (by decide) ?_
  refine pw_iadd dL_law_428 ?_
  refine pw_sld rfl (xin (k := 1) hi hL (by decide)).1 dL_law_429 ?_
  rw [show (nI i + 1).toNatClampNeg = i + 1 from (xin (k := 1) hi hL (by decide)).2]
  refine t_aload0 dL_law_430 ?_
  refine t_iload4 dL_law_431 ?_
  refine pw_iconst (2) dL_law_433 (by decide) ?_
  refine pw_iadd dL_law_434 ?_
  refine pw_sld rfl (xin (k := 2) hi hL (by decide)).1 dL_law_435 ?_
  rw [show (nI i + 2).toNatClampNeg = i + 2 from (xin (k := 2) hi hL (by decide)).2]
  refine g_callV2I (hm i1 r1 q1 h1) rfl ft5 rfl mc_X5_set ml_L_104 mi_X5_set ms_X5_set in_X5 (okc_X5_set (by decide)) dL_law_436 kdM (by exact Nat.le_of_ble_eq_true rfl) (fun y i2 h2 => ?_)
  refine t_istore6 dL_law_439 (by exact Nat.le_of_ble_eq_true rfl) okp_i ?_
  refine t_aload2 dL_law_441 ?_
  refine g_callV0P (M_thrown (l := l) hlt) rfl ft5 rfl mc_X5_thrown ml_L_92 mi_X5_thrown ms_X5_thrown in_X5 (okc_X5_thrown (by decide)) dL_law_442 kdM (by exact Nat.le_of_ble_eq_true rfl) ?_
  refine t_iload5 dL_law_445 ?_
  refine pw_icmp_eq 452 dL_law_447 (by decide) (fun _ => ?_) (fun h => absurd h2.1 h)
  refine t_iload5 dL_law_452 ?_
  refine pw_if_ne 469 dL_law_454 (by decide) (fun _ => ?_) (fun h0 => ?_)
  · refine pw_goto 1604 dL_law_469 (by decide) ?_
    exact PW.less LLless (K _ _ _ h2.2.2)
  · refine t_aload3 dL_law_457 ?_
    refine pw_iconst (0) dL_law_458 (by decide) ?_
    refine g_lald (k := 247) dL_law_459 kdU vin01 ?_
    refine t_iload6 dL_law_460 ?_
    refine pw_i2l dL_law_462 ?_
    refine pw_lcmp dL_law_463 ?_
    refine pw_if_eq 469 dL_law_464 (by decide) (fun _ => ?_) (fun h => absurd (by rw [show (0 : Int32).toNatClampNeg = 0 from rfl, h2.2.1 (Classical.not_not.mp h0)]; exact lgc) h)
    refine pw_goto 1604 dL_law_469 (by decide) ?_
    exact PW.less LLless (K _ _ _ h2.2.2)
set_option maxHeartbeats 4000000 in
set_option maxRecDepth 100000 in
theorem op_pass (hlt : l.stackTraces = false) {Φ : TI → TP → TL → Prop} {Ψ : TI → TP → Prop} (hi : i + 4 ≤ Lx) (hL : Lx ≤ 2048) (hh : Con l m_L_pass 10 mcc msc NN [pv (some 0), .int (xs (i + 1)), pv (some 247)] im rm lm (QG (fun v i r q => v = some (.int c) ∧ Φ i r q)) noX)
    (hm : ∀ i1 r1 q1, Φ i1 r1 q1 → Con l m_X5_pass 9 0 0 NN [pv (some 240), .int (xs (i + 1))] i1 r1 q1 (QI (fun y i2 => i2 240 8 = c ∧ (c = 0 → q1 247 0 = y.toInt64) ∧ Ψ i2 r1) r1 q1) noX)
    (K : ∀ i2 r2 q2, Ψ i2 r2 → PW l (m_L_law Lx xs) 12 mc ms NN 1604 (LL i) [] i2 r2 q2 Q noX) : PW l (m_L_law Lx xs) 12 (mcc + mc) (msc + ms) NN 472 (LL i) [] im rm lm Q noX := by
  refine t_aload1 dL_law_472 ?_
  refine t_aload0 dL_law_473 ?_
  refine t_iload4 dL_law_474 ?_
  refine pw_iconst (1) dL_law_476 (by decide) ?_
  refine pw_iadd dL_law_477 ?_
  refine pw_sld rfl (xin (k := 1) hi hL (by decide)).1 dL_law_478 ?_
  rw [show (nI i + 1).toNatClampNeg = i + 1 from (xin (k := 1) hi hL (by decide)).2]
  refine t_aload3 dL_law_479 ?_
  refine pw_callSH (as := [pv (some 0), .int (xs (i + 1)), pv (some 247)]) (x := (0, 9, 12, 15)) (hs := []) hh rfl mc_L_pass ml_L_105 mi_L_pass in_L (okc_L_pass (by decide)) dL_law_480 (by exact Nat.le_of_ble_eq_true rfl) (fun N' v i r q h => Or.inl h.1) (fun _ _ _ _ h => h.elim) (fun N1 v1 i1 r1 q1 h1 => ?_)
  obtain ⟨rfl, rfl, h1⟩ := h1
  refine t_istore5 dL_law_483 (by exact Nat.le_of_ble_eq_true rfl) okp_i ?_
  refine t_aload2 dL_law_485 ?_
  refine t_aload0 dL_law_486 ?_
  refine t_iload4 dL_law_487 ?_
  refine pw_iconst (1) dL_law_489 (by decide) ?_
  refine pw_iadd dL_law_490 ?_
  refine pw_sld rfl (xin (k := 1) hi hL (by decide)).1 dL_law_491 ?_
  rw [show (nI i + 1).toNatClampNeg = i + 1 from (xin (k := 1) hi hL (by decide)).2]
  refine g_callV1I (hm i1 r1 q1 h1) rfl ft5 rfl mc_X5_pass ml_L_108 mi_X5_pass ms_X5_pass in_X5 (okc_X5_pass (by decide)) dL_law_492 kdM (by exact Nat.le_of_ble_eq_true rfl) (fun y i2 h2 => ?_)
  refine t_istore6 dL_law_495 (by exact Nat.le_of_ble_eq_true rfl) okp_i ?_
  refine t_aload2 dL_law_497 ?_
  refine g_callV0P (M_thrown (l := l) hlt) rfl ft5 rfl mc_X5_thrown ml_L_92 mi_X5_thrown ms_X5_thrown in_X5 (okc_X5_thrown (by decide)) dL_law_498 kdM (by exact Nat.le_of_ble_eq_true rfl) ?_
  refine t_iload5 dL_law_501 ?_
  refine pw_icmp_eq 508 dL_law_503 (by decide) (fun _ => ?_) (fun h => absurd h2.1 h)
  refine t_iload5 dL_law_508 ?_
  refine pw_if_ne 525 dL_law_510 (by decide) (fun _ => ?_) (fun h0 => ?_)
  · refine pw_goto 1604 dL_law_525 (by decide) ?_
    exact PW.less LLless (K _ _ _ h2.2.2)
  · refine t_aload3 dL_law_513 ?_
    refine pw_iconst (0) dL_law_514 (by decide) ?_
    refine g_lald (k := 247) dL_law_515 kdU vin01 ?_
    refine t_iload6 dL_law_516 ?_
    refine pw_i2l dL_law_518 ?_
    refine pw_lcmp dL_law_519 ?_
    refine pw_if_eq 525 dL_law_520 (by decide) (fun _ => ?_) (fun h => absurd (by rw [show (0 : Int32).toNatClampNeg = 0 from rfl, h2.2.1 (Classical.not_not.mp h0)]; exact lgc) h)
    refine pw_goto 1604 dL_law_525 (by decide) ?_
    exact PW.less LLless (K _ _ _ h2.2.2)
set_option maxHeartbeats 4000000 in
set_option maxRecDepth 100000 in
theorem op_sack (hlt : l.stackTraces = false) {Φ : TI → TP → TL → Prop} {Ψ : TI → TP → Prop} (hi : i + 4 ≤ Lx) (hL : Lx ≤ 2048) (hh : Con l m_L_sack 10 mcc msc NN [pv (some 0), .int (xs (i + 1)), .int (xs (i + 2)), .int (xs (i + 3)), pv (some 247)] im rm lm (QG (fun v i r q => v = some (.int c) ∧ Φ i r q)) noX)
    (hm : ∀ i1 r1 q1, Φ i1 r1 q1 → Con l m_X5_sack 9 0 0 NN [pv (some 240), .int (xs (i + 1)), .int (xs (i + 2)), .int (xs (i + 3))] i1 r1 q1 (QI (fun y i2 => i2 240 8 = c ∧ (c = 0 → q1 247 0 = y.toInt64) ∧ Ψ i2 r1) r1 q1) noX)
    (K : ∀ i2 r2 q2, Ψ i2 r2 → PW l (m_L_law Lx xs) 12 mc ms NN 1604 (LL i) [] i2 r2 q2 Q noX) : PW l (m_L_law Lx xs) 12 (mcc + mc) (msc + ms) NN 528 (LL i) [] im rm lm Q noX := by
  refine t_aload1 dL_law_528 ?_
  refine t_aload0 dL_law_529 ?_
  refine t_iload4 dL_law_530 ?_
  refine pw_iconst (1) dL_law_532 (by decide) ?_
  refine pw_iadd dL_law_533 ?_
  refine pw_sld rfl (xin (k := 1) hi hL (by decide)).1 dL_law_534 ?_
  rw [show (nI i + 1).toNatClampNeg = i + 1 from (xin (k := 1) hi hL (by decide)).2]
  refine t_aload0 dL_law_535 ?_
  refine t_iload4 dL_law_536 ?_
  refine pw_iconst (2) dL_law_538 (by decide) ?_
  refine pw_iadd dL_law_539 ?_
  refine pw_sld rfl (xin (k := 2) hi hL (by decide)).1 dL_law_540 ?_
  rw [show (nI i + 2).toNatClampNeg = i + 2 from (xin (k := 2) hi hL (by decide)).2]
  refine t_aload0 dL_law_541 ?_
  refine t_iload4 dL_law_542 ?_
  refine pw_iconst (3) dL_law_544 (by decide) ?_
  refine pw_iadd dL_law_545 ?_
  refine pw_sld rfl (xin (k := 3) hi hL (by decide)).1 dL_law_546 ?_
  rw [show (nI i + 3).toNatClampNeg = i + 3 from (xin (k := 3) hi hL (by decide)).2]
  refine t_aload3 dL_law_547 ?_
  refine pw_callSH (as := [pv (some 0), .int (xs (i + 1)), .int (xs (i + 2)), .int (xs (i + 3)), pv (some 247)]) (x := (0, 12, 15, 13)) (hs := [(0, 12, 19, 15), (0, 12, 23, 17)]) hh rfl mc_L_sack ml_L_109 mi_L_sack in_L (okc_L_sack (by decide)) dL_law_548 (by exact Nat.le_of_ble_eq_true rfl) (fun N' v i r q h => Or.inl h.1) (fun _ _ _ _ h => h.elim) (fun N1 v1 i1 r1 q1 h1 => ?_)
  obtain ⟨rfl, rfl, h1⟩ := h1
  refine t_istore5 dL_law_551 (by exact Nat.le_of_ble_eq_true rfl) okp_i ?_
  refine t_aload2 dL_law_553 ?_
  refine t_aload0 dL_law_554 ?_
  refine t_iload4 dL_law_555 ?_
  refine pw_iconst (1) dL_law_557 (by decide) ?_
  refine pw_iadd dL_law_558 ?_
  refine pw_sld rfl (xin (k := 1) hi hL (by decide)).1 dL_law_559 ?_
  rw [show (nI i + 1).toNatClampNeg = i + 1 from (xin (k := 1) hi hL (by decide)).2]
  refine t_aload0 dL_law_560 ?_
  refine t_iload4 dL_law_561 ?_
  refine pw_iconst (2) dL_law_563 (by decide) ?_
  refine pw_iadd dL_law_564 ?_
  refine pw_sld rfl (xin (k := 2) hi hL (by decide)).1 dL_law_565 ?_
  rw [show (nI i + 2).toNatClampNeg = i + 2 from (xin (k := 2) hi hL (by decide)).2]
  refine t_aload0 dL_law_566 ?_
  refine t_iload4 dL_law_567 ?_
  refine pw_iconst (3) dL_law_569 (by decide) ?_
  refine pw_iadd dL_law_570 ?_
  refine pw_sld rfl (xin (k := 3) hi hL (by decide)).1 dL_law_571 ?_
  rw [show (nI i + 3).toNatClampNeg = i + 3 from (xin (k := 3) hi hL (by decide)).2]
  refine g_callV3I (hm i1 r1 q1 h1) rfl ft5 rfl mc_X5_sack ml_L_111 mi_X5_sack ms_X5_sack in_X5 (okc_X5_sack (by decide)) dL_law_572 kdM (by exact Nat.le_of_ble_eq_true rfl) (fun y i2 h2 => ?_)
  refine t_istore6 dL_law_575 (by exact Nat.le_of_ble_eq_true rfl) okp_i ?_
  refine t_aload2 dL_law_577 ?_
  refine g_callV0P (M_thrown (l := l) hlt) rfl ft5 rfl mc_X5_thrown ml_L_92 mi_X5_thrown ms_X5_thrown in_X5 (okc_X5_thrown (by decide)) dL_law_578 kdM (by exact Nat.le_of_ble_eq_true rfl) ?_
  refine t_iload5 dL_law_581 ?_
  refine pw_icmp_eq 588 dL_law_583 (by decide) (fun _ => ?_) (fun h => absurd h2.1 h)
  refine t_iload5 dL_law_588 ?_
  refine pw_if_ne 605 dL_law_590 (by decide) (fun _ => ?_) (fun h0 => ?_)
  · refine pw_goto 1604 dL_law_605 (by decide) ?_
    exact PW.less LLless (K _ _ _ h2.2.2)
  · refine t_aload3 dL_law_593 ?_
    refine pw_iconst (0) dL_law_594 (by decide) ?_
    refine g_lald (k := 247) dL_law_595 kdU vin01 ?_
    refine t_iload6 dL_law_596 ?_
    refine pw_i2l dL_law_598 ?_
    refine pw_lcmp dL_law_599 ?_
    refine pw_if_eq 605 dL_law_600 (by decide) (fun _ => ?_) (fun h => absurd (by rw [show (0 : Int32).toNatClampNeg = 0 from rfl, h2.2.1 (Classical.not_not.mp h0)]; exact lgc) h)
    refine pw_goto 1604 dL_law_605 (by decide) ?_
    exact PW.less LLless (K _ _ _ h2.2.2)
set_option maxHeartbeats 4000000 in
set_option maxRecDepth 100000 in
theorem op_carry (hlt : l.stackTraces = false) {Φ : TI → TP → TL → Prop} {Ψ : TI → TP → Prop} (hi : i + 4 ≤ Lx) (hL : Lx ≤ 2048) (hh : Con l m_L_carry 10 mcc msc NN [pv (some 0), .int (xs (i + 1)), .int (xs (i + 2)), pv (some 247)] im rm lm (QG (fun v i r q => v = some (.int c) ∧ Φ i r q)) noX)
    (hm : ∀ i1 r1 q1, Φ i1 r1 q1 → Con l m_X5_carry 9 0 0 NN [pv (some 240), .int (xs (i + 1)), .int (xs (i + 2))] i1 r1 q1 (QI (fun y i2 => i2 240 8 = c ∧ (c = 0 → q1 247 0 = y.toInt64) ∧ Ψ i2 r1) r1 q1) noX)
    (K : ∀ i2 r2 q2, Ψ i2 r2 → PW l (m_L_law Lx xs) 12 mc ms NN 1604 (LL i) [] i2 r2 q2 Q noX) : PW l (m_L_law Lx xs) 12 (mcc + mc) (msc + ms) NN 608 (LL i) [] im rm lm Q noX := by
  refine t_aload1 dL_law_608 ?_
  refine t_aload0 dL_law_609 ?_
  refine t_iload4 dL_law_610 ?_
  refine pw_iconst (1) dL_law_612 (by decide) ?_
  refine pw_iadd dL_law_613 ?_
  refine pw_sld rfl (xin (k := 1) hi hL (by decide)).1 dL_law_614 ?_
  rw [show (nI i + 1).toNatClampNeg = i + 1 from (xin (k := 1) hi hL (by decide)).2]
  refine t_aload0 dL_law_615 ?_
  refine t_iload4 dL_law_616 ?_
  refine pw_iconst (2) dL_law_618 (by decide) ?_
  refine pw_iadd dL_law_619 ?_
  refine pw_sld rfl (xin (k := 2) hi hL (by decide)).1 dL_law_620 ?_
  rw [show (nI i + 2).toNatClampNeg = i + 2 from (xin (k := 2) hi hL (by decide)).2]
  refine t_aload3 dL_law_621 ?_
  refine pw_callSH (as := [pv (some 0), .int (xs (i + 1)), .int (xs (i + 2)), pv (some 247)]) (x := (0, 10, 13, 13)) (hs := [(0, 10, 17, 17)]) hh rfl mc_L_carry ml_L_112 mi_L_carry in_L (okc_L_carry (by decide)) dL_law_622 (by exact Nat.le_of_ble_eq_true rfl) (fun N' v i r q h => Or.inl h.1) (fun _ _ _ _ h => h.elim) (fun N1 v1 i1 r1 q1 h1 => ?_)
  obtain ⟨rfl, rfl, h1⟩ := h1
  refine t_istore5 dL_law_625 (by exact Nat.le_of_ble_eq_true rfl) okp_i ?_
  refine t_aload2 dL_law_627 ?_
  refine t_aload0 dL_law_628 ?_
  refine t_iload4 dL_law_629 ?_
  refine pw_iconst (1) dL_law_631 (by decide) ?_
  refine pw_iadd dL_law_632 ?_
  refine pw_sld rfl (xin (k := 1) hi hL (by decide)).1 dL_law_633 ?_
  rw [show (nI i + 1).toNatClampNeg = i + 1 from (xin (k := 1) hi hL (by decide)).2]
  refine t_aload0 dL_law_634 ?_
  refine t_iload4 dL_law_635 ?_
  refine pw_iconst (2) dL_law_637 (by decide) ?_
  refine pw_iadd dL_law_638 ?_
  refine pw_sld rfl (xin (k := 2) hi hL (by decide)).1 dL_law_639 ?_
  rw [show (nI i + 2).toNatClampNeg = i + 2 from (xin (k := 2) hi hL (by decide)).2]
  refine g_callV2I (hm i1 r1 q1 h1) rfl ft5 rfl mc_X5_carry ml_L_114 mi_X5_carry ms_X5_carry in_X5 (okc_X5_carry (by decide)) dL_law_640 kdM (by exact Nat.le_of_ble_eq_true rfl) (fun y i2 h2 => ?_)
  refine t_istore6 dL_law_643 (by exact Nat.le_of_ble_eq_true rfl) okp_i ?_
  refine t_aload2 dL_law_645 ?_
  refine g_callV0P (M_thrown (l := l) hlt) rfl ft5 rfl mc_X5_thrown ml_L_92 mi_X5_thrown ms_X5_thrown in_X5 (okc_X5_thrown (by decide)) dL_law_646 kdM (by exact Nat.le_of_ble_eq_true rfl) ?_
  refine t_iload5 dL_law_649 ?_
  refine pw_icmp_eq 656 dL_law_651 (by decide) (fun _ => ?_) (fun h => absurd h2.1 h)
  refine t_iload5 dL_law_656 ?_
  refine pw_if_ne 673 dL_law_658 (by decide) (fun _ => ?_) (fun h0 => ?_)
  · refine pw_goto 1604 dL_law_673 (by decide) ?_
    exact PW.less LLless (K _ _ _ h2.2.2)
  · refine t_aload3 dL_law_661 ?_
    refine pw_iconst (0) dL_law_662 (by decide) ?_
    refine g_lald (k := 247) dL_law_663 kdU vin01 ?_
    refine t_iload6 dL_law_664 ?_
    refine pw_i2l dL_law_666 ?_
    refine pw_lcmp dL_law_667 ?_
    refine pw_if_eq 673 dL_law_668 (by decide) (fun _ => ?_) (fun h => absurd (by rw [show (0 : Int32).toNatClampNeg = 0 from rfl, h2.2.1 (Classical.not_not.mp h0)]; exact lgc) h)
    refine pw_goto 1604 dL_law_673 (by decide) ?_
    exact PW.less LLless (K _ _ _ h2.2.2)
set_option maxHeartbeats 4000000 in
set_option maxRecDepth 100000 in
theorem op_back (hlt : l.stackTraces = false) {Φ : TI → TP → TL → Prop} {Ψ : TI → TP → Prop} (hi : i + 4 ≤ Lx) (hL : Lx ≤ 2048) (hh : Con l m_L_back 10 mcc msc NN [pv (some 0), .int (xs (i + 1)), pv (some 247)] im rm lm (QG (fun v i r q => v = some (.int c) ∧ Φ i r q)) noX)
    (hm : ∀ i1 r1 q1, Φ i1 r1 q1 → Con l m_X5_back 9 0 0 NN [pv (some 240), .int (xs (i + 1))] i1 r1 q1 (QI (fun y i2 => i2 240 8 = c ∧ (c = 0 → q1 247 0 = y.toInt64) ∧ Ψ i2 r1) r1 q1) noX)
    (K : ∀ i2 r2 q2, Ψ i2 r2 → PW l (m_L_law Lx xs) 12 mc ms NN 1604 (LL i) [] i2 r2 q2 Q noX) : PW l (m_L_law Lx xs) 12 (mcc + mc) (msc + ms) NN 676 (LL i) [] im rm lm Q noX := by
  refine t_aload1 dL_law_676 ?_
  refine t_aload0 dL_law_677 ?_
  refine t_iload4 dL_law_678 ?_
  refine pw_iconst (1) dL_law_680 (by decide) ?_
  refine pw_iadd dL_law_681 ?_
  refine pw_sld rfl (xin (k := 1) hi hL (by decide)).1 dL_law_682 ?_
  rw [show (nI i + 1).toNatClampNeg = i + 1 from (xin (k := 1) hi hL (by decide)).2]
  refine t_aload3 dL_law_683 ?_
  refine pw_callSH (as := [pv (some 0), .int (xs (i + 1)), pv (some 247)]) (x := (0, 9, 12, 17)) (hs := []) hh rfl mc_L_back ml_L_115 mi_L_back in_L (okc_L_back (by decide)) dL_law_684 (by exact Nat.le_of_ble_eq_true rfl) (fun N' v i r q h => Or.inl h.1) (fun _ _ _ _ h => h.elim) (fun N1 v1 i1 r1 q1 h1 => ?_)
  obtain ⟨rfl, rfl, h1⟩ := h1
  refine t_istore5 dL_law_687 (by exact Nat.le_of_ble_eq_true rfl) okp_i ?_
  refine t_aload2 dL_law_689 ?_
  refine t_aload0 dL_law_690 ?_
  refine t_iload4 dL_law_691 ?_
  refine pw_iconst (1) dL_law_693 (by decide) ?_
  refine pw_iadd dL_law_694 ?_
  refine pw_sld rfl (xin (k := 1) hi hL (by decide)).1 dL_law_695 ?_
  rw [show (nI i + 1).toNatClampNeg = i + 1 from (xin (k := 1) hi hL (by decide)).2]
  refine g_callV1I (hm i1 r1 q1 h1) rfl ft5 rfl mc_X5_back ml_L_117 mi_X5_back ms_X5_back in_X5 (okc_X5_back (by decide)) dL_law_696 kdM (by exact Nat.le_of_ble_eq_true rfl) (fun y i2 h2 => ?_)
  refine t_istore6 dL_law_699 (by exact Nat.le_of_ble_eq_true rfl) okp_i ?_
  refine t_aload2 dL_law_701 ?_
  refine g_callV0P (M_thrown (l := l) hlt) rfl ft5 rfl mc_X5_thrown ml_L_92 mi_X5_thrown ms_X5_thrown in_X5 (okc_X5_thrown (by decide)) dL_law_702 kdM (by exact Nat.le_of_ble_eq_true rfl) ?_
  refine t_iload5 dL_law_705 ?_
  refine pw_icmp_eq 712 dL_law_707 (by decide) (fun _ => ?_) (fun h => absurd h2.1 h)
  refine t_iload5 dL_law_712 ?_
  refine pw_if_ne 729 dL_law_714 (by decide) (fun _ => ?_) (fun h0 => ?_)
  · refine pw_goto 1604 dL_law_729 (by decide) ?_
    exact PW.less LLless (K _ _ _ h2.2.2)
  · refine t_aload3 dL_law_717 ?_
    refine pw_iconst (0) dL_law_718 (by decide) ?_
    refine g_lald (k := 247) dL_law_719 kdU vin01 ?_
    refine t_iload6 dL_law_720 ?_
    refine pw_i2l dL_law_722 ?_
    refine pw_lcmp dL_law_723 ?_
    refine pw_if_eq 729 dL_law_724 (by decide) (fun _ => ?_) (fun h => absurd (by rw [show (0 : Int32).toNatClampNeg = 0 from rfl, h2.2.1 (Classical.not_not.mp h0)]; exact lgc) h)
    refine pw_goto 1604 dL_law_729 (by decide) ?_
    exact PW.less LLless (K _ _ _ h2.2.2)
set_option maxHeartbeats 4000000 in
set_option maxRecDepth 100000 in
theorem op_append (hlt : l.stackTraces = false) {Φ : TI → TP → TL → Prop} {Ψ : TI → TP → Prop} (hi : i + 4 ≤ Lx) (hL : Lx ≤ 2048) (hh : Con l m_L_append 10 mcc msc NN [pv (some 0), .int (xs (i + 1)), pv (some 247)] im rm lm (QG (fun v i r q => v = some (.int c) ∧ Φ i r q)) noX)
    (hm : ∀ i1 r1 q1, Φ i1 r1 q1 → Con l m_X5_append 9 0 0 NN [pv (some 240), .int (xs (i + 1))] i1 r1 q1 (QI (fun y i2 => i2 240 8 = c ∧ (c = 0 → q1 247 0 = y.toInt64) ∧ Ψ i2 r1) r1 q1) noX)
    (K : ∀ i2 r2 q2, Ψ i2 r2 → PW l (m_L_law Lx xs) 12 mc ms NN 1604 (LL i) [] i2 r2 q2 Q noX) : PW l (m_L_law Lx xs) 12 (mcc + mc) (msc + ms) NN 732 (LL i) [] im rm lm Q noX := by
  refine t_aload1 dL_law_732 ?_
  refine t_aload0 dL_law_733 ?_
  refine t_iload4 dL_law_734 ?_
  refine pw_iconst (1) dL_law_736 (by decide) ?_
  refine pw_iadd dL_law_737 ?_
  refine pw_sld rfl (xin (k := 1) hi hL (by decide)).1 dL_law_738 ?_
  rw [show (nI i + 1).toNatClampNeg = i + 1 from (xin (k := 1) hi hL (by decide)).2]
  refine t_aload3 dL_law_739 ?_
  refine pw_callSH (as := [pv (some 0), .int (xs (i + 1)), pv (some 247)]) (x := (0, 9, 12, 15)) (hs := [(0, 9, 15, 17)]) hh rfl mc_L_append ml_L_118 mi_L_append in_L (okc_L_append (by decide)) dL_law_740 (by exact Nat.le_of_ble_eq_true rfl) (fun N' v i r q h => Or.inl h.1) (fun _ _ _ _ h => h.elim) (fun N1 v1 i1 r1 q1 h1 => ?_)
  obtain ⟨rfl, rfl, h1⟩ := h1
  refine t_istore5 dL_law_743 (by exact Nat.le_of_ble_eq_true rfl) okp_i ?_
  refine t_aload2 dL_law_745 ?_
  refine t_aload0 dL_law_746 ?_
  refine t_iload4 dL_law_747 ?_
  refine pw_iconst (1) dL_law_749 (by decide) ?_
  refine pw_iadd dL_law_750 ?_
  refine pw_sld rfl (xin (k := 1) hi hL (by decide)).1 dL_law_751 ?_
  rw [show (nI i + 1).toNatClampNeg = i + 1 from (xin (k := 1) hi hL (by decide)).2]
  refine g_callV1I (hm i1 r1 q1 h1) rfl ft5 rfl mc_X5_append ml_L_120 mi_X5_append ms_X5_append in_X5 (okc_X5_append (by decide)) dL_law_752 kdM (by exact Nat.le_of_ble_eq_true rfl) (fun y i2 h2 => ?_)
  refine t_istore6 dL_law_755 (by exact Nat.le_of_ble_eq_true rfl) okp_i ?_
  refine t_aload2 dL_law_757 ?_
  refine g_callV0P (M_thrown (l := l) hlt) rfl ft5 rfl mc_X5_thrown ml_L_92 mi_X5_thrown ms_X5_thrown in_X5 (okc_X5_thrown (by decide)) dL_law_758 kdM (by exact Nat.le_of_ble_eq_true rfl) ?_
  refine t_iload5 dL_law_761 ?_
  refine pw_icmp_eq 768 dL_law_763 (by decide) (fun _ => ?_) (fun h => absurd h2.1 h)
  refine t_iload5 dL_law_768 ?_
  refine pw_if_ne 785 dL_law_770 (by decide) (fun _ => ?_) (fun h0 => ?_)
  · refine pw_goto 1604 dL_law_785 (by decide) ?_
    exact PW.less LLless (K _ _ _ h2.2.2)
  · refine t_aload3 dL_law_773 ?_
    refine pw_iconst (0) dL_law_774 (by decide) ?_
    refine g_lald (k := 247) dL_law_775 kdU vin01 ?_
    refine t_iload6 dL_law_776 ?_
    refine pw_i2l dL_law_778 ?_
    refine pw_lcmp dL_law_779 ?_
    refine pw_if_eq 785 dL_law_780 (by decide) (fun _ => ?_) (fun h => absurd (by rw [show (0 : Int32).toNatClampNeg = 0 from rfl, h2.2.1 (Classical.not_not.mp h0)]; exact lgc) h)
    refine pw_goto 1604 dL_law_785 (by decide) ?_
    exact PW.less LLless (K _ _ _ h2.2.2)
set_option maxHeartbeats 4000000 in
set_option maxRecDepth 100000 in
theorem op_clearBuffer {Φ : TI → TP → TL → Prop} {Ψ : TI → TP → Prop}  (hh : Con l m_X4_clearBuffer 9 0 0 NN [pv (some 0)] im rm lm (QG (fun v i r q => v = some (.int x) ∧ Φ i r q)) noX)
    (hm : ∀ i1 r1 q1, Φ i1 r1 q1 → Con l m_X5_clearBuffer 9 0 0 NN [pv (some 240)] i1 r1 q1 (QI (fun y i2 => y = x ∧ Ψ i2 r1) r1 q1) noX)
    (K : ∀ i2 r2 q2, Ψ i2 r2 → PW l (m_L_law Lx xs) 12 mc ms NN 1604 (LL i) [] i2 r2 q2 Q noX) : PW l (m_L_law Lx xs) 12 mc ms NN 788 (LL i) [] im rm lm Q noX := by
  refine t_aload1 dL_law_788 ?_
  refine g_callV0G hh rfl ft4 rfl mc_X4_clearBuffer ml_L_121 mi_X4_clearBuffer ms_X4_clearBuffer in_X4 (okc_X4_clearBuffer (by decide)) dL_law_789 kdT (by exact Nat.le_of_ble_eq_true rfl) (fun _ _ _ _ h => h.elim) ⟨Nat.zero_le _, Nat.zero_le _⟩ (fun v1 i1 r1 q1 h1 => ?_)
  obtain ⟨rfl, h1⟩ := h1
  refine t_aload2 dL_law_792 ?_
  refine g_callV0I (hm i1 r1 q1 h1) rfl ft5 rfl mc_X5_clearBuffer ml_L_124 mi_X5_clearBuffer ms_X5_clearBuffer in_X5 (okc_X5_clearBuffer (by decide)) dL_law_793 kdM (by exact Nat.le_of_ble_eq_true rfl) (fun y i2 h2 => ?_)
  refine pw_icmp_eq 1604 dL_law_796 (by decide) (fun _ => ?_) (fun h => absurd h2.1.symm h)
  exact PW.less LLless (K _ _ _ h2.2)
set_option maxHeartbeats 4000000 in
set_option maxRecDepth 100000 in
theorem op_firstError {Φ : TI → TP → TL → Prop} {Ψ : TI → TP → Prop}  (hh : Con l m_X4_firstError 9 0 0 NN [pv (some 0)] im rm lm (QG (fun v i r q => v = some (.int x) ∧ Φ i r q)) noX)
    (hm : ∀ i1 r1 q1, Φ i1 r1 q1 → Con l m_X5_firstError 9 0 0 NN [pv (some 240)] i1 r1 q1 (QI (fun y i2 => y = x ∧ Ψ i2 r1) r1 q1) noX)
    (K : ∀ i2 r2 q2, Ψ i2 r2 → PW l (m_L_law Lx xs) 12 mc ms NN 1604 (LL i) [] i2 r2 q2 Q noX) : PW l (m_L_law Lx xs) 12 mc ms NN 801 (LL i) [] im rm lm Q noX := by
  refine t_aload1 dL_law_801 ?_
  refine g_callV0G hh rfl ft4 rfl mc_X4_firstError ml_L_125 mi_X4_firstError ms_X4_firstError in_X4 (okc_X4_firstError (by decide)) dL_law_802 kdT (by exact Nat.le_of_ble_eq_true rfl) (fun _ _ _ _ h => h.elim) ⟨Nat.zero_le _, Nat.zero_le _⟩ (fun v1 i1 r1 q1 h1 => ?_)
  obtain ⟨rfl, h1⟩ := h1
  refine t_aload2 dL_law_805 ?_
  refine g_callV0I (hm i1 r1 q1 h1) rfl ft5 rfl mc_X5_firstError ml_L_128 mi_X5_firstError ms_X5_firstError in_X5 (okc_X5_firstError (by decide)) dL_law_806 kdM (by exact Nat.le_of_ble_eq_true rfl) (fun y i2 h2 => ?_)
  refine pw_icmp_eq 1604 dL_law_809 (by decide) (fun _ => ?_) (fun h => absurd h2.1.symm h)
  exact PW.less LLless (K _ _ _ h2.2)
set_option maxHeartbeats 4000000 in
set_option maxRecDepth 100000 in
theorem op_play (hlt : l.stackTraces = false) {Φ : TI → TP → TL → Prop} {Ψ : TI → TP → Prop} (hi : i + 4 ≤ Lx) (hL : Lx ≤ 2048) (hh : Con l m_L_play 10 mcc msc NN [pv (some 0), pv (some 247)] im rm lm (QG (fun v i r q => v = some (.int c) ∧ Φ i r q)) noX)
    (hm : ∀ i1 r1 q1, Φ i1 r1 q1 → Con l m_X5_play 9 0 0 NN [pv (some 240)] i1 r1 q1 (QI (fun y i2 => i2 240 8 = c ∧ (c = 0 → q1 247 0 = y.toInt64) ∧ Ψ i2 r1) r1 q1) noX)
    (K : ∀ i2 r2 q2, Ψ i2 r2 → PW l (m_L_law Lx xs) 12 mc ms NN 1604 (LL i) [] i2 r2 q2 Q noX) : PW l (m_L_law Lx xs) 12 (mcc + mc) (msc + ms) NN 814 (LL i) [] im rm lm Q noX := by
  refine t_aload1 dL_law_814 ?_
  refine t_aload3 dL_law_815 ?_
  refine pw_callSH (as := [pv (some 0), pv (some 247)]) (x := (0, 8, 11, 15)) (hs := []) hh rfl mc_L_play ml_L_129 mi_L_play in_L (okc_L_play (by decide)) dL_law_816 (by exact Nat.le_of_ble_eq_true rfl) (fun N' v i r q h => Or.inl h.1) (fun _ _ _ _ h => h.elim) (fun N1 v1 i1 r1 q1 h1 => ?_)
  obtain ⟨rfl, rfl, h1⟩ := h1
  refine t_istore5 dL_law_819 (by exact Nat.le_of_ble_eq_true rfl) okp_i ?_
  refine t_aload2 dL_law_821 ?_
  refine g_callV0I (hm i1 r1 q1 h1) rfl ft5 rfl mc_X5_play ml_L_132 mi_X5_play ms_X5_play in_X5 (okc_X5_play (by decide)) dL_law_822 kdM (by exact Nat.le_of_ble_eq_true rfl) (fun y i2 h2 => ?_)
  refine t_istore6 dL_law_825 (by exact Nat.le_of_ble_eq_true rfl) okp_i ?_
  refine t_aload2 dL_law_827 ?_
  refine g_callV0P (M_thrown (l := l) hlt) rfl ft5 rfl mc_X5_thrown ml_L_92 mi_X5_thrown ms_X5_thrown in_X5 (okc_X5_thrown (by decide)) dL_law_828 kdM (by exact Nat.le_of_ble_eq_true rfl) ?_
  refine t_iload5 dL_law_831 ?_
  refine pw_icmp_eq 838 dL_law_833 (by decide) (fun _ => ?_) (fun h => absurd h2.1 h)
  refine t_iload5 dL_law_838 ?_
  refine pw_if_ne 855 dL_law_840 (by decide) (fun _ => ?_) (fun h0 => ?_)
  · refine pw_goto 1604 dL_law_855 (by decide) ?_
    exact PW.less LLless (K _ _ _ h2.2.2)
  · refine t_aload3 dL_law_843 ?_
    refine pw_iconst (0) dL_law_844 (by decide) ?_
    refine g_lald (k := 247) dL_law_845 kdU vin01 ?_
    refine t_iload6 dL_law_846 ?_
    refine pw_i2l dL_law_848 ?_
    refine pw_lcmp dL_law_849 ?_
    refine pw_if_eq 855 dL_law_850 (by decide) (fun _ => ?_) (fun h => absurd (by rw [show (0 : Int32).toNatClampNeg = 0 from rfl, h2.2.1 (Classical.not_not.mp h0)]; exact lgc) h)
    refine pw_goto 1604 dL_law_855 (by decide) ?_
    exact PW.less LLless (K _ _ _ h2.2.2)
set_option maxHeartbeats 4000000 in
set_option maxRecDepth 100000 in
theorem op_undo (hlt : l.stackTraces = false) {Φ : TI → TP → TL → Prop} {Ψ : TI → TP → Prop} (hi : i + 4 ≤ Lx) (hL : Lx ≤ 2048) (hh : Con l m_L_undo 10 mcc msc NN [pv (some 0), pv (some 247)] im rm lm (QG (fun v i r q => v = some (.int c) ∧ Φ i r q)) noX)
    (hm : ∀ i1 r1 q1, Φ i1 r1 q1 → Con l m_X5_undo 9 0 0 NN [pv (some 240)] i1 r1 q1 (QI (fun y i2 => i2 240 8 = c ∧ (c = 0 → q1 247 0 = y.toInt64) ∧ Ψ i2 r1) r1 q1) noX)
    (K : ∀ i2 r2 q2, Ψ i2 r2 → PW l (m_L_law Lx xs) 12 mc ms NN 1604 (LL i) [] i2 r2 q2 Q noX) : PW l (m_L_law Lx xs) 12 (mcc + mc) (msc + ms) NN 858 (LL i) [] im rm lm Q noX := by
  refine t_aload1 dL_law_858 ?_
  refine t_aload3 dL_law_859 ?_
  refine pw_callSH (as := [pv (some 0), pv (some 247)]) (x := (0, 8, 11, 17)) (hs := []) hh rfl mc_L_undo ml_L_133 mi_L_undo in_L (okc_L_undo (by decide)) dL_law_860 (by exact Nat.le_of_ble_eq_true rfl) (fun N' v i r q h => Or.inl h.1) (fun _ _ _ _ h => h.elim) (fun N1 v1 i1 r1 q1 h1 => ?_)
  obtain ⟨rfl, rfl, h1⟩ := h1
  refine t_istore5 dL_law_863 (by exact Nat.le_of_ble_eq_true rfl) okp_i ?_
  refine t_aload2 dL_law_865 ?_
  refine g_callV0I (hm i1 r1 q1 h1) rfl ft5 rfl mc_X5_undo ml_L_135 mi_X5_undo ms_X5_undo in_X5 (okc_X5_undo (by decide)) dL_law_866 kdM (by exact Nat.le_of_ble_eq_true rfl) (fun y i2 h2 => ?_)
  refine t_istore6 dL_law_869 (by exact Nat.le_of_ble_eq_true rfl) okp_i ?_
  refine t_aload2 dL_law_871 ?_
  refine g_callV0P (M_thrown (l := l) hlt) rfl ft5 rfl mc_X5_thrown ml_L_92 mi_X5_thrown ms_X5_thrown in_X5 (okc_X5_thrown (by decide)) dL_law_872 kdM (by exact Nat.le_of_ble_eq_true rfl) ?_
  refine t_iload5 dL_law_875 ?_
  refine pw_icmp_eq 882 dL_law_877 (by decide) (fun _ => ?_) (fun h => absurd h2.1 h)
  refine t_iload5 dL_law_882 ?_
  refine pw_if_ne 899 dL_law_884 (by decide) (fun _ => ?_) (fun h0 => ?_)
  · refine pw_goto 1604 dL_law_899 (by decide) ?_
    exact PW.less LLless (K _ _ _ h2.2.2)
  · refine t_aload3 dL_law_887 ?_
    refine pw_iconst (0) dL_law_888 (by decide) ?_
    refine g_lald (k := 247) dL_law_889 kdU vin01 ?_
    refine t_iload6 dL_law_890 ?_
    refine pw_i2l dL_law_892 ?_
    refine pw_lcmp dL_law_893 ?_
    refine pw_if_eq 899 dL_law_894 (by decide) (fun _ => ?_) (fun h => absurd (by rw [show (0 : Int32).toNatClampNeg = 0 from rfl, h2.2.1 (Classical.not_not.mp h0)]; exact lgc) h)
    refine pw_goto 1604 dL_law_899 (by decide) ?_
    exact PW.less LLless (K _ _ _ h2.2.2)
set_option maxHeartbeats 4000000 in
set_option maxRecDepth 100000 in
theorem op_keep {Φ : TI → TP → TL → Prop} {Ψ : TI → TP → Prop}  (hh : Con l m_X4_keep 9 0 0 NN [pv (some 0)] im rm lm (QG (fun v i r q => v = some (.int x) ∧ Φ i r q)) noX)
    (hm : ∀ i1 r1 q1, Φ i1 r1 q1 → Con l m_X5_keep 9 0 0 NN [pv (some 240)] i1 r1 q1 (QI (fun y i2 => y = x ∧ Ψ i2 r1) r1 q1) noX)
    (K : ∀ i2 r2 q2, Ψ i2 r2 → PW l (m_L_law Lx xs) 12 mc ms NN 1604 (LL i) [] i2 r2 q2 Q noX) : PW l (m_L_law Lx xs) 12 mc ms NN 902 (LL i) [] im rm lm Q noX := by
  refine t_aload1 dL_law_902 ?_
  refine g_callV0G hh rfl ft4 rfl mc_X4_keep ml_L_136 mi_X4_keep ms_X4_keep in_X4 (okc_X4_keep (by decide)) dL_law_903 kdT (by exact Nat.le_of_ble_eq_true rfl) (fun _ _ _ _ h => h.elim) ⟨Nat.zero_le _, Nat.zero_le _⟩ (fun v1 i1 r1 q1 h1 => ?_)
  obtain ⟨rfl, h1⟩ := h1
  refine t_aload2 dL_law_906 ?_
  refine g_callV0I (hm i1 r1 q1 h1) rfl ft5 rfl mc_X5_keep ml_L_139 mi_X5_keep ms_X5_keep in_X5 (okc_X5_keep (by decide)) dL_law_907 kdM (by exact Nat.le_of_ble_eq_true rfl) (fun y i2 h2 => ?_)
  refine pw_icmp_eq 1604 dL_law_910 (by decide) (fun _ => ?_) (fun h => absurd h2.1.symm h)
  exact PW.less LLless (K _ _ _ h2.2)
set_option maxHeartbeats 4000000 in
set_option maxRecDepth 100000 in
theorem op_restore (hlt : l.stackTraces = false) {Φ : TI → TP → TL → Prop} {Ψ : TI → TP → Prop} (hi : i + 4 ≤ Lx) (hL : Lx ≤ 2048) (hh : Con l m_L_restore 10 mcc msc NN [pv (some 0), pv (some 247)] im rm lm (QG (fun v i r q => v = some (.int c) ∧ Φ i r q)) noX)
    (hm : ∀ i1 r1 q1, Φ i1 r1 q1 → Con l m_X5_restore 9 0 0 NN [pv (some 240)] i1 r1 q1 (QI (fun y i2 => i2 240 8 = c ∧ (c = 0 → q1 247 0 = y.toInt64) ∧ Ψ i2 r1) r1 q1) noX)
    (K : ∀ i2 r2 q2, Ψ i2 r2 → PW l (m_L_law Lx xs) 12 mc ms NN 1604 (LL i) [] i2 r2 q2 Q noX) : PW l (m_L_law Lx xs) 12 (mcc + mc) (msc + ms) NN 915 (LL i) [] im rm lm Q noX := by
  refine t_aload1 dL_law_915 ?_
  refine t_aload3 dL_law_916 ?_
  refine pw_callSH (as := [pv (some 0), pv (some 247)]) (x := (0, 8, 11, 17)) (hs := []) hh rfl mc_L_restore ml_L_140 mi_L_restore in_L (okc_L_restore (by decide)) dL_law_917 (by exact Nat.le_of_ble_eq_true rfl) (fun N' v i r q h => Or.inl h.1) (fun _ _ _ _ h => h.elim) (fun N1 v1 i1 r1 q1 h1 => ?_)
  obtain ⟨rfl, rfl, h1⟩ := h1
  refine t_istore5 dL_law_920 (by exact Nat.le_of_ble_eq_true rfl) okp_i ?_
  refine t_aload2 dL_law_922 ?_
  refine g_callV0I (hm i1 r1 q1 h1) rfl ft5 rfl mc_X5_restore ml_L_142 mi_X5_restore ms_X5_restore in_X5 (okc_X5_restore (by decide)) dL_law_923 kdM (by exact Nat.le_of_ble_eq_true rfl) (fun y i2 h2 => ?_)
  refine t_istore6 dL_law_926 (by exact Nat.le_of_ble_eq_true rfl) okp_i ?_
  refine t_aload2 dL_law_928 ?_
  refine g_callV0P (M_thrown (l := l) hlt) rfl ft5 rfl mc_X5_thrown ml_L_92 mi_X5_thrown ms_X5_thrown in_X5 (okc_X5_thrown (by decide)) dL_law_929 kdM (by exact Nat.le_of_ble_eq_true rfl) ?_
  refine t_iload5 dL_law_932 ?_
  refine pw_icmp_eq 939 dL_law_934 (by decide) (fun _ => ?_) (fun h => absurd h2.1 h)
  refine t_iload5 dL_law_939 ?_
  refine pw_if_ne 956 dL_law_941 (by decide) (fun _ => ?_) (fun h0 => ?_)
  · refine pw_goto 1604 dL_law_956 (by decide) ?_
    exact PW.less LLless (K _ _ _ h2.2.2)
  · refine t_aload3 dL_law_944 ?_
    refine pw_iconst (0) dL_law_945 (by decide) ?_
    refine g_lald (k := 247) dL_law_946 kdU vin01 ?_
    refine t_iload6 dL_law_947 ?_
    refine pw_i2l dL_law_949 ?_
    refine pw_lcmp dL_law_950 ?_
    refine pw_if_eq 956 dL_law_951 (by decide) (fun _ => ?_) (fun h => absurd (by rw [show (0 : Int32).toNatClampNeg = 0 from rfl, h2.2.1 (Classical.not_not.mp h0)]; exact lgc) h)
    refine pw_goto 1604 dL_law_956 (by decide) ?_
    exact PW.less LLless (K _ _ _ h2.2.2)
set_option maxHeartbeats 4000000 in
set_option maxRecDepth 100000 in
theorem op_mill (hlt : l.stackTraces = false) {Φ : TI → TP → TL → Prop} {Ψ : TI → TP → Prop} (hi : i + 4 ≤ Lx) (hL : Lx ≤ 2048) (hh : Con l m_L_mill 10 mcc msc NN [pv (some 0), .int (xs (i + 1)), .int (xs (i + 2)), pv (some 247)] im rm lm (QG (fun v i r q => v = some (.int c) ∧ Φ i r q)) noX)
    (hm : ∀ i1 r1 q1, Φ i1 r1 q1 → Con l m_X5_mill 9 0 0 NN [pv (some 240), .int (xs (i + 1)), .int (xs (i + 2))] i1 r1 q1 (QI (fun y i2 => i2 240 8 = c ∧ (c = 0 → q1 247 0 = y.toInt64) ∧ Ψ i2 r1) r1 q1) noX)
    (K : ∀ i2 r2 q2, Ψ i2 r2 → PW l (m_L_law Lx xs) 12 mc ms NN 1604 (LL i) [] i2 r2 q2 Q noX) : PW l (m_L_law Lx xs) 12 (mcc + mc) (msc + ms) NN 959 (LL i) [] im rm lm Q noX := by
  refine t_aload1 dL_law_959 ?_
  refine t_aload0 dL_law_960 ?_
  refine t_iload4 dL_law_961 ?_
  refine pw_iconst (1) dL_law_963 (by decide) ?_
  refine pw_iadd dL_law_964 ?_
  refine pw_sld rfl (xin (k := 1) hi hL (by decide)).1 dL_law_965 ?_
  rw [show (nI i + 1).toNatClampNeg = i + 1 from (xin (k := 1) hi hL (by decide)).2]
  refine t_aload0 dL_law_966 ?_
  refine t_iload4 dL_law_967 ?_
  refine pw_iconst (2) dL_law_969 (by decide) ?_
  refine pw_iadd dL_law_970 ?_
  refine pw_sld rfl (xin (k := 2) hi hL (by decide)).1 dL_law_971 ?_
  rw [show (nI i + 2).toNatClampNeg = i + 2 from (xin (k := 2) hi hL (by decide)).2]
  refine t_aload3 dL_law_972 ?_
  refine pw_callSH (as := [pv (some 0), .int (xs (i + 1)), .int (xs (i + 2)), pv (some 247)]) (x := (0, 10, 13, 13)) (hs := [(0, 10, 17, 15)]) hh rfl mc_L_mill ml_L_143 mi_L_mill in_L (okc_L_mill (by decide)) dL_law_973 (by exact Nat.le_of_ble_eq_true rfl) (fun N' v i r q h => Or.inl h.1) (fun _ _ _ _ h => h.elim) (fun N1 v1 i1 r1 q1 h1 => ?_)
  obtain ⟨rfl, rfl, h1⟩ := h1
  refine t_istore5 dL_law_976 (by exact Nat.le_of_ble_eq_true rfl) okp_i ?_
  refine t_aload2 dL_law_978 ?_
  refine t_aload0 dL_law_979 ?_
  refine t_iload4 dL_law_980 ?_
  refine pw_iconst (1) dL_law_982 (by decide) ?_
  refine pw_iadd dL_law_983 ?_
  refine pw_sld rfl (xin (k := 1) hi hL (by decide)).1 dL_law_984 ?_
  rw [show (nI i + 1).toNatClampNeg = i + 1 from (xin (k := 1) hi hL (by decide)).2]
  refine t_aload0 dL_law_985 ?_
  refine t_iload4 dL_law_986 ?_
  refine pw_iconst (2) dL_law_988 (by decide) ?_
  refine pw_iadd dL_law_989 ?_
  refine pw_sld rfl (xin (k := 2) hi hL (by decide)).1 dL_law_990 ?_
  rw [show (nI i + 2).toNatClampNeg = i + 2 from (xin (k := 2) hi hL (by decide)).2]
  refine g_callV2I (hm i1 r1 q1 h1) rfl ft5 rfl mc_X5_mill ml_L_145 mi_X5_mill ms_X5_mill in_X5 (okc_X5_mill (by decide)) dL_law_991 kdM (by exact Nat.le_of_ble_eq_true rfl) (fun y i2 h2 => ?_)
  refine t_istore6 dL_law_994 (by exact Nat.le_of_ble_eq_true rfl) okp_i ?_
  refine t_aload2 dL_law_996 ?_
  refine g_callV0P (M_thrown (l := l) hlt) rfl ft5 rfl mc_X5_thrown ml_L_92 mi_X5_thrown ms_X5_thrown in_X5 (okc_X5_thrown (by decide)) dL_law_997 kdM (by exact Nat.le_of_ble_eq_true rfl) ?_
  refine t_iload5 dL_law_1000 ?_
  refine pw_icmp_eq 1007 dL_law_1002 (by decide) (fun _ => ?_) (fun h => absurd h2.1 h)
  refine t_iload5 dL_law_1007 ?_
  refine pw_if_ne 1024 dL_law_1009 (by decide) (fun _ => ?_) (fun h0 => ?_)
  · refine pw_goto 1604 dL_law_1024 (by decide) ?_
    exact PW.less LLless (K _ _ _ h2.2.2)
  · refine t_aload3 dL_law_1012 ?_
    refine pw_iconst (0) dL_law_1013 (by decide) ?_
    refine g_lald (k := 247) dL_law_1014 kdU vin01 ?_
    refine t_iload6 dL_law_1015 ?_
    refine pw_i2l dL_law_1017 ?_
    refine pw_lcmp dL_law_1018 ?_
    refine pw_if_eq 1024 dL_law_1019 (by decide) (fun _ => ?_) (fun h => absurd (by rw [show (0 : Int32).toNatClampNeg = 0 from rfl, h2.2.1 (Classical.not_not.mp h0)]; exact lgc) h)
    refine pw_goto 1604 dL_law_1024 (by decide) ?_
    exact PW.less LLless (K _ _ _ h2.2.2)
set_option maxHeartbeats 4000000 in
set_option maxRecDepth 100000 in
theorem op_sackAt (hlt : l.stackTraces = false) {Φ : TI → TP → TL → Prop} {Ψ : TI → TP → Prop} (hi : i + 4 ≤ Lx) (hL : Lx ≤ 2048) (hh : Con l m_L_sackAt 10 mcc msc NN [pv (some 0), .int (xs (i + 1)), .int (xs (i + 2)), pv (some 247)] im rm lm (QG (fun v i r q => v = some (.int c) ∧ Φ i r q)) noX)
    (hm : ∀ i1 r1 q1, Φ i1 r1 q1 → Con l m_X5_sackAt 9 0 0 NN [pv (some 240), .int (xs (i + 1)), .int (xs (i + 2))] i1 r1 q1 (QI (fun y i2 => i2 240 8 = c ∧ (c = 0 → q1 247 0 = y.toInt64) ∧ Ψ i2 r1) r1 q1) noX)
    (K : ∀ i2 r2 q2, Ψ i2 r2 → PW l (m_L_law Lx xs) 12 mc ms NN 1604 (LL i) [] i2 r2 q2 Q noX) : PW l (m_L_law Lx xs) 12 (mcc + mc) (msc + ms) NN 1027 (LL i) [] im rm lm Q noX := by
  refine t_aload1 dL_law_1027 ?_
  refine t_aload0 dL_law_1028 ?_
  refine t_iload4 dL_law_1029 ?_
  refine pw_iconst (1) dL_law_1031 (by decide) ?_
  refine pw_iadd dL_law_1032 ?_
  refine pw_sld rfl (xin (k := 1) hi hL (by decide)).1 dL_law_1033 ?_
  rw [show (nI i + 1).toNatClampNeg = i + 1 from (xin (k := 1) hi hL (by decide)).2]
  refine t_aload0 dL_law_1034 ?_
  refine t_iload4 dL_law_1035 ?_
  refine pw_iconst (2) dL_law_1037 (by decide) ?_
  refine pw_iadd dL_law_1038 ?_
  refine pw_sld rfl (xin (k := 2) hi hL (by decide)).1 dL_law_1039 ?_
  rw [show (nI i + 2).toNatClampNeg = i + 2 from (xin (k := 2) hi hL (by decide)).2]
  refine t_aload3 dL_law_1040 ?_
  refine pw_callSH (as := [pv (some 0), .int (xs (i + 1)), .int (xs (i + 2)), pv (some 247)]) (x := (0, 10, 13, 13)) (hs := [(0, 10, 17, 15)]) hh rfl mc_L_sackAt ml_L_146 mi_L_sackAt in_L (okc_L_sackAt (by decide)) dL_law_1041 (by exact Nat.le_of_ble_eq_true rfl) (fun N' v i r q h => Or.inl h.1) (fun _ _ _ _ h => h.elim) (fun N1 v1 i1 r1 q1 h1 => ?_)
  obtain ⟨rfl, rfl, h1⟩ := h1
  refine t_istore5 dL_law_1044 (by exact Nat.le_of_ble_eq_true rfl) okp_i ?_
  refine t_aload2 dL_law_1046 ?_
  refine t_aload0 dL_law_1047 ?_
  refine t_iload4 dL_law_1048 ?_
  refine pw_iconst (1) dL_law_1050 (by decide) ?_
  refine pw_iadd dL_law_1051 ?_
  refine pw_sld rfl (xin (k := 1) hi hL (by decide)).1 dL_law_1052 ?_
  rw [show (nI i + 1).toNatClampNeg = i + 1 from (xin (k := 1) hi hL (by decide)).2]
  refine t_aload0 dL_law_1053 ?_
  refine t_iload4 dL_law_1054 ?_
  refine pw_iconst (2) dL_law_1056 (by decide) ?_
  refine pw_iadd dL_law_1057 ?_
  refine pw_sld rfl (xin (k := 2) hi hL (by decide)).1 dL_law_1058 ?_
  rw [show (nI i + 2).toNatClampNeg = i + 2 from (xin (k := 2) hi hL (by decide)).2]
  refine g_callV2I (hm i1 r1 q1 h1) rfl ft5 rfl mc_X5_sackAt ml_L_148 mi_X5_sackAt ms_X5_sackAt in_X5 (okc_X5_sackAt (by decide)) dL_law_1059 kdM (by exact Nat.le_of_ble_eq_true rfl) (fun y i2 h2 => ?_)
  refine t_istore6 dL_law_1062 (by exact Nat.le_of_ble_eq_true rfl) okp_i ?_
  refine t_aload2 dL_law_1064 ?_
  refine g_callV0P (M_thrown (l := l) hlt) rfl ft5 rfl mc_X5_thrown ml_L_92 mi_X5_thrown ms_X5_thrown in_X5 (okc_X5_thrown (by decide)) dL_law_1065 kdM (by exact Nat.le_of_ble_eq_true rfl) ?_
  refine t_iload5 dL_law_1068 ?_
  refine pw_icmp_eq 1075 dL_law_1070 (by decide) (fun _ => ?_) (fun h => absurd h2.1 h)
  refine t_iload5 dL_law_1075 ?_
  refine pw_if_ne 1092 dL_law_1077 (by decide) (fun _ => ?_) (fun h0 => ?_)
  · refine pw_goto 1604 dL_law_1092 (by decide) ?_
    exact PW.less LLless (K _ _ _ h2.2.2)
  · refine t_aload3 dL_law_1080 ?_
    refine pw_iconst (0) dL_law_1081 (by decide) ?_
    refine g_lald (k := 247) dL_law_1082 kdU vin01 ?_
    refine t_iload6 dL_law_1083 ?_
    refine pw_i2l dL_law_1085 ?_
    refine pw_lcmp dL_law_1086 ?_
    refine pw_if_eq 1092 dL_law_1087 (by decide) (fun _ => ?_) (fun h => absurd (by rw [show (0 : Int32).toNatClampNeg = 0 from rfl, h2.2.1 (Classical.not_not.mp h0)]; exact lgc) h)
    refine pw_goto 1604 dL_law_1092 (by decide) ?_
    exact PW.less LLless (K _ _ _ h2.2.2)
set_option maxHeartbeats 4000000 in
set_option maxRecDepth 100000 in
theorem op_sackOf (hlt : l.stackTraces = false) {Φ : TI → TP → TL → Prop} {Ψ : TI → TP → Prop} (hi : i + 4 ≤ Lx) (hL : Lx ≤ 2048) (hh : Con l m_L_sackOf 10 mcc msc NN [pv (some 0), .int (xs (i + 1)), .int (xs (i + 2)), pv (some 247)] im rm lm (QG (fun v i r q => v = some (.int c) ∧ Φ i r q)) noX)
    (hm : ∀ i1 r1 q1, Φ i1 r1 q1 → Con l m_X5_sackOf 9 0 0 NN [pv (some 240), .int (xs (i + 1)), .int (xs (i + 2))] i1 r1 q1 (QI (fun y i2 => i2 240 8 = c ∧ (c = 0 → q1 247 0 = y.toInt64) ∧ Ψ i2 r1) r1 q1) noX)
    (K : ∀ i2 r2 q2, Ψ i2 r2 → PW l (m_L_law Lx xs) 12 mc ms NN 1604 (LL i) [] i2 r2 q2 Q noX) : PW l (m_L_law Lx xs) 12 (mcc + mc) (msc + ms) NN 1095 (LL i) [] im rm lm Q noX := by
  refine t_aload1 dL_law_1095 ?_
  refine t_aload0 dL_law_1096 ?_
  refine t_iload4 dL_law_1097 ?_
  refine pw_iconst (1) dL_law_1099 (by decide) ?_
  refine pw_iadd dL_law_1100 ?_
  refine pw_sld rfl (xin (k := 1) hi hL (by decide)).1 dL_law_1101 ?_
  rw [show (nI i + 1).toNatClampNeg = i + 1 from (xin (k := 1) hi hL (by decide)).2]
  refine t_aload0 dL_law_1102 ?_
  refine t_iload4 dL_law_1103 ?_
  refine pw_iconst (2) dL_law_1105 (by decide) ?_
  refine pw_iadd dL_law_1106 ?_
  refine pw_sld rfl (xin (k := 2) hi hL (by decide)).1 dL_law_1107 ?_
  rw [show (nI i + 2).toNatClampNeg = i + 2 from (xin (k := 2) hi hL (by decide)).2]
  refine t_aload3 dL_law_1108 ?_
  refine pw_callSH (as := [pv (some 0), .int (xs (i + 1)), .int (xs (i + 2)), pv (some 247)]) (x := (0, 10, 13, 15)) (hs := []) hh rfl mc_L_sackOf ml_L_149 mi_L_sackOf in_L (okc_L_sackOf (by decide)) dL_law_1109 (by exact Nat.le_of_ble_eq_true rfl) (fun N' v i r q h => Or.inl h.1) (fun _ _ _ _ h => h.elim) (fun N1 v1 i1 r1 q1 h1 => ?_)
  obtain ⟨rfl, rfl, h1⟩ := h1
  refine t_istore5 dL_law_1112 (by exact Nat.le_of_ble_eq_true rfl) okp_i ?_
  refine t_aload2 dL_law_1114 ?_
  refine t_aload0 dL_law_1115 ?_
  refine t_iload4 dL_law_1116 ?_
  refine pw_iconst (1) dL_law_1118 (by decide) ?_
  refine pw_iadd dL_law_1119 ?_
  refine pw_sld rfl (xin (k := 1) hi hL (by decide)).1 dL_law_1120 ?_
  rw [show (nI i + 1).toNatClampNeg = i + 1 from (xin (k := 1) hi hL (by decide)).2]
  refine t_aload0 dL_law_1121 ?_
  refine t_iload4 dL_law_1122 ?_
  refine pw_iconst (2) dL_law_1124 (by decide) ?_
  refine pw_iadd dL_law_1125 ?_
  refine pw_sld rfl (xin (k := 2) hi hL (by decide)).1 dL_law_1126 ?_
  rw [show (nI i + 2).toNatClampNeg = i + 2 from (xin (k := 2) hi hL (by decide)).2]
  refine g_callV2I (hm i1 r1 q1 h1) rfl ft5 rfl mc_X5_sackOf ml_L_151 mi_X5_sackOf ms_X5_sackOf in_X5 (okc_X5_sackOf (by decide)) dL_law_1127 kdM (by exact Nat.le_of_ble_eq_true rfl) (fun y i2 h2 => ?_)
  refine t_istore6 dL_law_1130 (by exact Nat.le_of_ble_eq_true rfl) okp_i ?_
  refine t_aload2 dL_law_1132 ?_
  refine g_callV0P (M_thrown (l := l) hlt) rfl ft5 rfl mc_X5_thrown ml_L_92 mi_X5_thrown ms_X5_thrown in_X5 (okc_X5_thrown (by decide)) dL_law_1133 kdM (by exact Nat.le_of_ble_eq_true rfl) ?_
  refine t_iload5 dL_law_1136 ?_
  refine pw_icmp_eq 1143 dL_law_1138 (by decide) (fun _ => ?_) (fun h => absurd h2.1 h)
  refine t_iload5 dL_law_1143 ?_
  refine pw_if_ne 1160 dL_law_1145 (by decide) (fun _ => ?_) (fun h0 => ?_)
  · refine pw_goto 1604 dL_law_1160 (by decide) ?_
    exact PW.less LLless (K _ _ _ h2.2.2)
  · refine t_aload3 dL_law_1148 ?_
    refine pw_iconst (0) dL_law_1149 (by decide) ?_
    refine g_lald (k := 247) dL_law_1150 kdU vin01 ?_
    refine t_iload6 dL_law_1151 ?_
    refine pw_i2l dL_law_1153 ?_
    refine pw_lcmp dL_law_1154 ?_
    refine pw_if_eq 1160 dL_law_1155 (by decide) (fun _ => ?_) (fun h => absurd (by rw [show (0 : Int32).toNatClampNeg = 0 from rfl, h2.2.1 (Classical.not_not.mp h0)]; exact lgc) h)
    refine pw_goto 1604 dL_law_1160 (by decide) ?_
    exact PW.less LLless (K _ _ _ h2.2.2)
set_option maxHeartbeats 4000000 in
set_option maxRecDepth 100000 in
theorem op_whyNot (hlt : l.stackTraces = false) {Φ : TI → TP → TL → Prop} {Ψ : TI → TP → Prop} (hi : i + 4 ≤ Lx) (hL : Lx ≤ 2048) (hh : Con l m_L_whyNot 10 mcc msc NN [pv (some 0), .int (xs (i + 1)), pv (some 247)] im rm lm (QG (fun v i r q => v = some (.int c) ∧ Φ i r q)) noX)
    (hm : ∀ i1 r1 q1, Φ i1 r1 q1 → Con l m_X5_whyNot 9 0 0 NN [pv (some 240), .int (xs (i + 1))] i1 r1 q1 (QI (fun y i2 => i2 240 8 = c ∧ (c = 0 → q1 247 0 = y.toInt64) ∧ Ψ i2 r1) r1 q1) noX)
    (K : ∀ i2 r2 q2, Ψ i2 r2 → PW l (m_L_law Lx xs) 12 mc ms NN 1604 (LL i) [] i2 r2 q2 Q noX) : PW l (m_L_law Lx xs) 12 (mcc + mc) (msc + ms) NN 1163 (LL i) [] im rm lm Q noX := by
  refine t_aload1 dL_law_1163 ?_
  refine t_aload0 dL_law_1164 ?_
  refine t_iload4 dL_law_1165 ?_
  refine pw_iconst (1) dL_law_1167 (by decide) ?_
  refine pw_iadd dL_law_1168 ?_
  refine pw_sld rfl (xin (k := 1) hi hL (by decide)).1 dL_law_1169 ?_
  rw [show (nI i + 1).toNatClampNeg = i + 1 from (xin (k := 1) hi hL (by decide)).2]
  refine t_aload3 dL_law_1170 ?_
  refine pw_callSH (as := [pv (some 0), .int (xs (i + 1)), pv (some 247)]) (x := (0, 9, 12, 13)) (hs := []) hh rfl mc_L_whyNot ml_L_152 mi_L_whyNot in_L (okc_L_whyNot (by decide)) dL_law_1171 (by exact Nat.le_of_ble_eq_true rfl) (fun N' v i r q h => Or.inl h.1) (fun _ _ _ _ h => h.elim) (fun N1 v1 i1 r1 q1 h1 => ?_)
  obtain ⟨rfl, rfl, h1⟩ := h1
  refine t_istore5 dL_law_1174 (by exact Nat.le_of_ble_eq_true rfl) okp_i ?_
  refine t_aload2 dL_law_1176 ?_
  refine t_aload0 dL_law_1177 ?_
  refine t_iload4 dL_law_1178 ?_
  refine pw_iconst (1) dL_law_1180 (by decide) ?_
  refine pw_iadd dL_law_1181 ?_
  refine pw_sld rfl (xin (k := 1) hi hL (by decide)).1 dL_law_1182 ?_
  rw [show (nI i + 1).toNatClampNeg = i + 1 from (xin (k := 1) hi hL (by decide)).2]
  refine g_callV1I (hm i1 r1 q1 h1) rfl ft5 rfl mc_X5_whyNot ml_L_154 mi_X5_whyNot ms_X5_whyNot in_X5 (okc_X5_whyNot (by decide)) dL_law_1183 kdM (by exact Nat.le_of_ble_eq_true rfl) (fun y i2 h2 => ?_)
  refine t_istore6 dL_law_1186 (by exact Nat.le_of_ble_eq_true rfl) okp_i ?_
  refine t_aload2 dL_law_1188 ?_
  refine g_callV0P (M_thrown (l := l) hlt) rfl ft5 rfl mc_X5_thrown ml_L_92 mi_X5_thrown ms_X5_thrown in_X5 (okc_X5_thrown (by decide)) dL_law_1189 kdM (by exact Nat.le_of_ble_eq_true rfl) ?_
  refine t_iload5 dL_law_1192 ?_
  refine pw_icmp_eq 1199 dL_law_1194 (by decide) (fun _ => ?_) (fun h => absurd h2.1 h)
  refine t_iload5 dL_law_1199 ?_
  refine pw_if_ne 1216 dL_law_1201 (by decide) (fun _ => ?_) (fun h0 => ?_)
  · refine pw_goto 1604 dL_law_1216 (by decide) ?_
    exact PW.less LLless (K _ _ _ h2.2.2)
  · refine t_aload3 dL_law_1204 ?_
    refine pw_iconst (0) dL_law_1205 (by decide) ?_
    refine g_lald (k := 247) dL_law_1206 kdU vin01 ?_
    refine t_iload6 dL_law_1207 ?_
    refine pw_i2l dL_law_1209 ?_
    refine pw_lcmp dL_law_1210 ?_
    refine pw_if_eq 1216 dL_law_1211 (by decide) (fun _ => ?_) (fun h => absurd (by rw [show (0 : Int32).toNatClampNeg = 0 from rfl, h2.2.1 (Classical.not_not.mp h0)]; exact lgc) h)
    refine pw_goto 1604 dL_law_1216 (by decide) ?_
    exact PW.less LLless (K _ _ _ h2.2.2)
set_option maxHeartbeats 4000000 in
set_option maxRecDepth 100000 in
theorem op_tide (hlt : l.stackTraces = false) {Φ : TI → TP → TL → Prop} {Ψ : TI → TP → Prop} (hi : i + 4 ≤ Lx) (hL : Lx ≤ 2048) (hh : Con l m_L_tide 10 mcc msc NN [pv (some 0), .int (xs (i + 1)), pv (some 247)] im rm lm (QG (fun v i r q => v = some (.int c) ∧ Φ i r q)) noX)
    (hm : ∀ i1 r1 q1, Φ i1 r1 q1 → Con l m_X5_tide 9 0 0 NN [pv (some 240), .int (xs (i + 1))] i1 r1 q1 (QI (fun y i2 => i2 240 8 = c ∧ (c = 0 → q1 247 0 = y.toInt64) ∧ Ψ i2 r1) r1 q1) noX)
    (K : ∀ i2 r2 q2, Ψ i2 r2 → PW l (m_L_law Lx xs) 12 mc ms NN 1604 (LL i) [] i2 r2 q2 Q noX) : PW l (m_L_law Lx xs) 12 (mcc + mc) (msc + ms) NN 1219 (LL i) [] im rm lm Q noX := by
  refine t_aload1 dL_law_1219 ?_
  refine t_aload0 dL_law_1220 ?_
  refine t_iload4 dL_law_1221 ?_
  refine pw_iconst (1) dL_law_1223 (by decide) ?_
  refine pw_iadd dL_law_1224 ?_
  refine pw_sld rfl (xin (k := 1) hi hL (by decide)).1 dL_law_1225 ?_
  rw [show (nI i + 1).toNatClampNeg = i + 1 from (xin (k := 1) hi hL (by decide)).2]
  refine t_aload3 dL_law_1226 ?_
  refine pw_callSH (as := [pv (some 0), .int (xs (i + 1)), pv (some 247)]) (x := (0, 9, 12, 15)) (hs := []) hh rfl mc_L_tide ml_L_155 mi_L_tide in_L (okc_L_tide (by decide)) dL_law_1227 (by exact Nat.le_of_ble_eq_true rfl) (fun N' v i r q h => Or.inl h.1) (fun _ _ _ _ h => h.elim) (fun N1 v1 i1 r1 q1 h1 => ?_)
  obtain ⟨rfl, rfl, h1⟩ := h1
  refine t_istore5 dL_law_1230 (by exact Nat.le_of_ble_eq_true rfl) okp_i ?_
  refine t_aload2 dL_law_1232 ?_
  refine t_aload0 dL_law_1233 ?_
  refine t_iload4 dL_law_1234 ?_
  refine pw_iconst (1) dL_law_1236 (by decide) ?_
  refine pw_iadd dL_law_1237 ?_
  refine pw_sld rfl (xin (k := 1) hi hL (by decide)).1 dL_law_1238 ?_
  rw [show (nI i + 1).toNatClampNeg = i + 1 from (xin (k := 1) hi hL (by decide)).2]
  refine g_callV1I (hm i1 r1 q1 h1) rfl ft5 rfl mc_X5_tide ml_L_157 mi_X5_tide ms_X5_tide in_X5 (okc_X5_tide (by decide)) dL_law_1239 kdM (by exact Nat.le_of_ble_eq_true rfl) (fun y i2 h2 => ?_)
  refine t_istore6 dL_law_1242 (by exact Nat.le_of_ble_eq_true rfl) okp_i ?_
  refine t_aload2 dL_law_1244 ?_
  refine g_callV0P (M_thrown (l := l) hlt) rfl ft5 rfl mc_X5_thrown ml_L_92 mi_X5_thrown ms_X5_thrown in_X5 (okc_X5_thrown (by decide)) dL_law_1245 kdM (by exact Nat.le_of_ble_eq_true rfl) ?_
  refine t_iload5 dL_law_1248 ?_
  refine pw_icmp_eq 1255 dL_law_1250 (by decide) (fun _ => ?_) (fun h => absurd h2.1 h)
  refine t_iload5 dL_law_1255 ?_
  refine pw_if_ne 1272 dL_law_1257 (by decide) (fun _ => ?_) (fun h0 => ?_)
  · refine pw_goto 1604 dL_law_1272 (by decide) ?_
    exact PW.less LLless (K _ _ _ h2.2.2)
  · refine t_aload3 dL_law_1260 ?_
    refine pw_iconst (0) dL_law_1261 (by decide) ?_
    refine g_lald (k := 247) dL_law_1262 kdU vin01 ?_
    refine t_iload6 dL_law_1263 ?_
    refine pw_i2l dL_law_1265 ?_
    refine pw_lcmp dL_law_1266 ?_
    refine pw_if_eq 1272 dL_law_1267 (by decide) (fun _ => ?_) (fun h => absurd (by rw [show (0 : Int32).toNatClampNeg = 0 from rfl, h2.2.1 (Classical.not_not.mp h0)]; exact lgc) h)
    refine pw_goto 1604 dL_law_1272 (by decide) ?_
    exact PW.less LLless (K _ _ _ h2.2.2)
set_option maxHeartbeats 4000000 in
set_option maxRecDepth 100000 in
theorem op_count (hlt : l.stackTraces = false) {Φ : TI → TP → TL → Prop} {Ψ : TI → TP → Prop} (hi : i + 4 ≤ Lx) (hL : Lx ≤ 2048) (hh : Con l m_L_count 10 mcc msc NN [pv (some 0), .int (xs (i + 1)), pv (some 247)] im rm lm (QG (fun v i r q => v = some (.int c) ∧ Φ i r q)) noX)
    (hm : ∀ i1 r1 q1, Φ i1 r1 q1 → Con l m_X5_count 9 0 0 NN [pv (some 240), .int (xs (i + 1))] i1 r1 q1 (QI (fun y i2 => i2 240 8 = c ∧ (c = 0 → q1 247 0 = y.toInt64) ∧ Ψ i2 r1) r1 q1) noX)
    (K : ∀ i2 r2 q2, Ψ i2 r2 → PW l (m_L_law Lx xs) 12 mc ms NN 1604 (LL i) [] i2 r2 q2 Q noX) : PW l (m_L_law Lx xs) 12 (mcc + mc) (msc + ms) NN 1275 (LL i) [] im rm lm Q noX := by
  refine t_aload1 dL_law_1275 ?_
  refine t_aload0 dL_law_1276 ?_
  refine t_iload4 dL_law_1277 ?_
  refine pw_iconst (1) dL_law_1279 (by decide) ?_
  refine pw_iadd dL_law_1280 ?_
  refine pw_sld rfl (xin (k := 1) hi hL (by decide)).1 dL_law_1281 ?_
  rw [show (nI i + 1).toNatClampNeg = i + 1 from (xin (k := 1) hi hL (by decide)).2]
  refine t_aload3 dL_law_1282 ?_
  refine pw_callSH (as := [pv (some 0), .int (xs (i + 1)), pv (some 247)]) (x := (0, 9, 12, 15)) (hs := []) hh rfl mc_L_count ml_L_158 mi_L_count in_L (okc_L_count (by decide)) dL_law_1283 (by exact Nat.le_of_ble_eq_true rfl) (fun N' v i r q h => Or.inl h.1) (fun _ _ _ _ h => h.elim) (fun N1 v1 i1 r1 q1 h1 => ?_)
  obtain ⟨rfl, rfl, h1⟩ := h1
  refine t_istore5 dL_law_1286 (by exact Nat.le_of_ble_eq_true rfl) okp_i ?_
  refine t_aload2 dL_law_1288 ?_
  refine t_aload0 dL_law_1289 ?_
  refine t_iload4 dL_law_1290 ?_
  refine pw_iconst (1) dL_law_1292 (by decide) ?_
  refine pw_iadd dL_law_1293 ?_
  refine pw_sld rfl (xin (k := 1) hi hL (by decide)).1 dL_law_1294 ?_
  rw [show (nI i + 1).toNatClampNeg = i + 1 from (xin (k := 1) hi hL (by decide)).2]
  refine g_callV1I (hm i1 r1 q1 h1) rfl ft5 rfl mc_X5_count ml_L_160 mi_X5_count ms_X5_count in_X5 (okc_X5_count (by decide)) dL_law_1295 kdM (by exact Nat.le_of_ble_eq_true rfl) (fun y i2 h2 => ?_)
  refine t_istore6 dL_law_1298 (by exact Nat.le_of_ble_eq_true rfl) okp_i ?_
  refine t_aload2 dL_law_1300 ?_
  refine g_callV0P (M_thrown (l := l) hlt) rfl ft5 rfl mc_X5_thrown ml_L_92 mi_X5_thrown ms_X5_thrown in_X5 (okc_X5_thrown (by decide)) dL_law_1301 kdM (by exact Nat.le_of_ble_eq_true rfl) ?_
  refine t_iload5 dL_law_1304 ?_
  refine pw_icmp_eq 1311 dL_law_1306 (by decide) (fun _ => ?_) (fun h => absurd h2.1 h)
  refine t_iload5 dL_law_1311 ?_
  refine pw_if_ne 1328 dL_law_1313 (by decide) (fun _ => ?_) (fun h0 => ?_)
  · refine pw_goto 1604 dL_law_1328 (by decide) ?_
    exact PW.less LLless (K _ _ _ h2.2.2)
  · refine t_aload3 dL_law_1316 ?_
    refine pw_iconst (0) dL_law_1317 (by decide) ?_
    refine g_lald (k := 247) dL_law_1318 kdU vin01 ?_
    refine t_iload6 dL_law_1319 ?_
    refine pw_i2l dL_law_1321 ?_
    refine pw_lcmp dL_law_1322 ?_
    refine pw_if_eq 1328 dL_law_1323 (by decide) (fun _ => ?_) (fun h => absurd (by rw [show (0 : Int32).toNatClampNeg = 0 from rfl, h2.2.1 (Classical.not_not.mp h0)]; exact lgc) h)
    refine pw_goto 1604 dL_law_1328 (by decide) ?_
    exact PW.less LLless (K _ _ _ h2.2.2)
set_option maxHeartbeats 4000000 in
set_option maxRecDepth 100000 in
theorem op_next (hlt : l.stackTraces = false) {Φ : TI → TP → TL → Prop} {Ψ : TI → TP → Prop} (hi : i + 4 ≤ Lx) (hL : Lx ≤ 2048) (hh : Con l m_L_next 10 mcc msc NN [pv (some 0), .int (xs (i + 1)), pv (some 247)] im rm lm (QG (fun v i r q => v = some (.int c) ∧ Φ i r q)) noX)
    (hm : ∀ i1 r1 q1, Φ i1 r1 q1 → Con l m_X5_next 9 0 0 NN [pv (some 240), .int (xs (i + 1))] i1 r1 q1 (QI (fun y i2 => i2 240 8 = c ∧ (c = 0 → q1 247 0 = y.toInt64) ∧ Ψ i2 r1) r1 q1) noX)
    (K : ∀ i2 r2 q2, Ψ i2 r2 → PW l (m_L_law Lx xs) 12 mc ms NN 1604 (LL i) [] i2 r2 q2 Q noX) : PW l (m_L_law Lx xs) 12 (mcc + mc) (msc + ms) NN 1331 (LL i) [] im rm lm Q noX := by
  refine t_aload1 dL_law_1331 ?_
  refine t_aload0 dL_law_1332 ?_
  refine t_iload4 dL_law_1333 ?_
  refine pw_iconst (1) dL_law_1335 (by decide) ?_
  refine pw_iadd dL_law_1336 ?_
  refine pw_sld rfl (xin (k := 1) hi hL (by decide)).1 dL_law_1337 ?_
  rw [show (nI i + 1).toNatClampNeg = i + 1 from (xin (k := 1) hi hL (by decide)).2]
  refine t_aload3 dL_law_1338 ?_
  refine pw_callSH (as := [pv (some 0), .int (xs (i + 1)), pv (some 247)]) (x := (0, 9, 12, 15)) (hs := []) hh rfl mc_L_next ml_L_161 mi_L_next in_L (okc_L_next (by decide)) dL_law_1339 (by exact Nat.le_of_ble_eq_true rfl) (fun N' v i r q h => Or.inl h.1) (fun _ _ _ _ h => h.elim) (fun N1 v1 i1 r1 q1 h1 => ?_)
  obtain ⟨rfl, rfl, h1⟩ := h1
  refine t_istore5 dL_law_1342 (by exact Nat.le_of_ble_eq_true rfl) okp_i ?_
  refine t_aload2 dL_law_1344 ?_
  refine t_aload0 dL_law_1345 ?_
  refine t_iload4 dL_law_1346 ?_
  refine pw_iconst (1) dL_law_1348 (by decide) ?_
  refine pw_iadd dL_law_1349 ?_
  refine pw_sld rfl (xin (k := 1) hi hL (by decide)).1 dL_law_1350 ?_
  rw [show (nI i + 1).toNatClampNeg = i + 1 from (xin (k := 1) hi hL (by decide)).2]
  refine g_callV1I (hm i1 r1 q1 h1) rfl ft5 rfl mc_X5_next ml_L_163 mi_X5_next ms_X5_next in_X5 (okc_X5_next (by decide)) dL_law_1351 kdM (by exact Nat.le_of_ble_eq_true rfl) (fun y i2 h2 => ?_)
  refine t_istore6 dL_law_1354 (by exact Nat.le_of_ble_eq_true rfl) okp_i ?_
  refine t_aload2 dL_law_1356 ?_
  refine g_callV0P (M_thrown (l := l) hlt) rfl ft5 rfl mc_X5_thrown ml_L_92 mi_X5_thrown ms_X5_thrown in_X5 (okc_X5_thrown (by decide)) dL_law_1357 kdM (by exact Nat.le_of_ble_eq_true rfl) ?_
  refine t_iload5 dL_law_1360 ?_
  refine pw_icmp_eq 1367 dL_law_1362 (by decide) (fun _ => ?_) (fun h => absurd h2.1 h)
  refine t_iload5 dL_law_1367 ?_
  refine pw_if_ne 1384 dL_law_1369 (by decide) (fun _ => ?_) (fun h0 => ?_)
  · refine pw_goto 1604 dL_law_1384 (by decide) ?_
    exact PW.less LLless (K _ _ _ h2.2.2)
  · refine t_aload3 dL_law_1372 ?_
    refine pw_iconst (0) dL_law_1373 (by decide) ?_
    refine g_lald (k := 247) dL_law_1374 kdU vin01 ?_
    refine t_iload6 dL_law_1375 ?_
    refine pw_i2l dL_law_1377 ?_
    refine pw_lcmp dL_law_1378 ?_
    refine pw_if_eq 1384 dL_law_1379 (by decide) (fun _ => ?_) (fun h => absurd (by rw [show (0 : Int32).toNatClampNeg = 0 from rfl, h2.2.1 (Classical.not_not.mp h0)]; exact lgc) h)
    refine pw_goto 1604 dL_law_1384 (by decide) ?_
    exact PW.less LLless (K _ _ _ h2.2.2)
set_option maxHeartbeats 4000000 in
set_option maxRecDepth 100000 in
theorem op_chosen {Φ : TI → TP → TL → Prop} {Ψ : TI → TP → Prop}  (hh : Con l m_X4_chosen 9 0 0 NN [pv (some 0)] im rm lm (QG (fun v i r q => v = some (.int x) ∧ Φ i r q)) noX)
    (hm : ∀ i1 r1 q1, Φ i1 r1 q1 → Con l m_X5_chosen 9 0 0 NN [pv (some 240)] i1 r1 q1 (QI (fun y i2 => y = x ∧ Ψ i2 r1) r1 q1) noX)
    (K : ∀ i2 r2 q2, Ψ i2 r2 → PW l (m_L_law Lx xs) 12 mc ms NN 1604 (LL i) [] i2 r2 q2 Q noX) : PW l (m_L_law Lx xs) 12 mc ms NN 1387 (LL i) [] im rm lm Q noX := by
  refine t_aload1 dL_law_1387 ?_
  refine g_callV0G hh rfl ft4 rfl mc_X4_chosen ml_L_164 mi_X4_chosen ms_X4_chosen in_X4 (okc_X4_chosen (by decide)) dL_law_1388 kdT (by exact Nat.le_of_ble_eq_true rfl) (fun _ _ _ _ h => h.elim) ⟨Nat.zero_le _, Nat.zero_le _⟩ (fun v1 i1 r1 q1 h1 => ?_)
  obtain ⟨rfl, h1⟩ := h1
  refine t_aload2 dL_law_1391 ?_
  refine g_callV0I (hm i1 r1 q1 h1) rfl ft5 rfl mc_X5_chosen ml_L_167 mi_X5_chosen ms_X5_chosen in_X5 (okc_X5_chosen (by decide)) dL_law_1392 kdM (by exact Nat.le_of_ble_eq_true rfl) (fun y i2 h2 => ?_)
  refine pw_icmp_eq 1604 dL_law_1395 (by decide) (fun _ => ?_) (fun h => absurd h2.1.symm h)
  exact PW.less LLless (K _ _ _ h2.2)
set_option maxHeartbeats 4000000 in
set_option maxRecDepth 100000 in
theorem op_ifPassed (hlt : l.stackTraces = false) {Φ : TI → TP → TL → Prop} {Ψ : TI → TP → Prop} (hi : i + 4 ≤ Lx) (hL : Lx ≤ 2048) (hh : Con l m_L_ifPassed 10 mcc msc NN [pv (some 0), .int (xs (i + 1)), .int (xs (i + 2)), pv (some 247)] im rm lm (QG (fun v i r q => v = some (.int c) ∧ Φ i r q)) noX)
    (hm : ∀ i1 r1 q1, Φ i1 r1 q1 → Con l m_X5_ifPassed 9 0 0 NN [pv (some 240), .int (xs (i + 1)), .int (xs (i + 2))] i1 r1 q1 (QI (fun y i2 => i2 240 8 = c ∧ (c = 0 → q1 247 0 = y.toInt64) ∧ Ψ i2 r1) r1 q1) noX)
    (K : ∀ i2 r2 q2, Ψ i2 r2 → PW l (m_L_law Lx xs) 12 mc ms NN 1604 (LL i) [] i2 r2 q2 Q noX) : PW l (m_L_law Lx xs) 12 (mcc + mc) (msc + ms) NN 1400 (LL i) [] im rm lm Q noX := by
  refine t_aload1 dL_law_1400 ?_
  refine t_aload0 dL_law_1401 ?_
  refine t_iload4 dL_law_1402 ?_
  refine pw_iconst (1) dL_law_1404 (by decide) ?_
  refine pw_iadd dL_law_1405 ?_
  refine pw_sld rfl (xin (k := 1) hi hL (by decide)).1 dL_law_1406 ?_
  rw [show (nI i + 1).toNatClampNeg = i + 1 from (xin (k := 1) hi hL (by decide)).2]
  refine t_aload0 dL_law_1407 ?_
  refine t_iload4 dL_law_1408 ?_
  refine pw_iconst (2) dL_law_1410 (by decide) ?_
  refine pw_iadd dL_law_1411 ?_
  refine pw_sld rfl (xin (k := 2) hi hL (by decide)).1 dL_law_1412 ?_
  rw [show (nI i + 2).toNatClampNeg = i + 2 from (xin (k := 2) hi hL (by decide)).2]
  refine t_aload3 dL_law_1413 ?_
  refine pw_callSH (as := [pv (some 0), .int (xs (i + 1)), .int (xs (i + 2)), pv (some 247)]) (x := (0, 10, 13, 15)) (hs := []) hh rfl mc_L_ifPassed ml_L_168 mi_L_ifPassed in_L (okc_L_ifPassed (by decide)) dL_law_1414 (by exact Nat.le_of_ble_eq_true rfl) (fun N' v i r q h => Or.inl h.1) (fun _ _ _ _ h => h.elim) (fun N1 v1 i1 r1 q1 h1 => ?_)
  obtain ⟨rfl, rfl, h1⟩ := h1
  refine t_istore5 dL_law_1417 (by exact Nat.le_of_ble_eq_true rfl) okp_i ?_
  refine t_aload2 dL_law_1419 ?_
  refine t_aload0 dL_law_1420 ?_
  refine t_iload4 dL_law_1421 ?_
  refine pw_iconst (1) dL_law_1423 (by decide) ?_
  refine pw_iadd dL_law_1424 ?_
  refine pw_sld rfl (xin (k := 1) hi hL (by decide)).1 dL_law_1425 ?_
  rw [show (nI i + 1).toNatClampNeg = i + 1 from (xin (k := 1) hi hL (by decide)).2]
  refine t_aload0 dL_law_1426 ?_
  refine t_iload4 dL_law_1427 ?_
  refine pw_iconst (2) dL_law_1429 (by decide) ?_
  refine pw_iadd dL_law_1430 ?_
  refine pw_sld rfl (xin (k := 2) hi hL (by decide)).1 dL_law_1431 ?_
  rw [show (nI i + 2).toNatClampNeg = i + 2 from (xin (k := 2) hi hL (by decide)).2]
  refine g_callV2I (hm i1 r1 q1 h1) rfl ft5 rfl mc_X5_ifPassed ml_L_170 mi_X5_ifPassed ms_X5_ifPassed in_X5 (okc_X5_ifPassed (by decide)) dL_law_1432 kdM (by exact Nat.le_of_ble_eq_true rfl) (fun y i2 h2 => ?_)
  refine t_istore6 dL_law_1435 (by exact Nat.le_of_ble_eq_true rfl) okp_i ?_
  refine t_aload2 dL_law_1437 ?_
  refine g_callV0P (M_thrown (l := l) hlt) rfl ft5 rfl mc_X5_thrown ml_L_92 mi_X5_thrown ms_X5_thrown in_X5 (okc_X5_thrown (by decide)) dL_law_1438 kdM (by exact Nat.le_of_ble_eq_true rfl) ?_
  refine t_iload5 dL_law_1441 ?_
  refine pw_icmp_eq 1448 dL_law_1443 (by decide) (fun _ => ?_) (fun h => absurd h2.1 h)
  refine t_iload5 dL_law_1448 ?_
  refine pw_if_ne 1465 dL_law_1450 (by decide) (fun _ => ?_) (fun h0 => ?_)
  · refine pw_goto 1604 dL_law_1465 (by decide) ?_
    exact PW.less LLless (K _ _ _ h2.2.2)
  · refine t_aload3 dL_law_1453 ?_
    refine pw_iconst (0) dL_law_1454 (by decide) ?_
    refine g_lald (k := 247) dL_law_1455 kdU vin01 ?_
    refine t_iload6 dL_law_1456 ?_
    refine pw_i2l dL_law_1458 ?_
    refine pw_lcmp dL_law_1459 ?_
    refine pw_if_eq 1465 dL_law_1460 (by decide) (fun _ => ?_) (fun h => absurd (by rw [show (0 : Int32).toNatClampNeg = 0 from rfl, h2.2.1 (Classical.not_not.mp h0)]; exact lgc) h)
    refine pw_goto 1604 dL_law_1465 (by decide) ?_
    exact PW.less LLless (K _ _ _ h2.2.2)
set_option maxHeartbeats 4000000 in
set_option maxRecDepth 100000 in
theorem op_groundIn {Φ : TI → TP → TL → Prop} {Ψ : TI → TP → Prop} (hi : i + 4 ≤ Lx) (hL : Lx ≤ 2048) (hh : Con l m_X4_groundIn 9 0 0 NN [pv (some 0), .int (xs (i + 1))] im rm lm (QG (fun v i r q => v = some (.int x) ∧ Φ i r q)) noX)
    (hm : ∀ i1 r1 q1, Φ i1 r1 q1 → Con l m_X5_groundIn 9 0 0 NN [pv (some 240), .int (xs (i + 1))] i1 r1 q1 (QI (fun y i2 => y = x ∧ Ψ i2 r1) r1 q1) noX)
    (K : ∀ i2 r2 q2, Ψ i2 r2 → PW l (m_L_law Lx xs) 12 mc ms NN 1604 (LL i) [] i2 r2 q2 Q noX) : PW l (m_L_law Lx xs) 12 mc ms NN 1468 (LL i) [] im rm lm Q noX := by
  refine t_aload1 dL_law_1468 ?_
  refine t_aload0 dL_law_1469 ?_
  refine t_iload4 dL_law_1470 ?_
  refine pw_iconst (1) dL_law_1472 (by decide) ?_
  refine pw_iadd dL_law_1473 ?_
  refine pw_sld rfl (xin (k := 1) hi hL (by decide)).1 dL_law_1474 ?_
  rw [show (nI i + 1).toNatClampNeg = i + 1 from (xin (k := 1) hi hL (by decide)).2]
  refine g_callV1G hh rfl ft4 rfl mc_X4_groundIn ml_L_171 mi_X4_groundIn ms_X4_groundIn in_X4 (okc_X4_groundIn (by decide)) dL_law_1475 kdT (by exact Nat.le_of_ble_eq_true rfl) (fun _ _ _ _ h => h.elim) ⟨Nat.zero_le _, Nat.zero_le _⟩ (fun v1 i1 r1 q1 h1 => ?_)
  obtain ⟨rfl, h1⟩ := h1
  refine t_aload2 dL_law_1478 ?_
  refine t_aload0 dL_law_1479 ?_
  refine t_iload4 dL_law_1480 ?_
  refine pw_iconst (1) dL_law_1482 (by decide) ?_
  refine pw_iadd dL_law_1483 ?_
  refine pw_sld rfl (xin (k := 1) hi hL (by decide)).1 dL_law_1484 ?_
  rw [show (nI i + 1).toNatClampNeg = i + 1 from (xin (k := 1) hi hL (by decide)).2]
  refine g_callV1I (hm i1 r1 q1 h1) rfl ft5 rfl mc_X5_groundIn ml_L_174 mi_X5_groundIn ms_X5_groundIn in_X5 (okc_X5_groundIn (by decide)) dL_law_1485 kdM (by exact Nat.le_of_ble_eq_true rfl) (fun y i2 h2 => ?_)
  refine pw_icmp_eq 1604 dL_law_1488 (by decide) (fun _ => ?_) (fun h => absurd h2.1.symm h)
  exact PW.less LLless (K _ _ _ h2.2)
set_option maxHeartbeats 4000000 in
set_option maxRecDepth 100000 in
theorem op_bestStone (hlt : l.stackTraces = false) {Φ : TI → TP → TL → Prop} {Ψ : TI → TP → Prop} (hi : i + 4 ≤ Lx) (hL : Lx ≤ 2048) (hh : Con l m_L_bestStone 10 mcc msc NN [pv (some 0), .int (xs (i + 1)), pv (some 247)] im rm lm (QG (fun v i r q => v = some (.int c) ∧ Φ i r q)) noX)
    (hm : ∀ i1 r1 q1, Φ i1 r1 q1 → Con l m_X5_bestStone 9 0 0 NN [pv (some 240), .int (xs (i + 1))] i1 r1 q1 (QI (fun y i2 => i2 240 8 = c ∧ (c = 0 → q1 247 0 = y.toInt64) ∧ Ψ i2 r1) r1 q1) noX)
    (K : ∀ i2 r2 q2, Ψ i2 r2 → PW l (m_L_law Lx xs) 12 mc ms NN 1604 (LL i) [] i2 r2 q2 Q noX) : PW l (m_L_law Lx xs) 12 (mcc + mc) (msc + ms) NN 1493 (LL i) [] im rm lm Q noX := by
  refine t_aload1 dL_law_1493 ?_
  refine t_aload0 dL_law_1494 ?_
  refine t_iload4 dL_law_1495 ?_
  refine pw_iconst (1) dL_law_1497 (by decide) ?_
  refine pw_iadd dL_law_1498 ?_
  refine pw_sld rfl (xin (k := 1) hi hL (by decide)).1 dL_law_1499 ?_
  rw [show (nI i + 1).toNatClampNeg = i + 1 from (xin (k := 1) hi hL (by decide)).2]
  refine t_aload3 dL_law_1500 ?_
  refine pw_callSH (as := [pv (some 0), .int (xs (i + 1)), pv (some 247)]) (x := (0, 9, 12, 13)) (hs := []) hh rfl mc_L_bestStone ml_L_175 mi_L_bestStone in_L (okc_L_bestStone (by decide)) dL_law_1501 (by exact Nat.le_of_ble_eq_true rfl) (fun N' v i r q h => Or.inl h.1) (fun _ _ _ _ h => h.elim) (fun N1 v1 i1 r1 q1 h1 => ?_)
  obtain ⟨rfl, rfl, h1⟩ := h1
  refine t_istore5 dL_law_1504 (by exact Nat.le_of_ble_eq_true rfl) okp_i ?_
  refine t_aload2 dL_law_1506 ?_
  refine t_aload0 dL_law_1507 ?_
  refine t_iload4 dL_law_1508 ?_
  refine pw_iconst (1) dL_law_1510 (by decide) ?_
  refine pw_iadd dL_law_1511 ?_
  refine pw_sld rfl (xin (k := 1) hi hL (by decide)).1 dL_law_1512 ?_
  rw [show (nI i + 1).toNatClampNeg = i + 1 from (xin (k := 1) hi hL (by decide)).2]
  refine g_callV1I (hm i1 r1 q1 h1) rfl ft5 rfl mc_X5_bestStone ml_L_177 mi_X5_bestStone ms_X5_bestStone in_X5 (okc_X5_bestStone (by decide)) dL_law_1513 kdM (by exact Nat.le_of_ble_eq_true rfl) (fun y i2 h2 => ?_)
  refine t_istore6 dL_law_1516 (by exact Nat.le_of_ble_eq_true rfl) okp_i ?_
  refine t_aload2 dL_law_1518 ?_
  refine g_callV0P (M_thrown (l := l) hlt) rfl ft5 rfl mc_X5_thrown ml_L_92 mi_X5_thrown ms_X5_thrown in_X5 (okc_X5_thrown (by decide)) dL_law_1519 kdM (by exact Nat.le_of_ble_eq_true rfl) ?_
  refine t_iload5 dL_law_1522 ?_
  refine pw_icmp_eq 1529 dL_law_1524 (by decide) (fun _ => ?_) (fun h => absurd h2.1 h)
  refine t_iload5 dL_law_1529 ?_
  refine pw_if_ne 1546 dL_law_1531 (by decide) (fun _ => ?_) (fun h0 => ?_)
  · refine pw_goto 1604 dL_law_1546 (by decide) ?_
    exact PW.less LLless (K _ _ _ h2.2.2)
  · refine t_aload3 dL_law_1534 ?_
    refine pw_iconst (0) dL_law_1535 (by decide) ?_
    refine g_lald (k := 247) dL_law_1536 kdU vin01 ?_
    refine t_iload6 dL_law_1537 ?_
    refine pw_i2l dL_law_1539 ?_
    refine pw_lcmp dL_law_1540 ?_
    refine pw_if_eq 1546 dL_law_1541 (by decide) (fun _ => ?_) (fun h => absurd (by rw [show (0 : Int32).toNatClampNeg = 0 from rfl, h2.2.1 (Classical.not_not.mp h0)]; exact lgc) h)
    refine pw_goto 1604 dL_law_1546 (by decide) ?_
    exact PW.less LLless (K _ _ _ h2.2.2)
set_option maxHeartbeats 4000000 in
set_option maxRecDepth 100000 in
theorem op_inTime {z : UInt64} {Φ : TI → TP → TL → Prop} {Ψ : TI → TP → Prop} (hx : sh01 z) (hh : Con l m_X4_inTime 9 0 0 NN [pv (some 0)] im rm lm (QG (fun v i r q => v = some (.double z) ∧ Φ i r q)) noX)
    (hm : ∀ i1 r1 q1, Φ i1 r1 q1 → Con l m_X5_inTime 9 0 0 NN [pv (some 240)] i1 r1 q1 (QG (fun v i2 r2 _ => v = some (.double z) ∧ Ψ i2 r2)) noX)
    (K : ∀ i2 r2 q2, Ψ i2 r2 → PW l (m_L_law Lx xs) 12 mc ms NN 1604 (LL i) [] i2 r2 q2 Q noX) : PW l (m_L_law Lx xs) 12 mc ms NN 1549 (LL i) [] im rm lm Q noX := by
  refine t_aload1 dL_law_1549 ?_
  refine g_callV0G hh rfl ft4 rfl mc_X4_inTime ml_L_178 mi_X4_inTime ms_X4_inTime in_X4 (okc_X4_inTime (by decide)) dL_law_1550 kdT (by exact Nat.le_of_ble_eq_true rfl) (fun _ _ _ _ h => h.elim) ⟨Nat.zero_le _, Nat.zero_le _⟩ (fun v1 i1 r1 q1 h1 => ?_)
  obtain ⟨rfl, h1⟩ := h1
  refine t_dstore5 dL_law_1553 (by exact Nat.le_of_ble_eq_true rfl) okp_i ?_
  refine t_aload2 dL_law_1555 ?_
  refine g_callV0G (hm i1 r1 q1 h1) rfl ft5 rfl mc_X5_inTime ml_L_182 mi_X5_inTime ms_X5_inTime in_X5 (okc_X5_inTime (by decide)) dL_law_1556 kdM (by exact Nat.le_of_ble_eq_true rfl) (fun _ _ _ _ h => h.elim) ⟨Nat.zero_le _, Nat.zero_le _⟩ (fun v2 i2 r2 q2 h2 => ?_)
  obtain ⟨rfl, h2⟩ := h2
  refine t_dstore7 dL_law_1559 (by exact Nat.le_of_ble_eq_true rfl) okp_n ?_
  refine t_dload5 dL_law_1561 ?_
  refine t_dload7 dL_law_1563 ?_
  refine pw_dcmp dL_law_1565 ?_
  refine pw_if_eq 1587 dL_law_1566 (by decide) (fun _ => ?_) (fun h => absurd (by rw [hx.self]; rfl) h)
  refine pw_goto 1604 dL_law_1587 (by decide) ?_
  exact PW.less LLless (K _ _ _ h2)
set_option maxHeartbeats 4000000 in
set_option maxRecDepth 100000 in
theorem op_digest {z : Int64} {Φ : TI → TP → TL → Prop} {Ψ : TI → TP → Prop} (hh : Con l m_X4_digest 9 0 0 NN [pv (some 0)] im rm lm (QG (fun v i r q => v = some (.long z) ∧ Φ i r q)) noX)
    (hm : ∀ i1 r1 q1, Φ i1 r1 q1 → Con l m_X5_digest 9 0 0 NN [pv (some 240)] i1 r1 q1 (QG (fun v i2 r2 _ => v = some (.long z) ∧ Ψ i2 r2)) noX)
    (K : ∀ i2 r2 q2, Ψ i2 r2 → PW l (m_L_law Lx xs) 12 mc ms NN 1604 (LL i) [] i2 r2 q2 Q noX) : PW l (m_L_law Lx xs) 12 mc ms NN 1590 (LL i) [] im rm lm Q noX := by
  refine t_aload1 dL_law_1590 ?_
  refine g_callV0G hh rfl ft4 rfl mc_X4_digest ml_L_183 mi_X4_digest ms_X4_digest in_X4 (okc_X4_digest (by decide)) dL_law_1591 kdT (by exact Nat.le_of_ble_eq_true rfl) (fun _ _ _ _ h => h.elim) ⟨Nat.zero_le _, Nat.zero_le _⟩ (fun v1 i1 r1 q1 h1 => ?_)
  obtain ⟨rfl, h1⟩ := h1
  refine t_aload2 dL_law_1594 ?_
  refine g_callV0G (hm i1 r1 q1 h1) rfl ft5 rfl mc_X5_digest ml_L_187 mi_X5_digest ms_X5_digest in_X5 (okc_X5_digest (by decide)) dL_law_1595 kdM (by exact Nat.le_of_ble_eq_true rfl) (fun _ _ _ _ h => h.elim) ⟨Nat.zero_le _, Nat.zero_le _⟩ (fun v2 i2 r2 q2 h2 => ?_)
  obtain ⟨rfl, h2⟩ := h2
  refine pw_lcmp dL_law_1598 ?_
  refine pw_if_eq 1604 dL_law_1599 (by decide) (fun _ => ?_) (fun h => absurd lgc h)
  exact PW.less LLless (K _ _ _ h2)
end LAWB
