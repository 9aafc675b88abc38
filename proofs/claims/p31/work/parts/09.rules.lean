/-! PW: one rule an instruction, laid by wip/whole/gen_rules.py -/
section PWR
variable {l : Launch} {mt : MT} {d mc ms N pc : Nat} {L : List (Option Value)} {st : List Value} {im : TI} {rm : TP} {lm : TL} {Q : TQ} {X : TX}
abbrev PWI (l : Launch) (mt : MT) (d mc ms N : Nat) (im : TI) (rm : TP) (lm : TL) (Q : TQ) (X : TX) (pc : Nat) (L : List (Option Value)) (st : List Value) : Prop := PW l mt d mc ms N pc L st im rm lm Q X
theorem pw_iconst {n : Int} (v : Int32) (hd : decode mt.2.1 pc = .ok (.iconst n, 1)) (hv : Int32.ofInt n = v) (k : PWI l mt d mc ms N im rm lm Q X (pc + 1) L (.int v :: st)) : PWI l mt d mc ms N im rm lm Q X pc L (st) := by
  intro p e s m args below meth c D A ad cy MC MS Z H locs cells slots ls hF hW hL hc hs hR hT
  exact lv_iconst (v := v) hF.1 hF.2.1 hd hv (k p e s m args below meth c D A ad cy MC MS Z H locs cells slots ls hF hW hL hc hs hR hT)
theorem pw_bipush {n : Int} (v : Int32) (hd : decode mt.2.1 pc = .ok (.bipush n, 2)) (hv : (Int8.ofInt n).toInt32 = v) (k : PWI l mt d mc ms N im rm lm Q X (pc + 2) L (.int v :: st)) : PWI l mt d mc ms N im rm lm Q X pc L (st) := by
  intro p e s m args below meth c D A ad cy MC MS Z H locs cells slots ls hF hW hL hc hs hR hT
  exact lv_bipush (v := v) hF.1 hF.2.1 hd hv (k p e s m args below meth c D A ad cy MC MS Z H locs cells slots ls hF hW hL hc hs hR hT)
theorem pw_sipush {n : Int} (v : Int32) (hd : decode mt.2.1 pc = .ok (.sipush n, 3)) (hv : (Int16.ofInt n).toInt32 = v) (k : PWI l mt d mc ms N im rm lm Q X (pc + 3) L (.int v :: st)) : PWI l mt d mc ms N im rm lm Q X pc L (st) := by
  intro p e s m args below meth c D A ad cy MC MS Z H locs cells slots ls hF hW hL hc hs hR hT
  exact lv_sipush (v := v) hF.1 hF.2.1 hd hv (k p e s m args below meth c D A ad cy MC MS Z H locs cells slots ls hF hW hL hc hs hR hT)
theorem pw_lconst {n : Fin 2} (v : Int64) (hd : decode mt.2.1 pc = .ok (.lconst n, 1)) (hv : Int64.ofNat (n : Nat) = v) (k : PWI l mt d mc ms N im rm lm Q X (pc + 1) L (.long v :: st)) : PWI l mt d mc ms N im rm lm Q X pc L (st) := by
  intro p e s m args below meth c D A ad cy MC MS Z H locs cells slots ls hF hW hL hc hs hR hT
  exact lv_lconst (v := v) hF.1 hF.2.1 hd hv (k p e s m args below meth c D A ad cy MC MS Z H locs cells slots ls hF hW hL hc hs hR hT)
theorem pw_dconst0  (hd : decode mt.2.1 pc = .ok (.dconst 0, 1)) (k : PWI l mt d mc ms N im rm lm Q X (pc + 1) L (.double FP.dconst0 :: st)) : PWI l mt d mc ms N im rm lm Q X pc L (st) := by
  intro p e s m args below meth c D A ad cy MC MS Z H locs cells slots ls hF hW hL hc hs hR hT
  exact lv_dconst0 hF.1 hF.2.1 hd (k p e s m args below meth c D A ad cy MC MS Z H locs cells slots ls hF hW hL hc hs hR hT)
theorem pw_dconst1  (hd : decode mt.2.1 pc = .ok (.dconst 1, 1)) (k : PWI l mt d mc ms N im rm lm Q X (pc + 1) L (.double FP.dconst1 :: st)) : PWI l mt d mc ms N im rm lm Q X pc L (st) := by
  intro p e s m args below meth c D A ad cy MC MS Z H locs cells slots ls hF hW hL hc hs hR hT
  exact lv_dconst1 hF.1 hF.2.1 hd (k p e s m args below meth c D A ad cy MC MS Z H locs cells slots ls hF hW hL hc hs hR hT)
theorem pw_null  (hd : decode mt.2.1 pc = .ok (.aconst_null, 1)) (k : PWI l mt d mc ms N im rm lm Q X (pc + 1) L (.null :: st)) : PWI l mt d mc ms N im rm lm Q X pc L (st) := by
  intro p e s m args below meth c D A ad cy MC MS Z H locs cells slots ls hF hW hL hc hs hR hT
  exact lv_null hF.1 hF.2.1 hd (k p e s m args below meth c D A ad cy MC MS Z H locs cells slots ls hF hW hL hc hs hR hT)
theorem pw_iadd {x y : Int32} (hd : decode mt.2.1 pc = .ok (.iadd, 1)) (k : PWI l mt d mc ms N im rm lm Q X (pc + 1) L (.int (x + y) :: st)) : PWI l mt d mc ms N im rm lm Q X pc L (.int y :: .int x :: st) := by
  intro p e s m args below meth c D A ad cy MC MS Z H locs cells slots ls hF hW hL hc hs hR hT
  exact lv_iadd hF.1 hF.2.1 hd (k p e s m args below meth c D A ad cy MC MS Z H locs cells slots ls hF hW hL hc hs hR hT)
theorem pw_isub {x y : Int32} (hd : decode mt.2.1 pc = .ok (.isub, 1)) (k : PWI l mt d mc ms N im rm lm Q X (pc + 1) L (.int (x - y) :: st)) : PWI l mt d mc ms N im rm lm Q X pc L (.int y :: .int x :: st) := by
  intro p e s m args below meth c D A ad cy MC MS Z H locs cells slots ls hF hW hL hc hs hR hT
  exact lv_isub hF.1 hF.2.1 hd (k p e s m args below meth c D A ad cy MC MS Z H locs cells slots ls hF hW hL hc hs hR hT)
theorem pw_imul {x y : Int32} (hd : decode mt.2.1 pc = .ok (.imul, 1)) (k : PWI l mt d mc ms N im rm lm Q X (pc + 1) L (.int (x * y) :: st)) : PWI l mt d mc ms N im rm lm Q X pc L (.int y :: .int x :: st) := by
  intro p e s m args below meth c D A ad cy MC MS Z H locs cells slots ls hF hW hL hc hs hR hT
  exact lv_imul hF.1 hF.2.1 hd (k p e s m args below meth c D A ad cy MC MS Z H locs cells slots ls hF hW hL hc hs hR hT)
theorem pw_iand {x y : Int32} (hd : decode mt.2.1 pc = .ok (.iand, 1)) (k : PWI l mt d mc ms N im rm lm Q X (pc + 1) L (.int (x &&& y) :: st)) : PWI l mt d mc ms N im rm lm Q X pc L (.int y :: .int x :: st) := by
  intro p e s m args below meth c D A ad cy MC MS Z H locs cells slots ls hF hW hL hc hs hR hT
  exact lv_iand hF.1 hF.2.1 hd (k p e s m args below meth c D A ad cy MC MS Z H locs cells slots ls hF hW hL hc hs hR hT)
theorem pw_idiv {x y : Int32} (hd : decode mt.2.1 pc = .ok (.idiv, 1)) (hne : ¬ y = 0) (k : PWI l mt d mc ms N im rm lm Q X (pc + 1) L (.int (x / y) :: st)) : PWI l mt d mc ms N im rm lm Q X pc L (.int y :: .int x :: st) := by
  intro p e s m args below meth c D A ad cy MC MS Z H locs cells slots ls hF hW hL hc hs hR hT
  exact lv_idiv hF.1 hF.2.1 hd hne (k p e s m args below meth c D A ad cy MC MS Z H locs cells slots ls hF hW hL hc hs hR hT)
theorem pw_irem {x y : Int32} (hd : decode mt.2.1 pc = .ok (.irem, 1)) (hne : ¬ y = 0) (k : PWI l mt d mc ms N im rm lm Q X (pc + 1) L (.int (x - x / y * y) :: st)) : PWI l mt d mc ms N im rm lm Q X pc L (.int y :: .int x :: st) := by
  intro p e s m args below meth c D A ad cy MC MS Z H locs cells slots ls hF hW hL hc hs hR hT
  exact lv_irem hF.1 hF.2.1 hd hne (k p e s m args below meth c D A ad cy MC MS Z H locs cells slots ls hF hW hL hc hs hR hT)
theorem pw_ineg {x : Int32} (hd : decode mt.2.1 pc = .ok (.ineg, 1)) (k : PWI l mt d mc ms N im rm lm Q X (pc + 1) L (.int (-x) :: st)) : PWI l mt d mc ms N im rm lm Q X pc L (.int x :: st) := by
  intro p e s m args below meth c D A ad cy MC MS Z H locs cells slots ls hF hW hL hc hs hR hT
  exact lv_ineg hF.1 hF.2.1 hd (k p e s m args below meth c D A ad cy MC MS Z H locs cells slots ls hF hW hL hc hs hR hT)
theorem pw_ladd {x y : Int64} (hd : decode mt.2.1 pc = .ok (.ladd, 1)) (k : PWI l mt d mc ms N im rm lm Q X (pc + 1) L (.long (x + y) :: st)) : PWI l mt d mc ms N im rm lm Q X pc L (.long y :: .long x :: st) := by
  intro p e s m args below meth c D A ad cy MC MS Z H locs cells slots ls hF hW hL hc hs hR hT
  exact lv_ladd hF.1 hF.2.1 hd (k p e s m args below meth c D A ad cy MC MS Z H locs cells slots ls hF hW hL hc hs hR hT)
theorem pw_lsub {x y : Int64} (hd : decode mt.2.1 pc = .ok (.lsub, 1)) (k : PWI l mt d mc ms N im rm lm Q X (pc + 1) L (.long (x - y) :: st)) : PWI l mt d mc ms N im rm lm Q X pc L (.long y :: .long x :: st) := by
  intro p e s m args below meth c D A ad cy MC MS Z H locs cells slots ls hF hW hL hc hs hR hT
  exact lv_lsub hF.1 hF.2.1 hd (k p e s m args below meth c D A ad cy MC MS Z H locs cells slots ls hF hW hL hc hs hR hT)
theorem pw_lmul {x y : Int64} (hd : decode mt.2.1 pc = .ok (.lmul, 1)) (k : PWI l mt d mc ms N im rm lm Q X (pc + 1) L (.long (x * y) :: st)) : PWI l mt d mc ms N im rm lm Q X pc L (.long y :: .long x :: st) := by
  intro p e s m args below meth c D A ad cy MC MS Z H locs cells slots ls hF hW hL hc hs hR hT
  exact lv_lmul hF.1 hF.2.1 hd (k p e s m args below meth c D A ad cy MC MS Z H locs cells slots ls hF hW hL hc hs hR hT)
theorem pw_lshl {x : Int64} {y : Int32} (hd : decode mt.2.1 pc = .ok (.lshl, 1)) (k : PWI l mt d mc ms N im rm lm Q X (pc + 1) L (.long (x <<< (y.toInt64 &&& 63)) :: st)) : PWI l mt d mc ms N im rm lm Q X pc L (.int y :: .long x :: st) := by
  intro p e s m args below meth c D A ad cy MC MS Z H locs cells slots ls hF hW hL hc hs hR hT
  exact lv_lshl hF.1 hF.2.1 hd rfl (k p e s m args below meth c D A ad cy MC MS Z H locs cells slots ls hF hW hL hc hs hR hT)
theorem pw_i2l {x : Int32} (hd : decode mt.2.1 pc = .ok (.i2l, 1)) (k : PWI l mt d mc ms N im rm lm Q X (pc + 1) L (.long x.toInt64 :: st)) : PWI l mt d mc ms N im rm lm Q X pc L (.int x :: st) := by
  intro p e s m args below meth c D A ad cy MC MS Z H locs cells slots ls hF hW hL hc hs hR hT
  exact lv_i2l hF.1 hF.2.1 hd rfl (k p e s m args below meth c D A ad cy MC MS Z H locs cells slots ls hF hW hL hc hs hR hT)
theorem pw_i2d {x : Int32} (hd : decode mt.2.1 pc = .ok (.i2d, 1)) (k : PWI l mt d mc ms N im rm lm Q X (pc + 1) L (.double (FP.i2d x) :: st)) : PWI l mt d mc ms N im rm lm Q X pc L (.int x :: st) := by
  intro p e s m args below meth c D A ad cy MC MS Z H locs cells slots ls hF hW hL hc hs hR hT
  exact lv_i2d hF.1 hF.2.1 hd (k p e s m args below meth c D A ad cy MC MS Z H locs cells slots ls hF hW hL hc hs hR hT)
theorem pw_d2l {x : UInt64} (hd : decode mt.2.1 pc = .ok (.d2l, 1)) (k : PWI l mt d mc ms N im rm lm Q X (pc + 1) L (.long (FP.d2l x) :: st)) : PWI l mt d mc ms N im rm lm Q X pc L (.double x :: st) := by
  intro p e s m args below meth c D A ad cy MC MS Z H locs cells slots ls hF hW hL hc hs hR hT
  exact lv_d2l hF.1 hF.2.1 hd (k p e s m args below meth c D A ad cy MC MS Z H locs cells slots ls hF hW hL hc hs hR hT)
theorem pw_dmul {x y : UInt64} (hd : decode mt.2.1 pc = .ok (.dmul, 1)) (hne : vf_n64 (FP.dmul x y)) (k : PWI l mt d mc ms N im rm lm Q X (pc + 1) L (.double (FP.dmul x y) :: st)) : PWI l mt d mc ms N im rm lm Q X pc L (.double y :: .double x :: st) := by
  intro p e s m args below meth c D A ad cy MC MS Z H locs cells slots ls hF hW hL hc hs hR hT
  exact lv_dmul hF.1 hF.2.1 hd hne (k p e s m args below meth c D A ad cy MC MS Z H locs cells slots ls hF hW hL hc hs hR hT)
theorem pw_ddiv {x y : UInt64} (hd : decode mt.2.1 pc = .ok (.ddiv, 1)) (hne : vf_n64 (FP.ddiv x y)) (k : PWI l mt d mc ms N im rm lm Q X (pc + 1) L (.double (FP.ddiv x y) :: st)) : PWI l mt d mc ms N im rm lm Q X pc L (.double y :: .double x :: st) := by
  intro p e s m args below meth c D A ad cy MC MS Z H locs cells slots ls hF hW hL hc hs hR hT
  exact lv_ddiv hF.1 hF.2.1 hd hne (k p e s m args below meth c D A ad cy MC MS Z H locs cells slots ls hF hW hL hc hs hR hT)
theorem pw_dsub {x y : UInt64} (hd : decode mt.2.1 pc = .ok (.dsub, 1)) (hne : vf_n64 (FP.dsub x y)) (k : PWI l mt d mc ms N im rm lm Q X (pc + 1) L (.double (FP.dsub x y) :: st)) : PWI l mt d mc ms N im rm lm Q X pc L (.double y :: .double x :: st) := by
  intro p e s m args below meth c D A ad cy MC MS Z H locs cells slots ls hF hW hL hc hs hR hT
  exact lv_dsub hF.1 hF.2.1 hd hne (k p e s m args below meth c D A ad cy MC MS Z H locs cells slots ls hF hW hL hc hs hR hT)
theorem pw_dcmp {x y : UInt64} {op : CmpOp} (hd : decode mt.2.1 pc = .ok (.dcmp op, 1)) (k : PWI l mt d mc ms N im rm lm Q X (pc + 1) L (.int (Op.cmpValue (FP.dcmp x y) op) :: st)) : PWI l mt d mc ms N im rm lm Q X pc L (.double y :: .double x :: st) := by
  intro p e s m args below meth c D A ad cy MC MS Z H locs cells slots ls hF hW hL hc hs hR hT
  exact lv_dcmp hF.1 hF.2.1 hd (k p e s m args below meth c D A ad cy MC MS Z H locs cells slots ls hF hW hL hc hs hR hT)
theorem pw_lcmp {x y : Int64} (hd : decode mt.2.1 pc = .ok (.lcmp, 1)) (k : PWI l mt d mc ms N im rm lm Q X (pc + 1) L (.int (lg_cmp x y) :: st)) : PWI l mt d mc ms N im rm lm Q X pc L (.long y :: .long x :: st) := by
  intro p e s m args below meth c D A ad cy MC MS Z H locs cells slots ls hF hW hL hc hs hR hT
  exact W.lcmp hF.1 hF.2.1 hd (k p e s m args below meth c D A ad cy MC MS Z H locs cells slots ls hF hW hL hc hs hR hT)
theorem pw_dup {v : Value} (hd : decode mt.2.1 pc = .ok (.dup, 1)) (hv : v.category = 1) (k : PWI l mt d mc ms N im rm lm Q X (pc + 1) L (v :: v :: st)) : PWI l mt d mc ms N im rm lm Q X pc L (v :: st) := by
  intro p e s m args below meth c D A ad cy MC MS Z H locs cells slots ls hF hW hL hc hs hR hT
  exact lv_dup hF.1 hF.2.1 hd ((tr_cat ad v).trans hv) (k p e s m args below meth c D A ad cy MC MS Z H locs cells slots ls hF hW hL hc hs hR hT)
theorem pw_dup2 {v w : Value} (hd : decode mt.2.1 pc = .ok (.dup2, 1)) (hv : v.category = 1) (hw : w.category = 1) (k : PWI l mt d mc ms N im rm lm Q X (pc + 1) L (v :: w :: v :: w :: st)) : PWI l mt d mc ms N im rm lm Q X pc L (v :: w :: st) := by
  intro p e s m args below meth c D A ad cy MC MS Z H locs cells slots ls hF hW hL hc hs hR hT
  exact lv_dup2_11 hF.1 hF.2.1 hd ((tr_cat ad v).trans hv) ((tr_cat ad w).trans hw) (k p e s m args below meth c D A ad cy MC MS Z H locs cells slots ls hF hW hL hc hs hR hT)
theorem pw_pop {v : Value} (hd : decode mt.2.1 pc = .ok (.pop, 1)) (hv : v.category = 1) (k : PWI l mt d mc ms N im rm lm Q X (pc + 1) L (st)) : PWI l mt d mc ms N im rm lm Q X pc L (v :: st) := by
  intro p e s m args below meth c D A ad cy MC MS Z H locs cells slots ls hF hW hL hc hs hR hT
  exact lv_pop hF.1 hF.2.1 hd ((tr_cat ad v).trans hv) (k p e s m args below meth c D A ad cy MC MS Z H locs cells slots ls hF hW hL hc hs hR hT)
theorem pw_goto {off : Int} (tgt : Nat) (hd : decode mt.2.1 pc = .ok (.goto off, 3)) (ht : (pc : Int) + off = (tgt : Int)) (k : PWI l mt d mc ms N im rm lm Q X tgt L st) : PWI l mt d mc ms N im rm lm Q X pc L st := by
  intro p e s m args below meth c D A ad cy MC MS Z H locs cells slots ls hF hW hL hc hs hR hT
  exact lv_goto (tgt := tgt) hF.1 hF.2.1 hd ht (k p e s m args below meth c D A ad cy MC MS Z H locs cells slots ls hF hW hL hc hs hR hT)
theorem pw_if_eq {x : Int32} {off : Int} (tgt : Nat) (hd : decode mt.2.1 pc = .ok (.ifCond .eq off, 3)) (ht : (pc : Int) + off = (tgt : Int)) (kt : x = 0 → PWI l mt d mc ms N im rm lm Q X tgt L st) (kf : ¬ (x = 0) → PWI l mt d mc ms N im rm lm Q X (pc + 3) L st) : PWI l mt d mc ms N im rm lm Q X pc L (.int x :: st) := by
  intro p e s m args below meth c D A ad cy MC MS Z H locs cells slots ls hF hW hL hc hs hR hT
  exact lv_if_eq (tgt := tgt) hF.1 hF.2.1 hd ht (fun h => kt (by simpa using h) p e s m args below meth c D A ad cy MC MS Z H locs cells slots ls hF hW hL hc hs hR hT) (fun h => kf (by simpa using h) p e s m args below meth c D A ad cy MC MS Z H locs cells slots ls hF hW hL hc hs hR hT)
theorem pw_if_ne {x : Int32} {off : Int} (tgt : Nat) (hd : decode mt.2.1 pc = .ok (.ifCond .ne off, 3)) (ht : (pc : Int) + off = (tgt : Int)) (kt : ¬ x = 0 → PWI l mt d mc ms N im rm lm Q X tgt L st) (kf : ¬ (¬ x = 0) → PWI l mt d mc ms N im rm lm Q X (pc + 3) L st) : PWI l mt d mc ms N im rm lm Q X pc L (.int x :: st) := by
  intro p e s m args below meth c D A ad cy MC MS Z H locs cells slots ls hF hW hL hc hs hR hT
  exact lv_if_ne (tgt := tgt) hF.1 hF.2.1 hd ht (fun h => kt (by simpa using h) p e s m args below meth c D A ad cy MC MS Z H locs cells slots ls hF hW hL hc hs hR hT) (fun h => kf (by simpa using h) p e s m args below meth c D A ad cy MC MS Z H locs cells slots ls hF hW hL hc hs hR hT)
theorem pw_if_lt {x : Int32} {off : Int} (tgt : Nat) (hd : decode mt.2.1 pc = .ok (.ifCond .lt off, 3)) (ht : (pc : Int) + off = (tgt : Int)) (kt : x < 0 → PWI l mt d mc ms N im rm lm Q X tgt L st) (kf : ¬ (x < 0) → PWI l mt d mc ms N im rm lm Q X (pc + 3) L st) : PWI l mt d mc ms N im rm lm Q X pc L (.int x :: st) := by
  intro p e s m args below meth c D A ad cy MC MS Z H locs cells slots ls hF hW hL hc hs hR hT
  exact lv_if_lt (tgt := tgt) hF.1 hF.2.1 hd ht (fun h => kt (by simpa using h) p e s m args below meth c D A ad cy MC MS Z H locs cells slots ls hF hW hL hc hs hR hT) (fun h => kf (by simpa using h) p e s m args below meth c D A ad cy MC MS Z H locs cells slots ls hF hW hL hc hs hR hT)
theorem pw_if_ge {x : Int32} {off : Int} (tgt : Nat) (hd : decode mt.2.1 pc = .ok (.ifCond .ge off, 3)) (ht : (pc : Int) + off = (tgt : Int)) (kt : 0 ≤ x → PWI l mt d mc ms N im rm lm Q X tgt L st) (kf : ¬ (0 ≤ x) → PWI l mt d mc ms N im rm lm Q X (pc + 3) L st) : PWI l mt d mc ms N im rm lm Q X pc L (.int x :: st) := by
  intro p e s m args below meth c D A ad cy MC MS Z H locs cells slots ls hF hW hL hc hs hR hT
  exact lv_if_ge (tgt := tgt) hF.1 hF.2.1 hd ht (fun h => kt (by simpa using h) p e s m args below meth c D A ad cy MC MS Z H locs cells slots ls hF hW hL hc hs hR hT) (fun h => kf (by simpa using h) p e s m args below meth c D A ad cy MC MS Z H locs cells slots ls hF hW hL hc hs hR hT)
theorem pw_if_gt {x : Int32} {off : Int} (tgt : Nat) (hd : decode mt.2.1 pc = .ok (.ifCond .gt off, 3)) (ht : (pc : Int) + off = (tgt : Int)) (kt : 0 < x → PWI l mt d mc ms N im rm lm Q X tgt L st) (kf : ¬ (0 < x) → PWI l mt d mc ms N im rm lm Q X (pc + 3) L st) : PWI l mt d mc ms N im rm lm Q X pc L (.int x :: st) := by
  intro p e s m args below meth c D A ad cy MC MS Z H locs cells slots ls hF hW hL hc hs hR hT
  exact lv_if_gt (tgt := tgt) hF.1 hF.2.1 hd ht (fun h => kt (by simpa using h) p e s m args below meth c D A ad cy MC MS Z H locs cells slots ls hF hW hL hc hs hR hT) (fun h => kf (by simpa using h) p e s m args below meth c D A ad cy MC MS Z H locs cells slots ls hF hW hL hc hs hR hT)
theorem pw_if_le {x : Int32} {off : Int} (tgt : Nat) (hd : decode mt.2.1 pc = .ok (.ifCond .le off, 3)) (ht : (pc : Int) + off = (tgt : Int)) (kt : x ≤ 0 → PWI l mt d mc ms N im rm lm Q X tgt L st) (kf : ¬ (x ≤ 0) → PWI l mt d mc ms N im rm lm Q X (pc + 3) L st) : PWI l mt d mc ms N im rm lm Q X pc L (.int x :: st) := by
  intro p e s m args below meth c D A ad cy MC MS Z H locs cells slots ls hF hW hL hc hs hR hT
  exact lv_if_le (tgt := tgt) hF.1 hF.2.1 hd ht (fun h => kt (by simpa using h) p e s m args below meth c D A ad cy MC MS Z H locs cells slots ls hF hW hL hc hs hR hT) (fun h => kf (by simpa using h) p e s m args below meth c D A ad cy MC MS Z H locs cells slots ls hF hW hL hc hs hR hT)
theorem pw_icmp_eq {x y : Int32} {off : Int} (tgt : Nat) (hd : decode mt.2.1 pc = .ok (.if_icmp .eq off, 3)) (ht : (pc : Int) + off = (tgt : Int)) (kt : x = y → PWI l mt d mc ms N im rm lm Q X tgt L st) (kf : ¬ (x = y) → PWI l mt d mc ms N im rm lm Q X (pc + 3) L st) : PWI l mt d mc ms N im rm lm Q X pc L (.int y :: .int x :: st) := by
  intro p e s m args below meth c D A ad cy MC MS Z H locs cells slots ls hF hW hL hc hs hR hT
  exact lv_icmp_eq (tgt := tgt) hF.1 hF.2.1 hd ht (fun h => kt (by simpa using h) p e s m args below meth c D A ad cy MC MS Z H locs cells slots ls hF hW hL hc hs hR hT) (fun h => kf (by simpa using h) p e s m args below meth c D A ad cy MC MS Z H locs cells slots ls hF hW hL hc hs hR hT)
theorem pw_icmp_ne {x y : Int32} {off : Int} (tgt : Nat) (hd : decode mt.2.1 pc = .ok (.if_icmp .ne off, 3)) (ht : (pc : Int) + off = (tgt : Int)) (kt : ¬ x = y → PWI l mt d mc ms N im rm lm Q X tgt L st) (kf : ¬ (¬ x = y) → PWI l mt d mc ms N im rm lm Q X (pc + 3) L st) : PWI l mt d mc ms N im rm lm Q X pc L (.int y :: .int x :: st) := by
  intro p e s m args below meth c D A ad cy MC MS Z H locs cells slots ls hF hW hL hc hs hR hT
  exact lv_icmp_ne (tgt := tgt) hF.1 hF.2.1 hd ht (fun h => kt (by simpa using h) p e s m args below meth c D A ad cy MC MS Z H locs cells slots ls hF hW hL hc hs hR hT) (fun h => kf (by simpa using h) p e s m args below meth c D A ad cy MC MS Z H locs cells slots ls hF hW hL hc hs hR hT)
theorem pw_icmp_lt {x y : Int32} {off : Int} (tgt : Nat) (hd : decode mt.2.1 pc = .ok (.if_icmp .lt off, 3)) (ht : (pc : Int) + off = (tgt : Int)) (kt : x < y → PWI l mt d mc ms N im rm lm Q X tgt L st) (kf : ¬ (x < y) → PWI l mt d mc ms N im rm lm Q X (pc + 3) L st) : PWI l mt d mc ms N im rm lm Q X pc L (.int y :: .int x :: st) := by
  intro p e s m args below meth c D A ad cy MC MS Z H locs cells slots ls hF hW hL hc hs hR hT
  exact lv_icmp_lt (tgt := tgt) hF.1 hF.2.1 hd ht (fun h => kt (by simpa using h) p e s m args below meth c D A ad cy MC MS Z H locs cells slots ls hF hW hL hc hs hR hT) (fun h => kf (by simpa using h) p e s m args below meth c D A ad cy MC MS Z H locs cells slots ls hF hW hL hc hs hR hT)
theorem pw_icmp_ge {x y : Int32} {off : Int} (tgt : Nat) (hd : decode mt.2.1 pc = .ok (.if_icmp .ge off, 3)) (ht : (pc : Int) + off = (tgt : Int)) (kt : y ≤ x → PWI l mt d mc ms N im rm lm Q X tgt L st) (kf : ¬ (y ≤ x) → PWI l mt d mc ms N im rm lm Q X (pc + 3) L st) : PWI l mt d mc ms N im rm lm Q X pc L (.int y :: .int x :: st) := by
  intro p e s m args below meth c D A ad cy MC MS Z H locs cells slots ls hF hW hL hc hs hR hT
  exact lv_icmp_ge (tgt := tgt) hF.1 hF.2.1 hd ht (fun h => kt (by simpa using h) p e s m args below meth c D A ad cy MC MS Z H locs cells slots ls hF hW hL hc hs hR hT) (fun h => kf (by simpa using h) p e s m args below meth c D A ad cy MC MS Z H locs cells slots ls hF hW hL hc hs hR hT)
theorem pw_icmp_gt {x y : Int32} {off : Int} (tgt : Nat) (hd : decode mt.2.1 pc = .ok (.if_icmp .gt off, 3)) (ht : (pc : Int) + off = (tgt : Int)) (kt : y < x → PWI l mt d mc ms N im rm lm Q X tgt L st) (kf : ¬ (y < x) → PWI l mt d mc ms N im rm lm Q X (pc + 3) L st) : PWI l mt d mc ms N im rm lm Q X pc L (.int y :: .int x :: st) := by
  intro p e s m args below meth c D A ad cy MC MS Z H locs cells slots ls hF hW hL hc hs hR hT
  exact lv_icmp_gt (tgt := tgt) hF.1 hF.2.1 hd ht (fun h => kt (by simpa using h) p e s m args below meth c D A ad cy MC MS Z H locs cells slots ls hF hW hL hc hs hR hT) (fun h => kf (by simpa using h) p e s m args below meth c D A ad cy MC MS Z H locs cells slots ls hF hW hL hc hs hR hT)
theorem pw_icmp_le {x y : Int32} {off : Int} (tgt : Nat) (hd : decode mt.2.1 pc = .ok (.if_icmp .le off, 3)) (ht : (pc : Int) + off = (tgt : Int)) (kt : x ≤ y → PWI l mt d mc ms N im rm lm Q X tgt L st) (kf : ¬ (x ≤ y) → PWI l mt d mc ms N im rm lm Q X (pc + 3) L st) : PWI l mt d mc ms N im rm lm Q X pc L (.int y :: .int x :: st) := by
  intro p e s m args below meth c D A ad cy MC MS Z H locs cells slots ls hF hW hL hc hs hR hT
  exact lv_icmp_le (tgt := tgt) hF.1 hF.2.1 hd ht (fun h => kt (by simpa using h) p e s m args below meth c D A ad cy MC MS Z H locs cells slots ls hF hW hL hc hs hR hT) (fun h => kf (by simpa using h) p e s m args below meth c D A ad cy MC MS Z H locs cells slots ls hF hW hL hc hs hR hT)
theorem pw_ifnull {x : Option Nat} {off : Int} (tgt : Nat) (hd : decode mt.2.1 pc = .ok (.ifnull off, 3)) (ht : (pc : Int) + off = (tgt : Int)) (kt : x = none → PWI l mt d mc ms N im rm lm Q X tgt L st) (kf : ∀ y, x = some y → PWI l mt d mc ms N im rm lm Q X (pc + 3) L st) : PWI l mt d mc ms N im rm lm Q X pc L (pv x :: st) := by
  intro p e s m args below meth c D A ad cy MC MS Z H locs cells slots ls hF hW hL hc hs hR hT
  cases x with
  | none => exact lv_ifnullN (tgt := tgt) hF.1 hF.2.1 hd ht (kt rfl p e s m args below meth c D A ad cy MC MS Z H locs cells slots ls hF hW hL hc hs hR hT)
  | some y => exact lv_ifnull hF.1 hF.2.1 hd (kf y rfl p e s m args below meth c D A ad cy MC MS Z H locs cells slots ls hF hW hL hc hs hR hT)
theorem pw_ifnonnull {x : Option Nat} {off : Int} (tgt : Nat) (hd : decode mt.2.1 pc = .ok (.ifnonnull off, 3)) (ht : (pc : Int) + off = (tgt : Int)) (kt : ∀ y, x = some y → PWI l mt d mc ms N im rm lm Q X tgt L st) (kf : x = none → PWI l mt d mc ms N im rm lm Q X (pc + 3) L st) : PWI l mt d mc ms N im rm lm Q X pc L (pv x :: st) := by
  intro p e s m args below meth c D A ad cy MC MS Z H locs cells slots ls hF hW hL hc hs hR hT
  cases x with
  | none => exact lv_ifnonnullN hF.1 hF.2.1 hd (kf rfl p e s m args below meth c D A ad cy MC MS Z H locs cells slots ls hF hW hL hc hs hR hT)
  | some y => exact lv_ifnonnull (tgt := tgt) hF.1 hF.2.1 hd ht (kt y rfl p e s m args below meth c D A ad cy MC MS Z H locs cells slots ls hF hW hL hc hs hR hT)
theorem pw_table {dflt lo hi : Int} {offs : Array Int} {len : Nat} {x : Int32} {off : Int} (tgt : Nat) (hd : decode mt.2.1 pc = .ok (.tableswitch dflt lo hi offs, len)) (h1 : ¬ x.toInt < lo) (h2 : ¬ hi < x.toInt) (ho : offs[(x.toInt - lo).toNat]? = some off) (ht : (pc : Int) + off = (tgt : Int)) (k : PWI l mt d mc ms N im rm lm Q X tgt L st) : PWI l mt d mc ms N im rm lm Q X pc L (.int x :: st) := by
  intro p e s m args below meth c D A ad cy MC MS Z H locs cells slots ls hF hW hL hc hs hR hT
  exact lv_tableIn (tgt := tgt) hF.1 hF.2.1 hd h1 h2 ho ht (k p e s m args below meth c D A ad cy MC MS Z H locs cells slots ls hF hW hL hc hs hR hT)
theorem pw_tableD {dflt lo hi : Int} {offs : Array Int} {len : Nat} {x : Int32} (tgt : Nat) (hd : decode mt.2.1 pc = .ok (.tableswitch dflt lo hi offs, len)) (h : x.toInt < lo ∨ hi < x.toInt) (ht : (pc : Int) + dflt = (tgt : Int)) (k : PWI l mt d mc ms N im rm lm Q X tgt L st) : PWI l mt d mc ms N im rm lm Q X pc L (.int x :: st) := by
  intro p e s m args below meth c D A ad cy MC MS Z H locs cells slots ls hF hW hL hc hs hR hT
  exact lv_tableOut (tgt := tgt) hF.1 hF.2.1 hd h ht (k p e s m args below meth c D A ad cy MC MS Z H locs cells slots ls hF hW hL hc hs hR hT)
theorem pw_lookup {dflt : Int} {ps : Array (Int × Int)} {len : Nat} {x : Int32} {off : Int} (tgt : Nat) (hd : decode mt.2.1 pc = .ok (.lookupswitch dflt ps, len)) (hp : (ps.toList.zip (ps.toList.drop 1)).all (fun (a, next) => a.1 < next.1) = true) (ho : Op.lookupswitch.offset ps.toList dflt x.toInt = off) (ht : (pc : Int) + off = (tgt : Int)) (k : PWI l mt d mc ms N im rm lm Q X tgt L st) : PWI l mt d mc ms N im rm lm Q X pc L (.int x :: st) := by
  intro p e s m args below meth c D A ad cy MC MS Z H locs cells slots ls hF hW hL hc hs hR hT
  exact lv_lookup (tgt := tgt) hF.1 hF.2.1 hd hp ho ht (k p e s m args below meth c D A ad cy MC MS Z H locs cells slots ls hF hW hL hc hs hR hT)
theorem pw_ldc {i : Nat} {v : Int32} (hw : Cond.constant mt.1.cls i v ∈ wsAll) (hd : decode mt.2.1 pc = .ok (.ldc i, 2)) (k : PWI l mt d mc ms N im rm lm Q X (pc + 2) L (.int v :: st)) : PWI l mt d mc ms N im rm lm Q X pc L st := by
  intro p e s m args below meth c D A ad cy MC MS Z H locs cells slots ls hF hW hL hc hs hR hT
  exact lv_ldc hF.1 hF.2.1 hF.2.2.2.2.1 (hF.2.2.2.2.2.1 _ hw) hd (k p e s m args below meth c D A ad cy MC MS Z H locs cells slots ls hF hW hL hc hs hR hT)
theorem pw_ldc2 {i : Nat} {v : Int64} (hw : Cond.constantLong mt.1.cls i v ∈ wsAll) (hd : decode mt.2.1 pc = .ok (.ldc2_w i, 3)) (k : PWI l mt d mc ms N im rm lm Q X (pc + 3) L (.long v :: st)) : PWI l mt d mc ms N im rm lm Q X pc L st := by
  intro p e s m args below meth c D A ad cy MC MS Z H locs cells slots ls hF hW hL hc hs hR hT
  exact lv_ldc2 hF.1 hF.2.1 hF.2.2.2.2.1 (hF.2.2.2.2.2.1 _ hw) hd (k p e s m args below meth c D A ad cy MC MS Z H locs cells slots ls hF hW hL hc hs hR hT)
theorem pw_ldc2d {i : Nat} {v : UInt64} (hw : Cond.constantDouble mt.1.cls i v ∈ wsAll) (hd : decode mt.2.1 pc = .ok (.ldc2_w i, 3)) (k : PWI l mt d mc ms N im rm lm Q X (pc + 3) L (.double v :: st)) : PWI l mt d mc ms N im rm lm Q X pc L st := by
  intro p e s m args below meth c D A ad cy MC MS Z H locs cells slots ls hF hW hL hc hs hR hT
  exact lv_ldc2d hF.1 hF.2.1 hF.2.2.2.2.1 (hF.2.2.2.2.2.1 _ hw) hd (k p e s m args below meth c D A ad cy MC MS Z H locs cells slots ls hF hW hL hc hs hR hT)
theorem pw_iload_n {k : Fin 4} {i : Nat} {x : Int32} (hd : decode mt.2.1 pc = .ok (.iload_n k, 1)) (hi : (k : Nat) = i) (hl : L[i]? = some (some (.int x))) (kk : PWI l mt d mc ms N im rm lm Q X (pc + 1) L (.int x :: st)) : PWI l mt d mc ms N im rm lm Q X pc L st := by
  intro p e s m args below meth c D A ad cy MC MS Z H locs cells slots ls hF hW hL hc hs hR hT
  exact lv_iload_n hF.1 hF.2.1 hd hi (hL.2.2 _ _ hl) (kk p e s m args below meth c D A ad cy MC MS Z H locs cells slots ls hF hW hL hc hs hR hT)
theorem pw_iload {i : Nat} {x : Int32} (hd : decode mt.2.1 pc = .ok (.iload i, 2)) (hl : L[i]? = some (some (.int x))) (kk : PWI l mt d mc ms N im rm lm Q X (pc + 2) L (.int x :: st)) : PWI l mt d mc ms N im rm lm Q X pc L st := by
  intro p e s m args below meth c D A ad cy MC MS Z H locs cells slots ls hF hW hL hc hs hR hT
  exact lv_iload hF.1 hF.2.1 hd (hL.2.2 _ _ hl) (kk p e s m args below meth c D A ad cy MC MS Z H locs cells slots ls hF hW hL hc hs hR hT)
theorem pw_lload_n {k : Fin 4} {i : Nat} {x : Int64} (hd : decode mt.2.1 pc = .ok (.lload_n k, 1)) (hi : (k : Nat) = i) (hl : L[i]? = some (some (.long x))) (kk : PWI l mt d mc ms N im rm lm Q X (pc + 1) L (.long x :: st)) : PWI l mt d mc ms N im rm lm Q X pc L st := by
  intro p e s m args below meth c D A ad cy MC MS Z H locs cells slots ls hF hW hL hc hs hR hT
  exact lv_lload_n hF.1 hF.2.1 hd hi (hL.2.2 _ _ hl) (kk p e s m args below meth c D A ad cy MC MS Z H locs cells slots ls hF hW hL hc hs hR hT)
theorem pw_lload {i : Nat} {x : Int64} (hd : decode mt.2.1 pc = .ok (.lload i, 2)) (hl : L[i]? = some (some (.long x))) (kk : PWI l mt d mc ms N im rm lm Q X (pc + 2) L (.long x :: st)) : PWI l mt d mc ms N im rm lm Q X pc L st := by
  intro p e s m args below meth c D A ad cy MC MS Z H locs cells slots ls hF hW hL hc hs hR hT
  exact lv_lload hF.1 hF.2.1 hd (hL.2.2 _ _ hl) (kk p e s m args below meth c D A ad cy MC MS Z H locs cells slots ls hF hW hL hc hs hR hT)
theorem pw_dload_n {k : Fin 4} {i : Nat} {x : UInt64} (hd : decode mt.2.1 pc = .ok (.dload_n k, 1)) (hi : (k : Nat) = i) (hl : L[i]? = some (some (.double x))) (kk : PWI l mt d mc ms N im rm lm Q X (pc + 1) L (.double x :: st)) : PWI l mt d mc ms N im rm lm Q X pc L st := by
  intro p e s m args below meth c D A ad cy MC MS Z H locs cells slots ls hF hW hL hc hs hR hT
  exact lv_dload_n hF.1 hF.2.1 hd hi (hL.2.2 _ _ hl) (kk p e s m args below meth c D A ad cy MC MS Z H locs cells slots ls hF hW hL hc hs hR hT)
theorem pw_dload {i : Nat} {x : UInt64} (hd : decode mt.2.1 pc = .ok (.dload i, 2)) (hl : L[i]? = some (some (.double x))) (kk : PWI l mt d mc ms N im rm lm Q X (pc + 2) L (.double x :: st)) : PWI l mt d mc ms N im rm lm Q X pc L st := by
  intro p e s m args below meth c D A ad cy MC MS Z H locs cells slots ls hF hW hL hc hs hR hT
  exact lv_dload hF.1 hF.2.1 hd (hL.2.2 _ _ hl) (kk p e s m args below meth c D A ad cy MC MS Z H locs cells slots ls hF hW hL hc hs hR hT)
theorem pw_aload_n {k : Fin 4} {i : Nat} {x : Option Nat} (hd : decode mt.2.1 pc = .ok (.aload_n k, 1)) (hi : (k : Nat) = i) (hl : L[i]? = some (some (pv x))) (kk : PWI l mt d mc ms N im rm lm Q X (pc + 1) L (pv x :: st)) : PWI l mt d mc ms N im rm lm Q X pc L st := by
  intro p e s m args below meth c D A ad cy MC MS Z H locs cells slots ls hF hW hL hc hs hR hT
  have hl' := hL.2.2 _ _ hl
  cases x with
  | none => exact lv_aload_nN hF.1 hF.2.1 hd hi hl' (kk p e s m args below meth c D A ad cy MC MS Z H locs cells slots ls hF hW hL hc hs hR hT)
  | some y => exact lv_aload_n hF.1 hF.2.1 hd hi hl' (kk p e s m args below meth c D A ad cy MC MS Z H locs cells slots ls hF hW hL hc hs hR hT)
theorem pw_aload {i : Nat} {x : Option Nat} (hd : decode mt.2.1 pc = .ok (.aload i, 2)) (hl : L[i]? = some (some (pv x))) (kk : PWI l mt d mc ms N im rm lm Q X (pc + 2) L (pv x :: st)) : PWI l mt d mc ms N im rm lm Q X pc L st := by
  intro p e s m args below meth c D A ad cy MC MS Z H locs cells slots ls hF hW hL hc hs hR hT
  have hl' := hL.2.2 _ _ hl
  cases x with
  | none => exact lv_aloadN hF.1 hF.2.1 hd hl' (kk p e s m args below meth c D A ad cy MC MS Z H locs cells slots ls hF hW hL hc hs hR hT)
  | some y => exact lv_aload hF.1 hF.2.1 hd hl' (kk p e s m args below meth c D A ad cy MC MS Z H locs cells slots ls hF hW hL hc hs hR hT)
end PWR
