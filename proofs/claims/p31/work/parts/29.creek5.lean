/-! TideMills$Creek: sacks that come, settings, rests, a copy -/
set_option maxHeartbeats 4000000 in
set_option maxRecDepth 100000 in
theorem C_settingAt0 {l : Launch} (hlt : l.stackTraces = false) {im : TI} {rm : TP} {lm : TL} {c : Nat} {S : CS} (hC : isC rm c) (hR : CR c S im) : Con l m_X0_settingAt 1 0 0 NN [pv (some c), .int (0)] im rm lm (QP (.int (S.1 9)) im rm lm) noX := by
  have hkc := hC.1
  refine Con.ofN (k := 0) (L0 := [some (pv (some c)), some (.int (0))]) hlt (by decide +kernel) rfl rfl (by rw [en1 pv_cat, en1 rfl, en0]; exact Nat.le_of_ble_eq_true rfl) (by rw [en1 pv_cat, en1 rfl, en0]; rfl) ?_
  refine t_iload1 dX0_settingAt_0 ?_
  refine pw_lookup (off := 27) 28 dX0_settingAt_1 (by decide) (by decide) (by decide) ?_
  refine t_aload0 dX0_settingAt_28 ?_
  refine g_geti ft0 fl_X0_9 (j := 1) (by decide) dX0_settingAt_29 (by assumption) ?_
  refine pw_iret dX0_settingAt_32 rfl ?_
  exact ⟨rfl, by rw [hR.1.1], rfl, rfl, rfl⟩
set_option maxHeartbeats 4000000 in
set_option maxRecDepth 100000 in
theorem C_changeSetting0 {l : Launch} (hlt : l.stackTraces = false) {im : TI} {rm : TP} {lm : TL} {c : Nat} {S : CS} (hC : isC rm c) (hR : CR c S im) {x : Int32} : Con l m_X0_changeSetting 1 0 0 NN [pv (some c), .int (0), .int (x)] im rm lm (QV (fun im2 => CR c (upG S 9 x) im2 ∧ fr c im im2) rm lm) noX := by
  have hkc := hC.1
  refine Con.ofN (k := 0) (L0 := [some (pv (some c)), some (.int (0)), some (.int (x))]) hlt (by decide +kernel) rfl rfl (by rw [en1 pv_cat, en1 rfl, en1 rfl, en0]; exact Nat.le_of_ble_eq_true rfl) (by rw [en1 pv_cat, en1 rfl, en1 rfl, en0]; rfl) ?_
  refine t_iload1 dX0_changeSetting_0 ?_
  refine pw_lookup (off := 27) 28 dX0_changeSetting_1 (by decide) (by decide) (by decide) ?_
  refine t_aload0 dX0_changeSetting_28 ?_
  refine t_iload2 dX0_changeSetting_29 ?_
  refine g_puti ft0 fl_X0_9 (j := 1) (by decide) ⟨rfl, rfl⟩ dX0_changeSetting_30 (by assumption) ?_
  refine pw_goto 49 dX0_changeSetting_33 (by decide) ?_
  refine pw_vret dX0_changeSetting_49 rfl ?_
  exact ⟨rfl, rfl, rfl, rfl, hR.s (j := 1) (by decide) (by decide), fr.u (Nat.le_refl _) (by omega)⟩
set_option maxHeartbeats 4000000 in
set_option maxRecDepth 100000 in
theorem C_settingAt1 {l : Launch} (hlt : l.stackTraces = false) {im : TI} {rm : TP} {lm : TL} {c : Nat} {S : CS} (hC : isC rm c) (hR : CR c S im) : Con l m_X0_settingAt 1 0 0 NN [pv (some c), .int (1)] im rm lm (QP (.int (S.1 10)) im rm lm) noX := by
  have hkc := hC.1
  refine Con.ofN (k := 0) (L0 := [some (pv (some c)), some (.int (1))]) hlt (by decide +kernel) rfl rfl (by rw [en1 pv_cat, en1 rfl, en0]; exact Nat.le_of_ble_eq_true rfl) (by rw [en1 pv_cat, en1 rfl, en0]; rfl) ?_
  refine t_iload1 dX0_settingAt_0 ?_
  refine pw_lookup (off := 32) 33 dX0_settingAt_1 (by decide) (by decide) (by decide) ?_
  refine t_aload0 dX0_settingAt_33 ?_
  refine g_geti ft0 fl_X0_15 (j := 2) (by decide) dX0_settingAt_34 (by assumption) ?_
  refine pw_iret dX0_settingAt_37 rfl ?_
  exact ⟨rfl, by rw [hR.1.2.1], rfl, rfl, rfl⟩
set_option maxHeartbeats 4000000 in
set_option maxRecDepth 100000 in
theorem C_changeSetting1 {l : Launch} (hlt : l.stackTraces = false) {im : TI} {rm : TP} {lm : TL} {c : Nat} {S : CS} (hC : isC rm c) (hR : CR c S im) {x : Int32} : Con l m_X0_changeSetting 1 0 0 NN [pv (some c), .int (1), .int (x)] im rm lm (QV (fun im2 => CR c (upG S 10 x) im2 ∧ fr c im im2) rm lm) noX := by
  have hkc := hC.1
  refine Con.ofN (k := 0) (L0 := [some (pv (some c)), some (.int (1)), some (.int (x))]) hlt (by decide +kernel) rfl rfl (by rw [en1 pv_cat, en1 rfl, en1 rfl, en0]; exact Nat.le_of_ble_eq_true rfl) (by rw [en1 pv_cat, en1 rfl, en1 rfl, en0]; rfl) ?_
  refine t_iload1 dX0_changeSetting_0 ?_
  refine pw_lookup (off := 35) 36 dX0_changeSetting_1 (by decide) (by decide) (by decide) ?_
  refine t_aload0 dX0_changeSetting_36 ?_
  refine t_iload2 dX0_changeSetting_37 ?_
  refine g_puti ft0 fl_X0_15 (j := 2) (by decide) ⟨rfl, rfl⟩ dX0_changeSetting_38 (by assumption) ?_
  refine pw_goto 49 dX0_changeSetting_41 (by decide) ?_
  refine pw_vret dX0_changeSetting_49 rfl ?_
  exact ⟨rfl, rfl, rfl, rfl, hR.s (j := 2) (by decide) (by decide), fr.u (Nat.le_refl _) (by omega)⟩
set_option maxHeartbeats 4000000 in
set_option maxRecDepth 100000 in
theorem C_settingAt2 {l : Launch} (hlt : l.stackTraces = false) {im : TI} {rm : TP} {lm : TL} {c : Nat} {S : CS} (hC : isC rm c) (hR : CR c S im) : Con l m_X0_settingAt 1 0 0 NN [pv (some c), .int (2)] im rm lm (QP (.int (S.1 11)) im rm lm) noX := by
  have hkc := hC.1
  refine Con.ofN (k := 0) (L0 := [some (pv (some c)), some (.int (2))]) hlt (by decide +kernel) rfl rfl (by rw [en1 pv_cat, en1 rfl, en0]; exact Nat.le_of_ble_eq_true rfl) (by rw [en1 pv_cat, en1 rfl, en0]; rfl) ?_
  refine t_iload1 dX0_settingAt_0 ?_
  refine pw_lookup (off := 37) 38 dX0_settingAt_1 (by decide) (by decide) (by decide) ?_
  refine t_aload0 dX0_settingAt_38 ?_
  refine g_geti ft0 fl_X0_18 (j := 3) (by decide) dX0_settingAt_39 (by assumption) ?_
  refine pw_iret dX0_settingAt_42 rfl ?_
  exact ⟨rfl, by rw [hR.1.2.2.1], rfl, rfl, rfl⟩
set_option maxHeartbeats 4000000 in
set_option maxRecDepth 100000 in
theorem C_changeSetting2 {l : Launch} (hlt : l.stackTraces = false) {im : TI} {rm : TP} {lm : TL} {c : Nat} {S : CS} (hC : isC rm c) (hR : CR c S im) {x : Int32} : Con l m_X0_changeSetting 1 0 0 NN [pv (some c), .int (2), .int (x)] im rm lm (QV (fun im2 => CR c (upG S 11 x) im2 ∧ fr c im im2) rm lm) noX := by
  have hkc := hC.1
  refine Con.ofN (k := 0) (L0 := [some (pv (some c)), some (.int (2)), some (.int (x))]) hlt (by decide +kernel) rfl rfl (by rw [en1 pv_cat, en1 rfl, en1 rfl, en0]; exact Nat.le_of_ble_eq_true rfl) (by rw [en1 pv_cat, en1 rfl, en1 rfl, en0]; rfl) ?_
  refine t_iload1 dX0_changeSetting_0 ?_
  refine pw_lookup (off := 43) 44 dX0_changeSetting_1 (by decide) (by decide) (by decide) ?_
  refine t_aload0 dX0_changeSetting_44 ?_
  refine t_iload2 dX0_changeSetting_45 ?_
  refine g_puti ft0 fl_X0_18 (j := 3) (by decide) ⟨rfl, rfl⟩ dX0_changeSetting_46 (by assumption) ?_
  refine pw_vret dX0_changeSetting_49 rfl ?_
  exact ⟨rfl, rfl, rfl, rfl, hR.s (j := 3) (by decide) (by decide), fr.u (Nat.le_refl _) (by omega)⟩
set_option maxHeartbeats 4000000 in
set_option maxRecDepth 100000 in
theorem C_changeStone {l : Launch} (hlt : l.stackTraces = false) {im : TI} {rm : TP} {lm : TL} {c : Nat} {S : CS} (hC : isC rm c) (hR : CR c S im) {m : Nat} {x y : Int32} (hy : y = nI m) (hm : m < 5) : Con l m_X0_changeStone 2 0 0 NN [pv (some c), .int (y), .int (x)] im rm lm (QV (fun im2 => CR c (upF S m 6 x) im2 ∧ fr c im im2) rm lm) noX := by
  have hkc := hC.1
  have hkm := ck_of hC hm
  refine Con.ofN (k := 1) (L0 := [some (pv (some c)), some (.int (y)), some (.int (x)), none]) hlt (by decide +kernel) rfl rfl (by rw [en1 pv_cat, en1 rfl, en1 rfl, en0]; exact Nat.le_of_ble_eq_true rfl) (by rw [en1 pv_cat, en1 rfl, en1 rfl, en0]; rfl) ?_
  subst hy
  refine t_aload0 dX0_changeStone_0 ?_
  refine t_iload1 dX0_changeStone_1 ?_
  refine g_callV1P (C_millAt (l := l) hlt hC hR) rfl ft0 rfl mc_X0_millAt ml_X0_71 mi_X0_millAt ms_X0_millAt in_X0 (okc_X0_millAt (by decide)) dX0_changeStone_2 (by assumption) (cat_le (Nat.le_of_ble_eq_true rfl)) ?_
  refine t_astore3 dX0_changeStone_5 (by decide) okp_i ?_
  rw [maO_nI hm, gm_s]
  refine t_aload3 dX0_changeStone_6 ?_
  refine pw_ifnull 15 dX0_changeStone_7 (by decide) (fun zc7 => ?_) (fun zy7 zc7 => ?_)
  · exact absurd zc7 (fun z => by cases z)
  · refine t_aload3 dX0_changeStone_10 ?_
    refine t_iload2 dX0_changeStone_11 ?_
    refine g_puti ft2 fl_X0_75 (j := 8) (by decide) ⟨rfl, rfl⟩ dX0_changeStone_12 (by assumption) ?_
    refine pw_vret dX0_changeStone_15 rfl ?_
    exact ⟨rfl, rfl, rfl, rfl, hR.f (w := 6) hm (by decide), fr.m hm⟩
abbrev hrP (S : CS) (m : Nat) : Prop := S.2.1 m 9 < 6 ∧ S.1 5 < 999
set_option maxHeartbeats 4000000 in
set_option maxRecDepth 100000 in
theorem C_hasRoom {l : Launch} (hlt : l.stackTraces = false) {im : TI} {rm : TP} {lm : TL} {c : Nat} {S : CS} (hC : isC rm c) (hR : CR c S im) {m : Nat} (hm : m < 5) : Con l m_X0_hasRoomForSack 0 0 0 NN [pv (some c), pv (some (mA c m))] im rm lm (QP (.int (bI (hrP S m))) im rm lm) noX := by
  have hkc := hC.1
  have hkm := ck_of hC hm
  refine Con.ofN (k := 0) (L0 := [some (pv (some c)), some (pv (some (mA c m)))]) hlt (by decide +kernel) rfl rfl (by rw [en1 pv_cat, en1 pv_cat, en0]; exact Nat.le_of_ble_eq_true rfl) (by rw [en1 pv_cat, en1 pv_cat, en0]; rfl) ?_
  refine t_aload1 dX0_hasRoomForSack_0 ?_
  refine g_geti ft2 fl_X0_81 (j := 11) (by decide) dX0_hasRoomForSack_1 (by assumption) ?_
  refine pw_bipush (6) dX0_hasRoomForSack_4 (by decide) ?_
  refine pw_icmp_ge 23 dX0_hasRoomForSack_6 (by decide) (fun zc6 => ?_) (fun zc6 => ?_)
  · refine pw_iconst (0) dX0_hasRoomForSack_23 (by decide) ?_
    refine pw_zret dX0_hasRoomForSack_24 rfl ?_ ?_
    · first | rfl | exact bI_n
    · rw [w11 hR hm] at zc6
      exact ⟨rfl, by rw [bI_f (fun z => absurd z.1 (Int32.not_lt.mpr zc6))], rfl, rfl, rfl⟩
  · refine t_aload0 dX0_hasRoomForSack_9 ?_
    refine g_geti ft0 fl_X0_36 (j := 9) (by decide) dX0_hasRoomForSack_10 (by assumption) ?_
    refine pw_sipush (999) dX0_hasRoomForSack_13 (by decide) ?_
    refine pw_icmp_ge 23 dX0_hasRoomForSack_16 (by decide) (fun zc16 => ?_) (fun zc16 => ?_)
    · refine pw_iconst (0) dX0_hasRoomForSack_23 (by decide) ?_
      refine pw_zret dX0_hasRoomForSack_24 rfl ?_ ?_
      · first | rfl | exact bI_n
      · rw [w11 hR hm] at zc6
        rw [hR.1.2.2.2.2.2 9 (by decide) (by decide)] at zc16
        exact ⟨rfl, by rw [bI_f (fun z => absurd z.2 (Int32.not_lt.mpr zc16))], rfl, rfl, rfl⟩
    · refine pw_iconst (1) dX0_hasRoomForSack_19 (by decide) ?_
      refine pw_goto 24 dX0_hasRoomForSack_20 (by decide) ?_
      refine pw_zret dX0_hasRoomForSack_24 rfl ?_ ?_
      · first | rfl | exact bI_n
      · rw [w11 hR hm] at zc6
        rw [hR.1.2.2.2.2.2 9 (by decide) (by decide)] at zc16
        exact ⟨rfl, by rw [bI_t ⟨Int32.not_le.mp zc6, Int32.not_le.mp zc16⟩], rfl, rfl, rfl⟩
def plS (S : CS) (m : Nat) (s due : Int32) : Nat := skN (fun j => S.2.2 m j 3 < due ∨ (S.2.2 m j 3 = due ∧ S.2.2 m j 0 < s)) (cnt S m) 0
/-- a sack put at the place pl of n -/
def inS (S : CS) (m n pl : Nat) (s h r due : Int32) : CS := upM S m (fun w => if w = 9 then nI (n + 1) else S.2.1 m w) (fun q j => if q < pl then S.2.2 m q j else if q = pl then (if j = 0 then s else if j = 1 then h else if j = 2 then r else due) else if q ≤ n then S.2.2 m (q - 1) j else S.2.2 m q j)
theorem pl_of {c m : Nat} {S : CS} {im : TI} {s due : Int32} (hR : CR c S im) (hm : m < 5) (hI : CI S) : skN (fun j => im (mA c m + 4) j < due ∨ (im (mA c m + 4) j = due ∧ im (mA c m + 1) j < s)) (cnt S m) 0 = plS S m s due := by
  refine skN_congr _ _ fun j _ h2 => ?_
  have := (hI.c hm).1
  have g := (hR.2 m hm).2.2 j (by omega)
  rw [g.1, g.2.2.2]
theorem CR.ins {c m n pl : Nat} {S : CS} {im im2 : TI} {s h r due : Int32} (g0 : CR c S im) (hm : m < 5) (hn : n < 6) (hpl : pl ≤ n) (h2 : ∀ o q, im2 o q = if inR (mA c m) o then (if q < pl then im o q else if q = pl then (if o = mA c m + 1 then s else if o = mA c m + 2 then h else if o = mA c m + 3 then r else due) else if q ≤ n then im o (q - 1) else im o q) else if o = mA c m ∧ q = 11 then nI (n + 1) else im o q) : CR c (inS S m n pl s h r due) im2 ∧ fr c im im2 := by
  have g := g0.2 m hm
  have hout : ∀ o, (o < mA c m ∨ mA c m + 4 < o) → im2 o = im o := fun o ho => funext fun q => by
    rw [h2, if_neg (fun z => by unfold inR at z; omega), if_neg (fun z => by have := z.1; omega)]
  refine ⟨g0.mill hm ⟨?_, fun w hw => ?_, fun q hq => ?_⟩ hout, fr.of hm hout⟩
  · rw [h2, if_neg (fun z => by unfold inR at z; omega), if_neg (by omega)]; exact g.1
  · rw [h2, if_neg (fun z => by unfold inR at z; omega)]
    show _ = (if w = 9 then nI (n + 1) else S.2.1 m w)
    by_cases e : w = 9
    · rw [if_pos e, if_pos ⟨rfl, by omega⟩]
    · rw [if_neg e, if_neg (by omega)]; exact g.2.1 w hw
  · have K : ∀ j : Nat, (inS S m n pl s h r due).2.2 m q j = if q < pl then S.2.2 m q j else if q = pl then (if j = 0 then s else if j = 1 then h else if j = 2 then r else due) else if q ≤ n then S.2.2 m (q - 1) j else S.2.2 m q j := fun j => by
      unfold inS upM
      dsimp only
      rw [if_pos rfl]
    have K2 : (inS S m n pl s h r due).2.2 m = fun q j => if q < pl then S.2.2 m q j else if q = pl then (if j = 0 then s else if j = 1 then h else if j = 2 then r else due) else if q ≤ n then S.2.2 m (q - 1) j else S.2.2 m q j := by
      unfold inS upM
      dsimp only
      rw [if_pos rfl]
    have P : ∀ i : Nat, 1 ≤ i → i ≤ 4 → im2 (mA c m + i) q = if q < pl then im (mA c m + i) q else if q = pl then (if i = 1 then s else if i = 2 then h else if i = 3 then r else due) else if q ≤ n then im (mA c m + i) (q - 1) else im (mA c m + i) q := fun i h1 h4 => by
      rw [h2, if_pos (show inR (mA c m) (mA c m + i) by unfold inR; omega)]
      simp only [Nat.add_left_cancel_iff]
    rw [P 1 (by decide) (by decide), P 2 (by decide) (by decide), P 3 (by decide) (by decide), P 4 (by decide) (by decide)]
    dsimp only
    by_cases e1 : q < pl
    · simp only [if_pos e1]; exact g.2.2 q hq
    · simp only [if_neg e1]
      by_cases e2 : q = pl
      · simp [e2]
      · simp only [if_neg e2]
        by_cases e3 : q ≤ n
        · simp only [if_pos e3]; exact g.2.2 (q - 1) (by omega)
        · simp only [if_neg e3]; exact g.2.2 q hq
theorem plS_le {S : CS} {m : Nat} {s due : Int32} : plS S m s due ≤ cnt S m := by have := (skN_le (fun j => S.2.2 m j 3 < due ∨ (S.2.2 m j 3 = due ∧ S.2.2 m j 0 < s)) (cnt S m) 0).2; unfold plS; omega
/-- putting a sack, over the creek -/
theorem C_put {l : Launch} (hlt : l.stackTraces = false) {im : TI} {rm : TP} {lm : TL} {c m : Nat} {S : CS} {s h r due : Int32} (hC : isC rm c) (hR : CR c S im) (hI : CI S) (hm : m < 5) (h6 : cnt S m < 6) : Con l m_X2_putSack 2 0 0 NN [pv (some (mA c m)), .int s, .int h, .int r, .int due] im rm lm (QI (fun x im2 => x = nI (plS S m s due) ∧ CR c (inS S m (cnt S m) (plS S m s due) s h r due) im2 ∧ fr c im im2) rm lm) noX := by
  have k := C_putSack (l := l) (im := im) (rm := rm) (lm := lm) (n := cnt S m) (s := s) (h := h) (r := r) (due := due) hlt (hC.2.2.1 m hm) (by rw [w11 hR hm]; exact (hI.c hm).2) h6
  rw [pl_of hR hm hI] at k
  refine k.mono fun N v a b d hq => ?_
  obtain ⟨e1, e2, e3, x, e4, e5, e6⟩ := hq
  obtain ⟨z1, z2⟩ := hR.ins (im2 := a) hm h6 plS_le e6
  exact ⟨e1, e2, e3, x, e4, e5, z1, z2⟩
/-- dropping a sack, over the creek -/
theorem C_drop {l : Launch} (hlt : l.stackTraces = false) {im : TI} {rm : TP} {lm : TL} {c m p : Nat} {S : CS} {x : Int32} (hC : isC rm c) (hR : CR c S im) (hI : CI S) (hm : m < 5) (hx : x = nI p) (hp : p < cnt S m) : Con l m_X2_dropSack 1 0 0 NN [pv (some (mA c m)), .int x] im rm lm (QV (fun im2 => CR c (dpS S m p (cnt S m)) im2 ∧ fr c im im2) rm lm) noX := by
  have k := C_dropSack (l := l) (im := im) (rm := rm) (lm := lm) (n := cnt S m) (p := p) (x := x) hlt (hC.2.2.1 m hm) hx (by rw [w11 hR hm]; exact (hI.c hm).2) (hI.c hm).1 hp
  refine k.mono fun N v a b d hq => ?_
  obtain ⟨e1, e2, e3, e4, e5⟩ := hq
  refine ⟨e1, e2, e3, e4, hR.drop hm (hI.c hm).1 e5, fr.of hm fun o ho => funext fun q => ?_⟩
  rw [e5, if_neg (fun z => by have := z.1; unfold inR at this; omega), if_neg (fun z => by have := z.1; omega)]
def brS (S : CS) (m : Nat) (h due : Int32) : CS := let S1 := inS S m (cnt S m) (plS S m (S.1 5) due) (S.1 5) h h due; upG S1 5 (S1.1 5 + 1)
theorem cnt6 {S : CS} {m : Nat} (hI : CI S) (hm : m < 5) (h : S.2.1 m 9 < 6) : cnt S m < 6 := by
  rw [(hI.c hm).2] at h
  exact (nI_ltI (b := 6) (by have := (hI.c hm).1; omega) (by decide)).mp h
set_option maxHeartbeats 4000000 in
set_option maxRecDepth 100000 in
theorem C_bringSack {l : Launch} (hlt : l.stackTraces = false) {im : TI} {rm : TP} {lm : TL} {c : Nat} {S : CS} (hC : isC rm c) (hR : CR c S im) {m : Nat} {h due : Int32} (hm : m < 5) (hI : CI S) : Con l m_X0_bringSack 3 0 0 NN [pv (some c), pv (some (mA c m)), .int (h), .int (due)] im rm lm (QI (fun x im2 => if hrP S m then x = S.1 5 ∧ CR c (brS S m h due) im2 ∧ fr c im im2 else x = -1 ∧ im2 = im) rm lm) noX := by
  have hkc := hC.1
  have hkm := ck_of hC hm
  refine Con.ofN (k := 1) (L0 := [some (pv (some c)), some (pv (some (mA c m))), some (.int (h)), some (.int (due)), none]) hlt (by decide +kernel) rfl rfl (by rw [en1 pv_cat, en1 pv_cat, en1 rfl, en1 rfl, en0]; exact Nat.le_of_ble_eq_true rfl) (by rw [en1 pv_cat, en1 pv_cat, en1 rfl, en1 rfl, en0]; rfl) ?_
  refine t_aload0 dX0_bringSack_0 ?_
  refine t_aload1 dX0_bringSack_1 ?_
  refine g_callV1P (C_hasRoom (l := l) hlt hC hR hm) rfl ft0 rfl mc_X0_hasRoomForSack ml_X0_87 mi_X0_hasRoomForSack ms_X0_hasRoomForSack in_X0 (okc_X0_hasRoomForSack (by decide)) dX0_bringSack_2 (by assumption) (cat_le (Nat.le_of_ble_eq_true rfl)) ?_
  refine pw_if_ne 10 dX0_bringSack_5 (by decide) (fun zc5 => ?_) (fun zc5 => ?_)
  · have hroom : hrP S m := Classical.not_not.mp (fun z => zc5 (bI_f z))
    refine t_aload0 dX0_bringSack_10 ?_
    refine g_geti ft0 fl_X0_36 (j := 9) (by decide) dX0_bringSack_11 (by assumption) ?_
    refine t_istore4 dX0_bringSack_14 (by decide) okp_i ?_
    refine t_aload1 dX0_bringSack_16 ?_
    refine t_iload4 dX0_bringSack_17 ?_
    refine t_iload2 dX0_bringSack_19 ?_
    refine t_iload2 dX0_bringSack_20 ?_
    refine t_iload3 dX0_bringSack_21 ?_
    refine g_callV4I (C_put (l := l) hlt hC hR hI hm (cnt6 hI hm hroom.1)) rfl ft2 rfl mc_X2_putSack ml_X0_91 mi_X2_putSack ms_X2_putSack in_X2 (okc_X2_putSack (by decide)) dX0_bringSack_22 (by assumption) (cat_le (Nat.le_of_ble_eq_true rfl)) (fun zx22 zim22 zh22 => ?_)
    refine pw_pop dX0_bringSack_25 rfl ?_
    obtain ⟨zx, zr, zf⟩ := zh22
    have zg := zr.g (j := 5) (x := zim22 c 9 + 1) (by decide) (by decide)
    refine t_aload0 dX0_bringSack_26 ?_
    refine pw_dup dX0_bringSack_27 pv_cat ?_
    refine g_geti ft0 fl_X0_36 (j := 9) (by decide) dX0_bringSack_28 (by assumption) ?_
    refine pw_iconst (1) dX0_bringSack_31 (by decide) ?_
    refine pw_iadd dX0_bringSack_32 ?_
    refine g_puti ft0 fl_X0_36 (j := 9) (by decide) ⟨rfl, rfl⟩ dX0_bringSack_33 (by assumption) ?_
    refine t_iload4 dX0_bringSack_36 ?_
    refine pw_iret dX0_bringSack_38 rfl ?_
    rw [show zim22 c 9 = (inS S m (cnt S m) (plS S m (im c 9) due) (im c 9) h h due).1 5 from zr.1.2.2.2.2.2 9 (by decide) (by decide)] at zg ⊢
    rw [hR.1.2.2.2.2.2 9 (by decide) (by decide)] at zg ⊢
    exact ⟨rfl, rfl, rfl, _, rfl, by dsimp only; rw [if_pos hroom]; exact ⟨rfl, zg, zf.trans (fr.u (Nat.le_refl _) (by omega))⟩⟩
  · refine pw_iconst (-1) dX0_bringSack_8 (by decide) ?_
    refine pw_iret dX0_bringSack_9 rfl ?_
    exact ⟨rfl, rfl, rfl, _, rfl, by dsimp only; rw [if_neg (fun z => by rw [bI_t z] at zc5; exact absurd zc5 (by decide))]; exact ⟨rfl, rfl⟩⟩
/-- rests of n mills from m on, onto x -/
def rtN (S : CS) : Nat → Nat → Int32 → Int32
  | 0, _, x => x
  | n + 1, m, x => rtN S n (m + 1) (smN (fun p => S.2.2 m p 2) (cnt S m) 0 x)
def rtS (S : CS) : Int32 := rtN S 5 0 0
set_option maxHeartbeats 4000000 in
set_option maxRecDepth 100000 in
theorem C_restsOfAll {l : Launch} (hlt : l.stackTraces = false) {im : TI} {rm : TP} {lm : TL} {c : Nat} {S : CS} (hC : isC rm c) (hR : CR c S im) (hI : CI S) : Con l m_X0_restsOfAll 2 0 0 NN [pv (some c)] im rm lm (QP (.int (rtS S)) im rm lm) noX := by
  have hkc := hC.1
  refine Con.ofN (k := 3) (L0 := [some (pv (some c)), none, none, none]) hlt (by decide +kernel) rfl rfl (by rw [en1 pv_cat, en0]; exact Nat.le_of_ble_eq_true rfl) (by rw [en1 pv_cat, en0]; rfl) ?_
  have loop : ∀ (n m : Nat) (x : Int32), n = 5 - m → rtS S = rtN S n m x → PW l m_X0_restsOfAll 2 0 0 NN 7 [some (pv (some c)), some (.int x), some (pv (mo c m)), none] [] im rm lm (QP (.int (rtS S)) im rm lm) noX := by
    intro n
    induction n using Nat.strongRecOn with
    | _ n ih =>
      intro m x hn hf
      refine t_aload2 dX0_restsOfAll_7 ?_
      refine pw_ifnull 43 dX0_restsOfAll_8 (by decide) (fun zc8 => ?_) (fun zy8 zc8 => ?_)
      · have zm5 := mo_none zc8
        have zn : n = 0 := by omega
        subst zn
        refine t_iload1 dX0_restsOfAll_43 ?_
        refine pw_iret dX0_restsOfAll_44 rfl ?_
        exact ⟨rfl, by rw [hf]; rfl, rfl, rfl, rfl⟩
      · obtain ⟨zhm, rfl⟩ := mo_some zc8
        rw [mo_of zhm]
        have hkm := ck_of hC zhm
        have hM := hC.2.2.1 m zhm
        obtain ⟨n', rfl⟩ : ∃ n', n = n' + 1 := ⟨n - 1, by omega⟩
        obtain ⟨y, hyy⟩ : ∃ y, smN (fun p => S.2.2 m p 2) (cnt S m) 0 x = y := ⟨_, rfl⟩
        have inner : ∀ (j k : Nat) (x : Int32), k + j = cnt S m → y = smN (fun p => S.2.2 m p 2) j k x → PW l m_X0_restsOfAll 2 0 0 NN 13 [some (pv (some c)), some (.int x), some (pv (some (mA c m))), some (.int (nI k))] [] im rm lm (QP (.int (rtS S)) im rm lm) noX := by
          intro j
          induction j using Nat.strongRecOn with
          | _ j ihj =>
            intro k x hkj hy
            have hc := hI.c zhm
            refine t_iload3 dX0_restsOfAll_13 ?_
            refine t_aload2 dX0_restsOfAll_14 ?_
            refine g_geti ft2 fl_X0_81 (j := 11) (by decide) dX0_restsOfAll_15 (by assumption) ?_
            refine pw_icmp_ge 35 dX0_restsOfAll_18 (by decide) (fun zc18 => ?_) (fun zc18 => ?_)
            · refine t_aload2 dX0_restsOfAll_35 ?_
              refine g_getr ft2 fl_X0_61 (j := 1) (by decide) dX0_restsOfAll_36 (by assumption) (by first | assumption | exact hC.2.2.2 _ zhm) ?_
              refine t_astore2 dX0_restsOfAll_39 (by decide) okp_i ?_
              refine pw_goto 7 dX0_restsOfAll_40 (by decide) ?_
              have zk : j = 0 := by
                rw [w11 hR zhm, hc.2] at zc18
                have := (nI_leI (by omega) (by omega)).mp zc18
                omega
              subst zk
              refine PW.sub (s_e (s_e (s_e (s_n s_z)))) ?_
              refine ih n' (by omega) (m + 1) _ (by omega) ?_
              rw [hf, rtN, hyy, hy]
              rfl
            · refine t_iload1 dX0_restsOfAll_21 ?_
              refine t_aload2 dX0_restsOfAll_22 ?_
              refine t_iload3 dX0_restsOfAll_23 ?_
              refine g_callV1P (C_restAt (l := l) hlt hM) rfl ft2 rfl mc_X2_restAt ml_X0_84 mi_X2_restAt ms_X2_restAt in_X2 (okc_X2_restAt (by decide)) dX0_restsOfAll_24 (by assumption) (cat_le (Nat.le_of_ble_eq_true rfl)) ?_
              refine pw_iadd dX0_restsOfAll_27 ?_
              refine t_istore1 dX0_restsOfAll_28 (by decide) okp_r ?_
              refine t_iinc3 (1) dX0_restsOfAll_29 (by decide) (by decide) okp_r ?_
              refine pw_goto 13 dX0_restsOfAll_32 (by decide) ?_
              have zk : k < cnt S m := by
                rcases Nat.lt_or_ge k (cnt S m) with z | z
                · exact z
                · refine absurd ?_ zc18
                  rw [w11 hR zhm, hc.2]
                  exact (nI_leI (by omega) (by omega)).mpr z
              obtain ⟨j', rfl⟩ : ∃ j', j = j' + 1 := ⟨j - 1, by omega⟩
              rw [nI_1 k]
              refine ihj j' (by omega) (k + 1) _ (by omega) ?_
              rw [hy, smN]
              congr 2
              rw [if_pos ⟨nI_pos (by omega), by rw [w11 hR zhm, hc.2]; exact (nI_ltI (by omega) (by omega)).mpr zk, (nI_ltI (b := 6) (by omega) (by decide)).mpr (by omega)⟩, nI_clamp (by omega)]
              exact ((hR.2 m zhm).2.2 k (by omega)).2.2.1.symm
        refine pw_iconst (0) dX0_restsOfAll_11 (by decide) ?_
        refine t_istore3 dX0_restsOfAll_12 (by decide) okp_r ?_
        exact inner (cnt S m) 0 x (by omega) hyy.symm
  refine pw_iconst (0) dX0_restsOfAll_0 (by decide) ?_
  refine t_istore1 dX0_restsOfAll_1 (by decide) okp_r ?_
  refine t_aload0 dX0_restsOfAll_2 ?_
  refine g_getr ft0 fl_X0_53 (j := 0) (by decide) dX0_restsOfAll_3 (by assumption) (hC.2.1) ?_
  refine t_astore2 dX0_restsOfAll_6 (by decide) okp_i ?_
  exact loop 5 0 0 rfl rfl
