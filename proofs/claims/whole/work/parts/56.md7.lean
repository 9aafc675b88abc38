/-! TideMillsModel: rows that are copied, saved states -/
def cpM (im : TI) (a f b t n : Nat) : TI := fun o k => if o = b ∧ t ≤ k ∧ k < t + n then im a (f + (k - t)) else im o k
theorem cp_up {im : TI} {a f b t n : Nat} (hab : a ≠ b) : ui (cpM im a f b t n) b (t + n) ((cpM im a f b t n) a (f + n)) = cpM im a f b t (n + 1) := by
  funext o k
  rw [ui_ap]
  have e : (cpM im a f b t n) a (f + n) = im a (f + n) := if_neg (fun z => hab z.1)
  rw [e]
  unfold cpM
  by_cases h : o = b ∧ k = t + n
  · rw [if_pos h, if_pos ⟨h.1, by omega, by omega⟩, h.2, show t + n - t = n by omega]
  · rw [if_neg h]
    by_cases h2 : o = b ∧ t ≤ k ∧ k < t + n
    · rw [if_pos h2, if_pos ⟨h2.1, h2.2.1, by omega⟩]
    · rw [if_neg h2, if_neg (fun z => h2 ⟨z.1, z.2.1, by omega⟩)]
theorem cp_0 {im : TI} {a f b t : Nat} : cpM im a f b t 0 = im := by
  funext o k
  exact if_neg (fun z => by omega)
theorem cp_ne {im : TI} {a f b t n o : Nat} (h : o ≠ b) : cpM im a f b t n o = im o := by
  funext k
  exact if_neg (fun z => h z.1)
theorem cp_at {im : TI} {a f b t j : Nat} (h : j < 182) : cpM im a f b t 182 b (t + j) = im a (f + j) := by
  unfold cpM
  rw [if_pos ⟨rfl, by omega, by omega⟩, show t + j - t = j by omega]
theorem RW.congr {f g : Nat → Int32} {S : CS} (h : RW f S) (e : ∀ j, j < 182 → g j = f j) : RW g S :=
  ⟨fun j hj => by rw [e j (by omega)]; exact h.1 j hj, fun m w hm hw => by rw [e _ (by omega)]; exact h.2.1 m w hm hw, fun m p k hm hp hk => by rw [e _ (by omega)]; exact h.2.2 m p k hm hp hk⟩
set_option maxHeartbeats 4000000 in
set_option maxRecDepth 100000 in
theorem M_copy {l : Launch} (hlt : l.stackTraces = false) {im : TI} {rm : TP} {lm : TL} {a f b t : Nat} (hka : kd a = 6) (hkb : kd b = 6) (hf : f + 182 ≤ al a) (ht : t + 182 ≤ al b) (ha : al a ≤ 1092) (hb : al b ≤ 1092) (hab : a ≠ b) : Con l m_X5_copy 0 0 0 NN [pv (some a), .int (nI f), pv (some b), .int (nI t)] im rm lm (QV (fun im2 => im2 = cpM im a f b t 182) rm lm) noX := by
  refine Con.ofN (k := 1) (L0 := [some (pv (some a)), some (.int (nI f)), some (pv (some b)), some (.int (nI t)), none]) hlt (by decide +kernel) rfl rfl (by rw [en1 pv_cat, en1 rfl, en1 pv_cat, en1 rfl, en0]; exact Nat.le_of_ble_eq_true rfl) (by rw [en1 pv_cat, en1 rfl, en1 pv_cat, en1 rfl, en0]; rfl) ?_
  have loop : ∀ (n j : Nat) , j + n = 182 → PW l m_X5_copy 0 0 0 NN 3 [some (pv (some a)), some (.int (nI f)), some (pv (some b)), some (.int (nI t)), some (.int (nI j))] [] (cpM im a f b t j) rm lm (QV (fun im2 => im2 = cpM im a f b t 182) rm lm) noX := by
    intro n
    induction n using Nat.strongRecOn with
    | _ n ih =>
      intro j  hj 
      refine t_iload4 dX5_copy_3 ?_
      refine pw_sipush (182) dX5_copy_5 (by decide) ?_
      refine pw_icmp_ge 29 dX5_copy_8 (by decide) (fun zc8 => ?_) (fun zc8 => ?_)
      · have zj : 182 ≤ j := (nI_leI (a := 182) (by decide) (by omega)).mp zc8
        have zn : n = 0 := by omega
        subst zn
        refine pw_vret dX5_copy_29 rfl ?_
        exact ⟨rfl, rfl, rfl, rfl, by rw [show j = 182 by omega]⟩
      · have zj : j < 182 := (nI_ltI (b := 182) (by omega) (by decide)).mp (Int32.not_le.mp zc8)
        obtain ⟨n', rfl⟩ : ∃ n', n = n' + 1 := ⟨n - 1, by omega⟩
        refine t_aload2 dX5_copy_11 ?_
        refine t_iload3 dX5_copy_12 ?_
        refine t_iload4 dX5_copy_13 ?_
        refine pw_iadd dX5_copy_15 ?_
        rw [nI_add]
        refine t_aload0 dX5_copy_16 ?_
        refine t_iload1 dX5_copy_17 ?_
        refine t_iload4 dX5_copy_18 ?_
        refine pw_iadd dX5_copy_20 ?_
        rw [nI_add]
        refine g_iald dX5_copy_21 (by assumption) (vin_nI (by omega) (by omega)) ?_
        rw [nI_clamp (by omega)]
        refine g_iast dX5_copy_22 (by assumption) (vin_nI (by omega) (by omega)) ?_
        rw [nI_clamp (by omega)]
        refine t_iinc4 (1) dX5_copy_23 (by decide) (by decide) okp_i ?_
        refine pw_goto 3 dX5_copy_26 (by decide) ?_
        rw [cp_up hab, nI_1]
        exact ih n' (by omega) (j + 1) (by omega)
  refine pw_iconst (0) dX5_copy_0 (by decide) ?_
  refine t_istore4 dX5_copy_1 (by decide) okp_i ?_
  have h0 := loop 182 0 rfl
  rw [cp_0] at h0
  exact h0
def MV (n : Nat) (T : Nat → CS) (im : TI) : Prop := im 240 2 = nI n ∧ n ≤ 6 ∧ ∀ k, k < n → RW (fun j => im 242 (182 * k + j)) (T k)
/-- what a save leaves -/
def frV (im im2 : TI) : Prop := (∀ o, o ≠ 242 → o ≠ 240 → im2 o = im o) ∧ ∀ j, j ≠ 2 → im2 240 j = im 240 j
def shM (im : TI) (n : Nat) : TI := fun o k => if o = 242 ∧ k < n then im 242 (182 + k) else im o k
theorem sh_up {im : TI} {n : Nat} : ui (shM im n) 242 n ((shM im n) 242 (182 + n)) = shM im (n + 1) := by
  funext o k
  rw [ui_ap]
  have e : (shM im n) 242 (182 + n) = im 242 (182 + n) := if_neg (fun z => by omega)
  rw [e]
  unfold shM
  by_cases h : o = 242 ∧ k = n
  · rw [if_pos h, if_pos ⟨h.1, by omega⟩, h.2]
  · rw [if_neg h]
    by_cases h2 : o = 242 ∧ k < n
    · rw [if_pos h2, if_pos ⟨h2.1, by omega⟩]
    · rw [if_neg h2, if_neg (fun z => h2 ⟨z.1, by omega⟩)]
theorem sh_0 {im : TI} : shM im 0 = im := by
  funext o k
  exact if_neg (fun z => by omega)
theorem sh_ne {im : TI} {n o : Nat} (h : o ≠ 242) : shM im n o = im o := by
  funext k
  exact if_neg (fun z => h z.1)
theorem sv1_ok {im : TI} {n : Nat} {T : Nat → CS} {S : CS} (h : MV n T im) (hR : RW (im 241) S) (hn : n < 6) : MV (shN n) (shT n T S) (ui (cpM im 241 0 242 (182 * n) 182) 240 2 (nI n + 1)) ∧ frV im (ui (cpM im 241 0 242 (182 * n) 182) 240 2 (nI n + 1)) := by
  refine ⟨⟨?_, ?_, fun k hk => ?_⟩, fun o h1 h2 => ?_, fun j hj => ?_⟩
  · rw [ui_at, if_pos rfl, shN, if_pos hn, nI_1]
  · rw [shN, if_pos hn]; omega
  · rw [shN, if_pos hn] at hk
    rw [shT, if_pos hn]
    rw [ui_ne (by decide)]
    by_cases e : k = n
    · rw [if_pos e, e]
      exact hR.congr fun j hj => by rw [cp_at hj, Nat.zero_add]
    · rw [if_neg e]
      exact (h.2.2 k (by omega)).congr fun j hj => if_neg (fun z => by have : 182 * k + 182 ≤ 182 * n := by { rw [show 182 * k + 182 = 182 * (k + 1) by omega]; exact Nat.mul_le_mul_left _ (by omega) }; omega)
  · rw [ui_ne h2, cp_ne h1]
  · rw [ui_at, if_neg hj, cp_ne (by decide)]
theorem sv6_ok {im : TI} {T : Nat → CS} {S : CS} (h : MV 6 T im) (hR : RW (im 241) S) : MV (shN 6) (shT 6 T S) (ui (cpM (ui (shM im 910) 240 2 (nI 5)) 241 0 242 910 182) 240 2 (nI 6)) ∧ frV im (ui (cpM (ui (shM im 910) 240 2 (nI 5)) 241 0 242 910 182) 240 2 (nI 6)) := by
  refine ⟨⟨?_, ?_, fun k hk => ?_⟩, fun o h1 h2 => ?_, fun j hj => ?_⟩
  · rw [ui_at, if_pos rfl]; rfl
  · decide
  · have hk6 : k < 6 := hk
    show RW _ (if k < 5 then T (k + 1) else S)
    rw [ui_ne (by decide)]
    by_cases e : k < 5
    · rw [if_pos e]
      refine (h.2.2 (k + 1) (by omega)).congr fun j hj => ?_
      have e1 : cpM (ui (shM im 910) 240 2 (nI 5)) 241 0 242 910 182 242 (182 * k + j) = ui (shM im 910) 240 2 (nI 5) 242 (182 * k + j) := if_neg (fun z => by omega)
      rw [e1, ui_ne (by decide), show 182 * (k + 1) + j = 182 + (182 * k + j) by omega]
      exact if_pos ⟨rfl, by omega⟩
    · rw [if_neg e]
      refine hR.congr fun j hj => ?_
      rw [show 182 * k + j = 910 + j by omega, cp_at hj, ui_ne (by decide), sh_ne (by decide), Nat.zero_add]
  · rw [ui_ne h2, cp_ne h1, ui_ne h2, sh_ne h1]
  · rw [ui_at, if_neg hj, cp_ne (by decide), ui_at, if_neg hj, sh_ne (by decide)]
set_option maxHeartbeats 4000000 in
set_option maxRecDepth 100000 in
theorem M_save1 {l : Launch} (hlt : l.stackTraces = false) {im : TI} {rm : TP} {lm : TL} {S : CS} {n : Nat} {T : Nat → CS} (hM : MM rm) (hR : RW (im 241) S) (hV : MV n T im) (hn5 : n < 6) : Con l m_X5_save 1 0 0 NN [pv (some 240)] im rm lm (QV (fun im2 => MV (shN n) (shT n T S) im2 ∧ frV im im2) rm lm) noX := by
  have hk0 := kdM
  have hks := kds
  obtain ⟨r0, r1, r3, r5, r6, r11⟩ := id hM
  have hkv := kdv
  obtain ⟨hn, hn6, hT⟩ := id hV
  refine Con.ofN (k := 1) (L0 := [some (pv (some 240)), none]) hlt (by decide +kernel) rfl rfl (by rw [en1 pv_cat, en0]; exact Nat.le_of_ble_eq_true rfl) (by rw [en1 pv_cat, en0]; rfl) ?_
  refine t_aload0 dX5_save_0 ?_
  refine g_geti ft5 fl_X5_40 (j := 2) (by decide) dX5_save_1 (by assumption) ?_
  rw [hn]
  refine pw_bipush (6) dX5_save_4 (by decide) ?_
  refine pw_icmp_ne 50 dX5_save_6 (by decide) (fun zc6 => ?_) (fun zc6 => ?_)
  · refine t_aload0 dX5_save_50 ?_
    refine g_getr ft5 fl_X5_7 (j := 0) (by decide) dX5_save_51 (by assumption) (by assumption) ?_
    refine pw_iconst (0) dX5_save_54 (by decide) ?_
    refine t_aload0 dX5_save_55 ?_
    refine g_getr ft5 fl_X5_13 (j := 1) (by decide) dX5_save_56 (by assumption) (by assumption) ?_
    refine pw_sipush (182) dX5_save_59 (by decide) ?_
    refine t_aload0 dX5_save_62 ?_
    refine g_geti ft5 fl_X5_40 (j := 2) (by decide) dX5_save_63 (by assumption) ?_
    rw [hn]
    refine pw_imul dX5_save_66 ?_
    rw [show (182 : Int32) = nI 182 from rfl, pk_mul]
    refine g_callS4V (M_copy (l := l) hlt (a := 241) (f := 0) (b := 242) (t := 182 * n) kds kdv (by rw [als]; decide) (by rw [alv]; omega) (by rw [als]; decide) (by rw [alv]; decide) (by decide)) rfl mc_X5_copy ml_X5_43 mi_X5_copy in_X5 (okc_X5_copy (by decide)) dX5_save_67 (Nat.zero_le _) (fun zim67 zh67 => ?_)
    rw [show zim67 = cpM im 241 0 242 (182 * n) 182 from zh67]
    refine t_aload0 dX5_save_70 ?_
    refine pw_dup dX5_save_71 pv_cat ?_
    refine g_geti ft5 fl_X5_40 (j := 2) (by decide) dX5_save_72 (by assumption) ?_
    rw [show cpM im 241 0 242 (182 * n) 182 240 2 = nI n from (congrFun (cp_ne (by decide)) 2).trans hn]
    refine pw_iconst (1) dX5_save_75 (by decide) ?_
    refine pw_iadd dX5_save_76 ?_
    refine g_puti ft5 fl_X5_40 (j := 2) (by decide) ⟨rfl, rfl⟩ dX5_save_77 (by assumption) ?_
    refine pw_vret dX5_save_80 rfl ?_
    exact ⟨rfl, rfl, rfl, rfl, sv1_ok hV hR hn5⟩
  · exact absurd (Classical.not_not.mp zc6) (fun z => by have := (nI_eq (b := 6) (by omega) (by decide)).mp z; omega)
set_option maxHeartbeats 4000000 in
set_option maxRecDepth 100000 in
theorem M_save6 {l : Launch} (hlt : l.stackTraces = false) {im : TI} {rm : TP} {lm : TL} {S : CS} {T : Nat → CS} (hM : MM rm) (hR : RW (im 241) S) (hV : MV 6 T im) : Con l m_X5_save 1 0 0 NN [pv (some 240)] im rm lm (QV (fun im2 => MV (shN 6) (shT 6 T S) im2 ∧ frV im im2) rm lm) noX := by
  have hk0 := kdM
  have hks := kds
  obtain ⟨r0, r1, r3, r5, r6, r11⟩ := id hM
  have hkv := kdv
  obtain ⟨hn, hn6, hT⟩ := id hV
  refine Con.ofN (k := 1) (L0 := [some (pv (some 240)), none]) hlt (by decide +kernel) rfl rfl (by rw [en1 pv_cat, en0]; exact Nat.le_of_ble_eq_true rfl) (by rw [en1 pv_cat, en0]; rfl) ?_
  have loop : ∀ (n j : Nat) , j + n = 910 → PW l m_X5_save 1 0 0 NN 11 [some (pv (some 240)), some (.int (nI j))] [] (shM im j) rm lm (QV (fun im2 => MV (shN 6) (shT 6 T S) im2 ∧ frV im im2) rm lm) noX := by
    intro n
    induction n using Nat.strongRecOn with
    | _ n ih =>
      intro j  hj 
      refine t_iload1 dX5_save_11 ?_
      refine pw_sipush (910) dX5_save_12 (by decide) ?_
      refine pw_icmp_ge 40 dX5_save_15 (by decide) (fun zc15 => ?_) (fun zc15 => ?_)
      · have zj : 910 ≤ j := (nI_leI (a := 910) (by decide) (by omega)).mp zc15
        have zn : n = 0 := by omega
        subst zn
        refine t_aload0 dX5_save_40 ?_
        refine pw_dup dX5_save_41 pv_cat ?_
        refine g_geti ft5 fl_X5_40 (j := 2) (by decide) dX5_save_42 (by assumption) ?_
        rw [show j = 910 by omega, show shM im 910 240 2 = nI 6 from (congrFun (sh_ne (by decide)) 2).trans hn]
        refine pw_iconst (1) dX5_save_45 (by decide) ?_
        refine pw_isub dX5_save_46 ?_
        rw [show nI 6 - 1 = nI 5 from rfl]
        refine g_puti ft5 fl_X5_40 (j := 2) (by decide) ⟨rfl, rfl⟩ dX5_save_47 (by assumption) ?_
        refine t_aload0 dX5_save_50 ?_
        refine g_getr ft5 fl_X5_7 (j := 0) (by decide) dX5_save_51 (by assumption) (by assumption) ?_
        refine pw_iconst (0) dX5_save_54 (by decide) ?_
        refine t_aload0 dX5_save_55 ?_
        refine g_getr ft5 fl_X5_13 (j := 1) (by decide) dX5_save_56 (by assumption) (by assumption) ?_
        refine pw_sipush (182) dX5_save_59 (by decide) ?_
        refine t_aload0 dX5_save_62 ?_
        refine g_geti ft5 fl_X5_40 (j := 2) (by decide) dX5_save_63 (by assumption) ?_
        rw [show (ui (shM im 910) 240 2 (nI 5)) 240 2 = nI 5 from (ui_at).trans (if_pos rfl)]
        refine pw_imul dX5_save_66 ?_
        rw [show (182 : Int32) * nI 5 = nI 910 from by decide]
        refine g_callS4V (M_copy (l := l) hlt (a := 241) (f := 0) (b := 242) (t := 910) kds kdv (by rw [als]; decide) (by rw [alv]; omega) (by rw [als]; decide) (by rw [alv]; decide) (by decide)) rfl mc_X5_copy ml_X5_43 mi_X5_copy in_X5 (okc_X5_copy (by decide)) dX5_save_67 (Nat.zero_le _) (fun zim67 zh67 => ?_)
        rw [show zim67 = cpM (ui (shM im 910) 240 2 (nI 5)) 241 0 242 910 182 from zh67]
        refine t_aload0 dX5_save_70 ?_
        refine pw_dup dX5_save_71 pv_cat ?_
        refine g_geti ft5 fl_X5_40 (j := 2) (by decide) dX5_save_72 (by assumption) ?_
        rw [show cpM (ui (shM im 910) 240 2 (nI 5)) 241 0 242 910 182 240 2 = nI 5 from (congrFun (cp_ne (by decide)) 2).trans ((ui_at).trans (if_pos rfl))]
        refine pw_iconst (1) dX5_save_75 (by decide) ?_
        refine pw_iadd dX5_save_76 ?_
        rw [show nI 5 + 1 = nI 6 from rfl]
        refine g_puti ft5 fl_X5_40 (j := 2) (by decide) ⟨rfl, rfl⟩ dX5_save_77 (by assumption) ?_
        refine pw_vret dX5_save_80 rfl ?_
        exact ⟨rfl, rfl, rfl, rfl, sv6_ok hV hR⟩
      · have zj : j < 910 := (nI_ltI (b := 910) (by omega) (by decide)).mp (Int32.not_le.mp zc15)
        obtain ⟨n', rfl⟩ : ∃ n', n = n' + 1 := ⟨n - 1, by omega⟩
        refine t_aload0 dX5_save_18 ?_
        refine g_getr ft5 fl_X5_13 (j := 1) (by decide) dX5_save_19 (by assumption) (by assumption) ?_
        refine t_iload1 dX5_save_22 ?_
        refine t_aload0 dX5_save_23 ?_
        refine g_getr ft5 fl_X5_13 (j := 1) (by decide) dX5_save_24 (by assumption) (by assumption) ?_
        refine pw_sipush (182) dX5_save_27 (by decide) ?_
        refine t_iload1 dX5_save_30 ?_
        refine pw_iadd dX5_save_31 ?_
        rw [show (182 : Int32) + nI j = nI (182 + j) from nI_add 182 j]
        refine g_iald dX5_save_32 (by assumption) (by rw [alv]; exact vin_nI (by omega) (by decide)) ?_
        rw [nI_clamp (by omega)]
        refine g_iast dX5_save_33 (by assumption) (by rw [alv]; exact vin_nI (by omega) (by decide)) ?_
        rw [nI_clamp (by omega)]
        refine t_iinc1 (1) dX5_save_34 (by decide) (by decide) okp_r ?_
        refine pw_goto 11 dX5_save_37 (by decide) ?_
        rw [sh_up, nI_1]
        exact ih n' (by omega) (j + 1) (by omega)
  refine t_aload0 dX5_save_0 ?_
  refine g_geti ft5 fl_X5_40 (j := 2) (by decide) dX5_save_1 (by assumption) ?_
  rw [hn]
  refine pw_bipush (6) dX5_save_4 (by decide) ?_
  refine pw_icmp_ne 50 dX5_save_6 (by decide) (fun zc6 => ?_) (fun zc6 => ?_)
  · exact absurd (by decide) zc6
  · refine pw_iconst (0) dX5_save_9 (by decide) ?_
    refine t_istore1 dX5_save_10 (by decide) okp_r ?_
    have h0 := loop 910 0 rfl
    rw [sh_0] at h0
    exact h0
theorem M_save {l : Launch} (hlt : l.stackTraces = false) {im : TI} {rm : TP} {lm : TL} {S : CS} {n : Nat} {T : Nat → CS} (hM : MM rm) (hR : RW (im 241) S) (hV : MV n T im) : Con l m_X5_save 1 0 0 NN [pv (some 240)] im rm lm (QV (fun im2 => MV (shN n) (shT n T S) im2 ∧ frV im im2) rm lm) noX := by
  by_cases h : n < 6
  · exact M_save1 hlt hM hR hV h
  · have e : n = 6 := by have := hV.2.1; omega
    subst e
    exact M_save6 hlt hM hR hV
/-- the whole reference: its row, what is saved, the snapshot, the text -/
def MZ (Y : TI) (S : CS) (n : Nat) (T : Nat → CS) (sn : Option CS) (bl : Nat) (B : Nat → Int32) (im : TI) : Prop := RW (im 241) S ∧ MV n T im ∧ (im 240 4 = (if sn.isSome then 1 else 0) ∧ ∀ s, sn = some s → RW (im 243) s) ∧ (im 240 7 = nI bl ∧ bl ≤ 60) ∧ (∀ j, j < 60 → im 245 j = B j) ∧ ∀ o, o < 240 → im o = Y o
theorem MZ.keep {Y : TI} {S : CS} {n : Nat} {T : Nat → CS} {sn : Option CS} {bl : Nat} {B : Nat → Int32} {im im2 : TI} (h : MZ Y S n T sn bl B im) (e : ∀ o, o < 240 ∨ o = 241 ∨ o = 242 ∨ o = 243 ∨ o = 245 → im2 o = im o) (e0 : ∀ j, j = 2 ∨ j = 4 ∨ j = 7 → im2 240 j = im 240 j) : MZ Y S n T sn bl B im2 := by
  obtain ⟨h1, ⟨h2, h3, h4⟩, ⟨h5, h6⟩, ⟨h7, h8⟩, h9⟩ := h
  refine ⟨by rw [e 241 (by decide)]; exact h1, ⟨by rw [e0 2 (by decide)]; exact h2, h3, by rw [e 242 (by decide)]; exact h4⟩, ⟨by rw [e0 4 (by decide)]; exact h5, by rw [e 243 (by decide)]; exact h6⟩, ⟨by rw [e0 7 (by decide)]; exact h7, h8⟩, ⟨by rw [e 245 (by decide)]; exact h9.1, fun o ho => (e o (Or.inl ho)).trans (h9.2 o ho)⟩⟩
theorem MZ.step {Y : TI} {S S2 : CS} {n : Nat} {T : Nat → CS} {sn : Option CS} {bl : Nat} {B : Nat → Int32} {im im2 : TI} (h : MZ Y S n T sn bl B im) (g : MS im S2 im2) : MZ Y S2 n T sn bl B im2 := by
  obtain ⟨h1, ⟨h2, h3, h4⟩, ⟨h5, h6⟩, ⟨h7, h8⟩, h9⟩ := h
  refine ⟨g.1, ⟨by rw [g.2 240 (by decide)]; exact h2, h3, by rw [g.2 242 (by decide)]; exact h4⟩, ⟨by rw [g.2 240 (by decide)]; exact h5, by rw [g.2 243 (by decide)]; exact h6⟩, ⟨by rw [g.2 240 (by decide)]; exact h7, h8⟩, ⟨by rw [g.2 245 (by decide)]; exact h9.1, fun o ho => (g.2 o (by omega)).trans (h9.2 o ho)⟩⟩
theorem MZ.saved {Y : TI} {S : CS} {n n2 : Nat} {T T2 : Nat → CS} {sn : Option CS} {bl : Nat} {B : Nat → Int32} {im im2 : TI} (h : MZ Y S n T sn bl B im) (g : MV n2 T2 im2 ∧ frV im im2) : MZ Y S n2 T2 sn bl B im2 := by
  obtain ⟨h1, ⟨h2, h3, h4⟩, ⟨h5, h6⟩, ⟨h7, h8⟩, h9⟩ := h
  obtain ⟨g1, g2, g3⟩ := g
  refine ⟨by rw [g2 241 (by decide) (by decide)]; exact h1, g1, ⟨by rw [g3 4 (by decide)]; exact h5, by rw [g2 243 (by decide) (by decide)]; exact h6⟩, ⟨by rw [g3 7 (by decide)]; exact h7, h8⟩, ⟨by rw [g2 245 (by decide) (by decide)]; exact h9.1, fun o ho => (g2 o (by omega) (by omega)).trans (h9.2 o ho)⟩⟩
