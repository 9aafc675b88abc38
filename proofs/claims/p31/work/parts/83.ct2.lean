/-! Constructors: the reader, the history -/
theorem ui0_r {im : TI} {o k p : Nat} {v : Int32} : ui im o k v o p = if p = k then v else im o p := ui_at
def keepX (c : Nat) (x : Nat) (im i : TI) (rm r : TP) : Prop := (∀ k, k < c → i k = im k) ∧ ∀ k, k < c → k ≠ x → r k = rm k
theorem isC.cg {r r2 : TP} {c : Nat} (h : isC r c) (e : ∀ k, c ≤ k → k ≤ c + 25 → r2 k = r k) : isC r2 c := by
  obtain ⟨h1, h2, h3, h4⟩ := h
  refine ⟨h1, by rw [e c (by omega) (by omega)]; exact h2, fun m hm => (h3 m hm).cg (e _ (by unfold mA; omega) (by unfold mA; omega)), fun m hm => by rw [e _ (by unfold mA; omega) (by unfold mA; omega)]; exact h4 m hm⟩
theorem PW.gen {l : Launch} {mt : MT} {d mc ms N pc : Nat} {L : List (Option Value)} {st : List Value} {im : TI} {rm : TP} {lm : TL} {Q : TQ} {X : TX} (P : TI → TP → Prop) (h : P im rm) (K : ∀ i r, P i r → PW l mt d mc ms N pc L st i r lm Q X) : PW l mt d mc ms N pc L st im rm lm Q X := K _ _ h
set_option maxHeartbeats 4000000 in
set_option maxRecDepth 100000 in
theorem K_Reader {l : Launch} (hlt : l.stackTraces = false) {im : TI} {rm : TP} {lm : TL} (hF : FS 239 im rm lm) : Con l m_X3_init 1 1 3 (239) [pv (some 238)] im rm lm (fun N' v i r q => N' = 240 ∧ v = none ∧ r 238 1 = some 239 ∧ keepB 238 im i rm r ∧ q = lm ∧ FS 240 i r q) noX := by
  refine Con.ofN (k := 0) (L0 := [some (pv (some 238))]) hlt (by decide +kernel) rfl rfl (by rw [en1 pv_cat, en0]; exact Nat.le_of_ble_eq_true rfl) (by rw [en1 pv_cat, en0]; rfl) ?_
  refine t_aload0 dX3_init_0 ?_
  refine pw_objInit oi_X3 (by omega) dX3_init_1 (Nat.zero_le _) ?_
  refine t_aload0 dX3_init_4 ?_
  refine pw_iconst (-1) dX3_init_5 (by decide) ?_
  refine pw_puti ft3 fl_X3_9 (j := 0) (by decide) (by decide) (Or.inl rfl) ⟨rfl, rfl⟩ dX3_init_6 kdR (by omega) ?_
  have hF := hF.ui (o := 238) (k := 0) (v := (-1)) (by omega)
  refine t_aload0 dX3_init_9 ?_
  refine pw_iconst (3) dX3_init_10 (by decide) ?_
  refine PW.room (mc' := 0 + 1) (ms' := 0 + al 239) (by decide) (by rw [alN]; decide) ?_
  refine pw_newi dX3_init_11 kdN (by decide) (by rw [alN]; decide) (by rw [alN]; decide) (by omega) hF noXe (okL_s (okr (by omega)) okL_z) (okS_c (okr (by omega)) okS_z) ?_
  have hF := hF.up (N2 := 240) (by omega)
  refine pw_putr (C2 := "") (o := (some 239)) ft3 fl_X3_15 (j := 1) (by decide) (by decide) (Or.inr ⟨rfl, rfl⟩) (Or.inr ⟨_, rfl⟩) dX3_init_13 kdR (by omega) ?_
  have hF := hF.ur (o := 238) (k := 1) (v := (some 239)) (by omega) (fun z hz => by cases hz; omega)
  refine t_aload0 dX3_init_16 ?_
  refine pw_iconst (0) dX3_init_17 (by decide) ?_
  refine pw_puti ft3 fl_X3_19 (j := 2) (by decide) (by decide) (Or.inl rfl) ⟨rfl, rfl⟩ dX3_init_18 kdR (by omega) ?_
  have hF := hF.ui (o := 238) (k := 2) (v := (0)) (by omega)
  refine t_aload0 dX3_init_21 ?_
  refine pw_iconst (0) dX3_init_22 (by decide) ?_
  refine pw_puti ft3 fl_X3_22 (j := 3) (by decide) (by decide) (Or.inl rfl) ⟨rfl, rfl⟩ dX3_init_23 kdR (by omega) ?_
  have hF := hF.ui (o := 238) (k := 3) (v := (0)) (by omega)
  refine pw_vret dX3_init_26 rfl ?_
  refine ⟨rfl, rfl, ?_, fun k hk => ⟨?_, ?_⟩, rfl, hF⟩
  · simp [ur_ap]
  · funext p; simp [ui_ap, show k ≠ 238 by omega]
  · funext p; simp [ur_ap, show k ≠ 238 by omega]
set_option maxHeartbeats 4000000 in
set_option maxRecDepth 100000 in
theorem K_h0 {l : Launch} (hlt : l.stackTraces = false) {mc ms : Nat} {im : TI} {rm : TP} {lm : TL} {Q : TQ} (hd : crD 81) (h79 : rm 79 0 = some 80) (hF : FS 81 im rm lm)
    (K : ∀ im' rm', CR 81 S0 im' → isC rm' 81 → keepX 81 80 im im' rm rm' → (∀ p, rm' 80 p = if p = 0 then some 81 else rm 80 p) → FS 107 im' rm' lm → PW l m_X1_init 3 mc ms 107 20 [some (pv (some 79)), some (.int 1)] [] im' rm' lm Q noX) : PW l m_X1_init 3 (26 + mc) (213 + ms) 81 20 [some (pv (some 79)), some (.int 0)] [] im rm lm Q noX := by
  refine t_iload1 dX1_init_20 ?_
  refine pw_bipush (6) dX1_init_21 (by decide) ?_
  refine pw_icmp_ge 45 dX1_init_23 (by decide) (fun h => absurd h (by decide)) (fun _ => ?_)
  refine t_aload0 dX1_init_26 ?_
  refine pw_getr (o := (some 80)) ft1 fl_X1_11 (j := 0) (by decide) (by decide) dX1_init_27 kd79 (by omega) h79 ?_
  refine t_iload1 dX1_init_30 ?_
  refine PW.room (mc' := (25 + mc) + 1) (ms' := (200 + ms) + 13) (by omega) (by omega) ?_
  refine pw_new ft0 cl_X1_9 it_X0 in_X0 df0 dX1_init_31 hd.1 (by omega) hF noXe (okL_s (okr (by omega)) (okL_s trivial okL_z)) (okS_c trivial (okS_c (okr (by omega)) okS_z)) ?_
  have hF := hF.up (N2 := 82) (by omega)
  refine pw_dup dX1_init_34 rfl ?_
  refine PW.room (mc' := 25 + mc) (ms' := 200 + ms) (by omega) (by omega) ?_
  refine pw_callI (as := []) (b := 81) (K_Creek (l := l) hlt (c := 81) hd (by decide) hF) rfl rfl rfl mc_X0_init ml_X1_21 mi_X0_init in_X0 (okc_X0_init (by decide)) dX1_init_35 (by exact Nat.le_of_ble_eq_true rfl) (fun N' v i r q h => Or.inr ⟨by have := h.1; omega, (okL_s (okr (by omega)) (okL_s trivial okL_z)), (okS_c (okr (by omega)) (okS_c trivial (okS_c (okr (by omega)) okS_z))), noXe⟩) (fun _ _ _ _ h => h.elim) (fun zN zv35 zi35 zr35 zq35 zh35 => ?_)
  obtain ⟨rfl, rfl, hm, rfl, hG⟩ := zh35; clear hF; have hF := hG; clear hG
  refine pw_aast dX1_init_38 kd80 (by omega) hd.1 (by omega) (by rw [al80]; unfold vp_in; decide) ?_
  have hF := hF.ur (o := 80) (k := 0) (v := some 81) (by decide) (fun z hz => by cases hz; decide)
  refine t_iinc1 (1) dX1_init_39 (by decide) (by decide) okp_r ?_
  rw [show ((0 : Int32) + (1)) = 1 by decide]
  refine pw_goto 20 dX1_init_42 (by decide) ?_
  refine K _ _ hm.1 (hm.2.1.cg fun k h1 h2 => ur_ne (by omega)) ⟨fun k hk => (hm.2.2 k hk).1, fun k hk hx => by rw [ur_ne hx]; exact (hm.2.2 k hk).2⟩ (fun p => ?_) hF
  rw [ur_ap]
  by_cases e : p = 0
  · rw [if_pos e, if_pos ⟨rfl, e⟩]
  · rw [if_neg e, if_neg (fun h => e h.2), (hm.2.2 80 (by decide)).2]
set_option maxHeartbeats 4000000 in
set_option maxRecDepth 100000 in
theorem K_h1 {l : Launch} (hlt : l.stackTraces = false) {mc ms : Nat} {im : TI} {rm : TP} {lm : TL} {Q : TQ} (hd : crD 107) (h79 : rm 79 0 = some 80) (hF : FS 107 im rm lm)
    (K : ∀ im' rm', CR 107 S0 im' → isC rm' 107 → keepX 107 80 im im' rm rm' → (∀ p, rm' 80 p = if p = 1 then some 107 else rm 80 p) → FS 133 im' rm' lm → PW l m_X1_init 3 mc ms 133 20 [some (pv (some 79)), some (.int 2)] [] im' rm' lm Q noX) : PW l m_X1_init 3 (26 + mc) (213 + ms) 107 20 [some (pv (some 79)), some (.int 1)] [] im rm lm Q noX := by
  refine t_iload1 dX1_init_20 ?_
  refine pw_bipush (6) dX1_init_21 (by decide) ?_
  refine pw_icmp_ge 45 dX1_init_23 (by decide) (fun h => absurd h (by decide)) (fun _ => ?_)
  refine t_aload0 dX1_init_26 ?_
  refine pw_getr (o := (some 80)) ft1 fl_X1_11 (j := 0) (by decide) (by decide) dX1_init_27 kd79 (by omega) h79 ?_
  refine t_iload1 dX1_init_30 ?_
  refine PW.room (mc' := (25 + mc) + 1) (ms' := (200 + ms) + 13) (by omega) (by omega) ?_
  refine pw_new ft0 cl_X1_9 it_X0 in_X0 df0 dX1_init_31 hd.1 (by omega) hF noXe (okL_s (okr (by omega)) (okL_s trivial okL_z)) (okS_c trivial (okS_c (okr (by omega)) okS_z)) ?_
  have hF := hF.up (N2 := 108) (by omega)
  refine pw_dup dX1_init_34 rfl ?_
  refine PW.room (mc' := 25 + mc) (ms' := 200 + ms) (by omega) (by omega) ?_
  refine pw_callI (as := []) (b := 107) (K_Creek (l := l) hlt (c := 107) hd (by decide) hF) rfl rfl rfl mc_X0_init ml_X1_21 mi_X0_init in_X0 (okc_X0_init (by decide)) dX1_init_35 (by exact Nat.le_of_ble_eq_true rfl) (fun N' v i r q h => Or.inr ⟨by have := h.1; omega, (okL_s (okr (by omega)) (okL_s trivial okL_z)), (okS_c (okr (by omega)) (okS_c trivial (okS_c (okr (by omega)) okS_z))), noXe⟩) (fun _ _ _ _ h => h.elim) (fun zN zv35 zi35 zr35 zq35 zh35 => ?_)
  obtain ⟨rfl, rfl, hm, rfl, hG⟩ := zh35; clear hF; have hF := hG; clear hG
  refine pw_aast dX1_init_38 kd80 (by omega) hd.1 (by omega) (by rw [al80]; unfold vp_in; decide) ?_
  have hF := hF.ur (o := 80) (k := 1) (v := some 107) (by decide) (fun z hz => by cases hz; decide)
  refine t_iinc1 (1) dX1_init_39 (by decide) (by decide) okp_r ?_
  rw [show ((1 : Int32) + (1)) = 2 by decide]
  refine pw_goto 20 dX1_init_42 (by decide) ?_
  refine K _ _ hm.1 (hm.2.1.cg fun k h1 h2 => ur_ne (by omega)) ⟨fun k hk => (hm.2.2 k hk).1, fun k hk hx => by rw [ur_ne hx]; exact (hm.2.2 k hk).2⟩ (fun p => ?_) hF
  rw [ur_ap]
  by_cases e : p = 1
  · rw [if_pos e, if_pos ⟨rfl, e⟩]
  · rw [if_neg e, if_neg (fun h => e h.2), (hm.2.2 80 (by decide)).2]
set_option maxHeartbeats 4000000 in
set_option maxRecDepth 100000 in
theorem K_h2 {l : Launch} (hlt : l.stackTraces = false) {mc ms : Nat} {im : TI} {rm : TP} {lm : TL} {Q : TQ} (hd : crD 133) (h79 : rm 79 0 = some 80) (hF : FS 133 im rm lm)
    (K : ∀ im' rm', CR 133 S0 im' → isC rm' 133 → keepX 133 80 im im' rm rm' → (∀ p, rm' 80 p = if p = 2 then some 133 else rm 80 p) → FS 159 im' rm' lm → PW l m_X1_init 3 mc ms 159 20 [some (pv (some 79)), some (.int 3)] [] im' rm' lm Q noX) : PW l m_X1_init 3 (26 + mc) (213 + ms) 133 20 [some (pv (some 79)), some (.int 2)] [] im rm lm Q noX := by
  refine t_iload1 dX1_init_20 ?_
  refine pw_bipush (6) dX1_init_21 (by decide) ?_
  refine pw_icmp_ge 45 dX1_init_23 (by decide) (fun h => absurd h (by decide)) (fun _ => ?_)
  refine t_aload0 dX1_init_26 ?_
  refine pw_getr (o := (some 80)) ft1 fl_X1_11 (j := 0) (by decide) (by decide) dX1_init_27 kd79 (by omega) h79 ?_
  refine t_iload1 dX1_init_30 ?_
  refine PW.room (mc' := (25 + mc) + 1) (ms' := (200 + ms) + 13) (by omega) (by omega) ?_
  refine pw_new ft0 cl_X1_9 it_X0 in_X0 df0 dX1_init_31 hd.1 (by omega) hF noXe (okL_s (okr (by omega)) (okL_s trivial okL_z)) (okS_c trivial (okS_c (okr (by omega)) okS_z)) ?_
  have hF := hF.up (N2 := 134) (by omega)
  refine pw_dup dX1_init_34 rfl ?_
  refine PW.room (mc' := 25 + mc) (ms' := 200 + ms) (by omega) (by omega) ?_
  refine pw_callI (as := []) (b := 133) (K_Creek (l := l) hlt (c := 133) hd (by decide) hF) rfl rfl rfl mc_X0_init ml_X1_21 mi_X0_init in_X0 (okc_X0_init (by decide)) dX1_init_35 (by exact Nat.le_of_ble_eq_true rfl) (fun N' v i r q h => Or.inr ⟨by have := h.1; omega, (okL_s (okr (by omega)) (okL_s trivial okL_z)), (okS_c (okr (by omega)) (okS_c trivial (okS_c (okr (by omega)) okS_z))), noXe⟩) (fun _ _ _ _ h => h.elim) (fun zN zv35 zi35 zr35 zq35 zh35 => ?_)
  obtain ⟨rfl, rfl, hm, rfl, hG⟩ := zh35; clear hF; have hF := hG; clear hG
  refine pw_aast dX1_init_38 kd80 (by omega) hd.1 (by omega) (by rw [al80]; unfold vp_in; decide) ?_
  have hF := hF.ur (o := 80) (k := 2) (v := some 133) (by decide) (fun z hz => by cases hz; decide)
  refine t_iinc1 (1) dX1_init_39 (by decide) (by decide) okp_r ?_
  rw [show ((2 : Int32) + (1)) = 3 by decide]
  refine pw_goto 20 dX1_init_42 (by decide) ?_
  refine K _ _ hm.1 (hm.2.1.cg fun k h1 h2 => ur_ne (by omega)) ⟨fun k hk => (hm.2.2 k hk).1, fun k hk hx => by rw [ur_ne hx]; exact (hm.2.2 k hk).2⟩ (fun p => ?_) hF
  rw [ur_ap]
  by_cases e : p = 2
  · rw [if_pos e, if_pos ⟨rfl, e⟩]
  · rw [if_neg e, if_neg (fun h => e h.2), (hm.2.2 80 (by decide)).2]
set_option maxHeartbeats 4000000 in
set_option maxRecDepth 100000 in
theorem K_h3 {l : Launch} (hlt : l.stackTraces = false) {mc ms : Nat} {im : TI} {rm : TP} {lm : TL} {Q : TQ} (hd : crD 159) (h79 : rm 79 0 = some 80) (hF : FS 159 im rm lm)
    (K : ∀ im' rm', CR 159 S0 im' → isC rm' 159 → keepX 159 80 im im' rm rm' → (∀ p, rm' 80 p = if p = 3 then some 159 else rm 80 p) → FS 185 im' rm' lm → PW l m_X1_init 3 mc ms 185 20 [some (pv (some 79)), some (.int 4)] [] im' rm' lm Q noX) : PW l m_X1_init 3 (26 + mc) (213 + ms) 159 20 [some (pv (some 79)), some (.int 3)] [] im rm lm Q noX := by
  refine t_iload1 dX1_init_20 ?_
  refine pw_bipush (6) dX1_init_21 (by decide) ?_
  refine pw_icmp_ge 45 dX1_init_23 (by decide) (fun h => absurd h (by decide)) (fun _ => ?_)
  refine t_aload0 dX1_init_26 ?_
  refine pw_getr (o := (some 80)) ft1 fl_X1_11 (j := 0) (by decide) (by decide) dX1_init_27 kd79 (by omega) h79 ?_
  refine t_iload1 dX1_init_30 ?_
  refine PW.room (mc' := (25 + mc) + 1) (ms' := (200 + ms) + 13) (by omega) (by omega) ?_
  refine pw_new ft0 cl_X1_9 it_X0 in_X0 df0 dX1_init_31 hd.1 (by omega) hF noXe (okL_s (okr (by omega)) (okL_s trivial okL_z)) (okS_c trivial (okS_c (okr (by omega)) okS_z)) ?_
  have hF := hF.up (N2 := 160) (by omega)
  refine pw_dup dX1_init_34 rfl ?_
  refine PW.room (mc' := 25 + mc) (ms' := 200 + ms) (by omega) (by omega) ?_
  refine pw_callI (as := []) (b := 159) (K_Creek (l := l) hlt (c := 159) hd (by decide) hF) rfl rfl rfl mc_X0_init ml_X1_21 mi_X0_init in_X0 (okc_X0_init (by decide)) dX1_init_35 (by exact Nat.le_of_ble_eq_true rfl) (fun N' v i r q h => Or.inr ⟨by have := h.1; omega, (okL_s (okr (by omega)) (okL_s trivial okL_z)), (okS_c (okr (by omega)) (okS_c trivial (okS_c (okr (by omega)) okS_z))), noXe⟩) (fun _ _ _ _ h => h.elim) (fun zN zv35 zi35 zr35 zq35 zh35 => ?_)
  obtain ⟨rfl, rfl, hm, rfl, hG⟩ := zh35; clear hF; have hF := hG; clear hG
  refine pw_aast dX1_init_38 kd80 (by omega) hd.1 (by omega) (by rw [al80]; unfold vp_in; decide) ?_
  have hF := hF.ur (o := 80) (k := 3) (v := some 159) (by decide) (fun z hz => by cases hz; decide)
  refine t_iinc1 (1) dX1_init_39 (by decide) (by decide) okp_r ?_
  rw [show ((3 : Int32) + (1)) = 4 by decide]
  refine pw_goto 20 dX1_init_42 (by decide) ?_
  refine K _ _ hm.1 (hm.2.1.cg fun k h1 h2 => ur_ne (by omega)) ⟨fun k hk => (hm.2.2 k hk).1, fun k hk hx => by rw [ur_ne hx]; exact (hm.2.2 k hk).2⟩ (fun p => ?_) hF
  rw [ur_ap]
  by_cases e : p = 3
  · rw [if_pos e, if_pos ⟨rfl, e⟩]
  · rw [if_neg e, if_neg (fun h => e h.2), (hm.2.2 80 (by decide)).2]
set_option maxHeartbeats 4000000 in
set_option maxRecDepth 100000 in
theorem K_h4 {l : Launch} (hlt : l.stackTraces = false) {mc ms : Nat} {im : TI} {rm : TP} {lm : TL} {Q : TQ} (hd : crD 185) (h79 : rm 79 0 = some 80) (hF : FS 185 im rm lm)
    (K : ∀ im' rm', CR 185 S0 im' → isC rm' 185 → keepX 185 80 im im' rm rm' → (∀ p, rm' 80 p = if p = 4 then some 185 else rm 80 p) → FS 211 im' rm' lm → PW l m_X1_init 3 mc ms 211 20 [some (pv (some 79)), some (.int 5)] [] im' rm' lm Q noX) : PW l m_X1_init 3 (26 + mc) (213 + ms) 185 20 [some (pv (some 79)), some (.int 4)] [] im rm lm Q noX := by
  refine t_iload1 dX1_init_20 ?_
  refine pw_bipush (6) dX1_init_21 (by decide) ?_
  refine pw_icmp_ge 45 dX1_init_23 (by decide) (fun h => absurd h (by decide)) (fun _ => ?_)
  refine t_aload0 dX1_init_26 ?_
  refine pw_getr (o := (some 80)) ft1 fl_X1_11 (j := 0) (by decide) (by decide) dX1_init_27 kd79 (by omega) h79 ?_
  refine t_iload1 dX1_init_30 ?_
  refine PW.room (mc' := (25 + mc) + 1) (ms' := (200 + ms) + 13) (by omega) (by omega) ?_
  refine pw_new ft0 cl_X1_9 it_X0 in_X0 df0 dX1_init_31 hd.1 (by omega) hF noXe (okL_s (okr (by omega)) (okL_s trivial okL_z)) (okS_c trivial (okS_c (okr (by omega)) okS_z)) ?_
  have hF := hF.up (N2 := 186) (by omega)
  refine pw_dup dX1_init_34 rfl ?_
  refine PW.room (mc' := 25 + mc) (ms' := 200 + ms) (by omega) (by omega) ?_
  refine pw_callI (as := []) (b := 185) (K_Creek (l := l) hlt (c := 185) hd (by decide) hF) rfl rfl rfl mc_X0_init ml_X1_21 mi_X0_init in_X0 (okc_X0_init (by decide)) dX1_init_35 (by exact Nat.le_of_ble_eq_true rfl) (fun N' v i r q h => Or.inr ⟨by have := h.1; omega, (okL_s (okr (by omega)) (okL_s trivial okL_z)), (okS_c (okr (by omega)) (okS_c trivial (okS_c (okr (by omega)) okS_z))), noXe⟩) (fun _ _ _ _ h => h.elim) (fun zN zv35 zi35 zr35 zq35 zh35 => ?_)
  obtain ⟨rfl, rfl, hm, rfl, hG⟩ := zh35; clear hF; have hF := hG; clear hG
  refine pw_aast dX1_init_38 kd80 (by omega) hd.1 (by omega) (by rw [al80]; unfold vp_in; decide) ?_
  have hF := hF.ur (o := 80) (k := 4) (v := some 185) (by decide) (fun z hz => by cases hz; decide)
  refine t_iinc1 (1) dX1_init_39 (by decide) (by decide) okp_r ?_
  rw [show ((4 : Int32) + (1)) = 5 by decide]
  refine pw_goto 20 dX1_init_42 (by decide) ?_
  refine K _ _ hm.1 (hm.2.1.cg fun k h1 h2 => ur_ne (by omega)) ⟨fun k hk => (hm.2.2 k hk).1, fun k hk hx => by rw [ur_ne hx]; exact (hm.2.2 k hk).2⟩ (fun p => ?_) hF
  rw [ur_ap]
  by_cases e : p = 4
  · rw [if_pos e, if_pos ⟨rfl, e⟩]
  · rw [if_neg e, if_neg (fun h => e h.2), (hm.2.2 80 (by decide)).2]
set_option maxHeartbeats 4000000 in
set_option maxRecDepth 100000 in
theorem K_h5 {l : Launch} (hlt : l.stackTraces = false) {mc ms : Nat} {im : TI} {rm : TP} {lm : TL} {Q : TQ} (hd : crD 211) (h79 : rm 79 0 = some 80) (hF : FS 211 im rm lm)
    (K : ∀ im' rm', CR 211 S0 im' → isC rm' 211 → keepX 211 80 im im' rm rm' → (∀ p, rm' 80 p = if p = 5 then some 211 else rm 80 p) → FS 237 im' rm' lm → PW l m_X1_init 3 mc ms 237 20 [some (pv (some 79)), some (.int 6)] [] im' rm' lm Q noX) : PW l m_X1_init 3 (26 + mc) (213 + ms) 211 20 [some (pv (some 79)), some (.int 5)] [] im rm lm Q noX := by
  refine t_iload1 dX1_init_20 ?_
  refine pw_bipush (6) dX1_init_21 (by decide) ?_
  refine pw_icmp_ge 45 dX1_init_23 (by decide) (fun h => absurd h (by decide)) (fun _ => ?_)
  refine t_aload0 dX1_init_26 ?_
  refine pw_getr (o := (some 80)) ft1 fl_X1_11 (j := 0) (by decide) (by decide) dX1_init_27 kd79 (by omega) h79 ?_
  refine t_iload1 dX1_init_30 ?_
  refine PW.room (mc' := (25 + mc) + 1) (ms' := (200 + ms) + 13) (by omega) (by omega) ?_
  refine pw_new ft0 cl_X1_9 it_X0 in_X0 df0 dX1_init_31 hd.1 (by omega) hF noXe (okL_s (okr (by omega)) (okL_s trivial okL_z)) (okS_c trivial (okS_c (okr (by omega)) okS_z)) ?_
  have hF := hF.up (N2 := 212) (by omega)
  refine pw_dup dX1_init_34 rfl ?_
  refine PW.room (mc' := 25 + mc) (ms' := 200 + ms) (by omega) (by omega) ?_
  refine pw_callI (as := []) (b := 211) (K_Creek (l := l) hlt (c := 211) hd (by decide) hF) rfl rfl rfl mc_X0_init ml_X1_21 mi_X0_init in_X0 (okc_X0_init (by decide)) dX1_init_35 (by exact Nat.le_of_ble_eq_true rfl) (fun N' v i r q h => Or.inr ⟨by have := h.1; omega, (okL_s (okr (by omega)) (okL_s trivial okL_z)), (okS_c (okr (by omega)) (okS_c trivial (okS_c (okr (by omega)) okS_z))), noXe⟩) (fun _ _ _ _ h => h.elim) (fun zN zv35 zi35 zr35 zq35 zh35 => ?_)
  obtain ⟨rfl, rfl, hm, rfl, hG⟩ := zh35; clear hF; have hF := hG; clear hG
  refine pw_aast dX1_init_38 kd80 (by omega) hd.1 (by omega) (by rw [al80]; unfold vp_in; decide) ?_
  have hF := hF.ur (o := 80) (k := 5) (v := some 211) (by decide) (fun z hz => by cases hz; decide)
  refine t_iinc1 (1) dX1_init_39 (by decide) (by decide) okp_r ?_
  rw [show ((5 : Int32) + (1)) = 6 by decide]
  refine pw_goto 20 dX1_init_42 (by decide) ?_
  refine K _ _ hm.1 (hm.2.1.cg fun k h1 h2 => ur_ne (by omega)) ⟨fun k hk => (hm.2.2 k hk).1, fun k hk hx => by rw [ur_ne hx]; exact (hm.2.2 k hk).2⟩ (fun p => ?_) hF
  rw [ur_ap]
  by_cases e : p = 5
  · rw [if_pos e, if_pos ⟨rfl, e⟩]
  · rw [if_neg e, if_neg (fun h => e h.2), (hm.2.2 80 (by decide)).2]
set_option maxHeartbeats 4000000 in
set_option maxRecDepth 100000 in
theorem K_Hist {l : Launch} (hlt : l.stackTraces = false) {im : TI} {rm : TP} {lm : TL} (hF : FS 80 im rm lm) : Con l m_X1_init 3 157 1284 (80) [pv (some 79)] im rm lm (fun N' v i r q => N' = 237 ∧ v = none ∧ HO r i (fun p => 81 + 26 * p) 0 (fun _ => S0) ∧ (∀ c ∈ svL, isC r c) ∧ keepB 79 im i rm r ∧ q = lm ∧ FS 237 i r q) noX := by
  refine Con.ofN (k := 1) (L0 := [some (pv (some 79)), none]) hlt (by decide +kernel) rfl rfl (by rw [en1 pv_cat, en0]; exact Nat.le_of_ble_eq_true rfl) (by rw [en1 pv_cat, en0]; rfl) ?_
  refine t_aload0 dX1_init_0 ?_
  refine pw_objInit oi_X1 (by omega) dX1_init_1 (Nat.zero_le _) ?_
  refine t_aload0 dX1_init_4 ?_
  refine pw_bipush (6) dX1_init_5 (by decide) ?_
  refine PW.room (mc' := 156 + 1) (ms' := 1278 + al 80) (by decide) (by rw [al80]; decide) ?_
  refine pw_newq cl_X1_9 dX1_init_7 kd80 (by decide) (by rw [al80]; decide) (by rw [al80]; decide) (by omega) hF noXe (okL_s (okr (by omega)) (okL_n okL_z)) (okS_c (okr (by omega)) okS_z) ?_
  have hF := hF.up (N2 := 81) (by omega)
  refine pw_putr (C2 := "") (o := (some 80)) ft1 fl_X1_11 (j := 0) (by decide) (by decide) (Or.inr ⟨rfl, rfl⟩) (Or.inr ⟨_, rfl⟩) dX1_init_10 kd79 (by omega) ?_
  have hF := hF.ur (o := 79) (k := 0) (v := (some 80)) (by omega) (fun z hz => by cases hz; omega)
  refine t_aload0 dX1_init_13 ?_
  refine pw_iconst (0) dX1_init_14 (by decide) ?_
  refine pw_puti ft1 fl_X1_17 (j := 1) (by decide) (by decide) (Or.inl rfl) ⟨rfl, rfl⟩ dX1_init_15 kd79 (by omega) ?_
  have hF := hF.ui (o := 79) (k := 1) (v := (0)) (by omega)
  refine pw_iconst (0) dX1_init_18 (by decide) ?_
  refine t_istore1 dX1_init_19 (by decide) okp_r ?_
  refine PW.gen (fun i r => keepB 79 im i rm r ∧ r 79 0 = some 80 ∧ i 79 1 = 0 ∧ FS 81 i r lm) ⟨fun k hk => ⟨?_, ?_⟩, ?_, ?_, hF⟩ fun i0 r0 ⟨hk0, h79, hz, hF⟩ => ?_
  · funext p; simp [ui_ap, show k ≠ 79 by omega]
  · funext p; simp [ur_ap, show k ≠ 79 by omega]
  · simp [ur_ap]
  · simp [ui_ap]
  refine PW.room (mc' := 26 + 130) (ms' := 213 + 1065) (by decide) (by decide) ?_
  refine K_h0 hlt (crD_all 81 (by decide)) h79 hF fun i1 r1 hc1 hq1 hk1 h80_1 hF => ?_
  have h79_1 : r1 79 0 = some 80 := by rw [hk1.2 79 (by decide) (by decide)]; exact h79
  refine PW.room (mc' := 26 + 104) (ms' := 213 + 852) (by decide) (by decide) ?_
  refine K_h1 hlt (crD_all 107 (by decide)) h79_1 hF fun i2 r2 hc2 hq2 hk2 h80_2 hF => ?_
  have h79_2 : r2 79 0 = some 80 := by rw [hk2.2 79 (by decide) (by decide)]; exact h79_1
  refine PW.room (mc' := 26 + 78) (ms' := 213 + 639) (by decide) (by decide) ?_
  refine K_h2 hlt (crD_all 133 (by decide)) h79_2 hF fun i3 r3 hc3 hq3 hk3 h80_3 hF => ?_
  have h79_3 : r3 79 0 = some 80 := by rw [hk3.2 79 (by decide) (by decide)]; exact h79_2
  refine PW.room (mc' := 26 + 52) (ms' := 213 + 426) (by decide) (by decide) ?_
  refine K_h3 hlt (crD_all 159 (by decide)) h79_3 hF fun i4 r4 hc4 hq4 hk4 h80_4 hF => ?_
  have h79_4 : r4 79 0 = some 80 := by rw [hk4.2 79 (by decide) (by decide)]; exact h79_3
  refine PW.room (mc' := 26 + 26) (ms' := 213 + 213) (by decide) (by decide) ?_
  refine K_h4 hlt (crD_all 185 (by decide)) h79_4 hF fun i5 r5 hc5 hq5 hk5 h80_5 hF => ?_
  have h79_5 : r5 79 0 = some 80 := by rw [hk5.2 79 (by decide) (by decide)]; exact h79_4
  refine PW.room (mc' := 26 + 0) (ms' := 213 + 0) (by decide) (by decide) ?_
  refine K_h5 hlt (crD_all 211 (by decide)) h79_5 hF fun i6 r6 hc6 hq6 hk6 h80_6 hF => ?_
  refine t_iload1 dX1_init_20 ?_
  refine pw_bipush (6) dX1_init_21 (by decide) ?_
  refine pw_icmp_ge 45 dX1_init_23 (by decide) (fun _ => ?_) (fun h => absurd (by decide) h)
  refine pw_vret dX1_init_45 rfl ?_
  have e80 : ∀ p, p < 6 → r6 80 p = some (81 + 26 * p) := fun p hp => by rw [h80_6, h80_5, h80_4, h80_3, h80_2, h80_1]; rcases (show p = 0 ∨ p = 1 ∨ p = 2 ∨ p = 3 ∨ p = 4 ∨ p = 5 by omega) with rfl | rfl | rfl | rfl | rfl | rfl <;> rfl
  have cR1 : CR 81 S0 i6 := hc1.keep fun o h1 h2 => by rw [hk6.1 o (by omega), hk5.1 o (by omega), hk4.1 o (by omega), hk3.1 o (by omega), hk2.1 o (by omega)]
  have cQ1 : isC r6 81 := hq1.cg fun o h1 h2 => by rw [hk6.2 o (by omega) (by omega), hk5.2 o (by omega) (by omega), hk4.2 o (by omega) (by omega), hk3.2 o (by omega) (by omega), hk2.2 o (by omega) (by omega)]
  have cR2 : CR 107 S0 i6 := hc2.keep fun o h1 h2 => by rw [hk6.1 o (by omega), hk5.1 o (by omega), hk4.1 o (by omega), hk3.1 o (by omega)]
  have cQ2 : isC r6 107 := hq2.cg fun o h1 h2 => by rw [hk6.2 o (by omega) (by omega), hk5.2 o (by omega) (by omega), hk4.2 o (by omega) (by omega), hk3.2 o (by omega) (by omega)]
  have cR3 : CR 133 S0 i6 := hc3.keep fun o h1 h2 => by rw [hk6.1 o (by omega), hk5.1 o (by omega), hk4.1 o (by omega)]
  have cQ3 : isC r6 133 := hq3.cg fun o h1 h2 => by rw [hk6.2 o (by omega) (by omega), hk5.2 o (by omega) (by omega), hk4.2 o (by omega) (by omega)]
  have cR4 : CR 159 S0 i6 := hc4.keep fun o h1 h2 => by rw [hk6.1 o (by omega), hk5.1 o (by omega)]
  have cQ4 : isC r6 159 := hq4.cg fun o h1 h2 => by rw [hk6.2 o (by omega) (by omega), hk5.2 o (by omega) (by omega)]
  have cR5 : CR 185 S0 i6 := hc5.keep fun o h1 h2 => by rw [hk6.1 o (by omega)]
  have cQ5 : isC r6 185 := hq5.cg fun o h1 h2 => by rw [hk6.2 o (by omega) (by omega)]
  have cR6 : CR 211 S0 i6 := hc6
  have cQ6 : isC r6 211 := hq6
  refine ⟨rfl, rfl, ⟨?_, ?_, by decide, fun p hp => ⟨e80 p hp, ?_⟩, fun a b h1 h2 h3 => by have h3 : 81 + 26 * a = 81 + 26 * b := h3; omega, fun p hp => absurd hp (by omega), fun p hp => ?_⟩, ?_, fun k hk => ⟨?_, ?_⟩, rfl, hF⟩
  · rw [hk6.2 79 (by omega) (by omega), hk5.2 79 (by omega) (by omega), hk4.2 79 (by omega) (by omega), hk3.2 79 (by omega) (by omega), hk2.2 79 (by omega) (by omega), hk1.2 79 (by omega) (by omega)]; exact h79
  · rw [hk6.1 79 (by omega), hk5.1 79 (by omega), hk4.1 79 (by omega), hk3.1 79 (by omega), hk2.1 79 (by omega), hk1.1 79 (by omega)]; exact hz
  · rcases (show p = 0 ∨ p = 1 ∨ p = 2 ∨ p = 3 ∨ p = 4 ∨ p = 5 by omega) with rfl | rfl | rfl | rfl | rfl | rfl <;> decide
  · rcases (show p = 0 ∨ p = 1 ∨ p = 2 ∨ p = 3 ∨ p = 4 ∨ p = 5 by omega) with rfl | rfl | rfl | rfl | rfl | rfl
    · exact cR1.nb
    · exact cR2.nb
    · exact cR3.nb
    · exact cR4.nb
    · exact cR5.nb
    · exact cR6.nb
  · intro c hc
    rcases (show c = 81 ∨ c = 107 ∨ c = 133 ∨ c = 159 ∨ c = 185 ∨ c = 211 by simpa [svL] using hc) with rfl | rfl | rfl | rfl | rfl | rfl
    · exact cQ1
    · exact cQ2
    · exact cQ3
    · exact cQ4
    · exact cQ5
    · exact cQ6
  · rw [hk6.1 k (by omega), hk5.1 k (by omega), hk4.1 k (by omega), hk3.1 k (by omega), hk2.1 k (by omega), hk1.1 k (by omega)]; exact (hk0 k hk).1
  · rw [hk6.2 k (by omega) (by omega), hk5.2 k (by omega) (by omega), hk4.2 k (by omega) (by omega), hk3.2 k (by omega) (by omega), hk2.2 k (by omega) (by omega), hk1.2 k (by omega) (by omega)]; exact (hk0 k hk).2
