/-! the class: APPEND comes -/
theorem md_tk_o {A : md_A} {s i p : Int} (hB : md_B A s) {s' : Int} (hs' : 0 ≤ s' ∧ s' < 5) (hne : s' ≠ s) : md_tk A s i p 8 s' = A 8 s' ∧ ∀ (k j : Nat), (k = 9 ∨ k = 10 ∨ k = 11 ∨ k = 12) → j < 48 → md_tk A s i p k (48 * s' + j) = A k (48 * s' + j) := by
  unfold md_tk
  split
  · exact ⟨rfl, fun _ _ _ _ => rfl⟩
  · rename_i h
    have hi : A 4 s < i := by omega
    have hb2 := md_cutx_B hB hi
    have e8 : md_cutx A s i 8 s' = A 8 s' := by
      unfold md_cutx
      split
      · exact md_ui hne
      · rfl
    split
    · exact ⟨e8, fun k j hk hj => md_cutx_k (by omega)⟩
    · rename_i h48
      unfold md_tkP md_push
      refine ⟨?_, fun k j hk hj => ?_⟩
      · rw [md_ui hne, md_uk (by decide), md_uk (by decide), md_uk (by decide), md_uk (by decide)]
        exact e8
      · rw [md_uk (by omega), md_ui (by omega), md_ui (by omega), md_ui (by omega), md_ui (by omega)]
        exact md_cutx_k (by omega)
theorem md_tks_o {A : md_A} {s bf n : Int} (hB : md_B A s) {s' : Int} (hs' : 0 ≤ s' ∧ s' < 5) (hne : s' ≠ s) : (md_tks A s bf n).1 8 s' = A 8 s' ∧ ∀ (k j : Nat), (k = 9 ∨ k = 10 ∨ k = 11 ∨ k = 12) → j < 48 → (md_tks A s bf n).1 k (48 * s' + j) = A k (48 * s' + j) := by
  have o1 := md_tk_o (i := bf + 1) (p := 10) hB hs' hne
  have o2 := md_tk_o (i := bf + 1 + 1) (p := 14) (md_tk_B (i := bf + 1) (p := 10) hB) hs' hne
  unfold md_tks
  split
  · exact ⟨rfl, fun _ _ _ _ => rfl⟩
  · split
    · exact o1
    · split
      · exact o1
      · split
        · exact ⟨o2.1.trans o1.1, fun k j hk hj => (o2.2 k j hk hj).trans (o1.2 k j hk hj)⟩
        · exact ⟨o2.1.trans o1.1, fun k j hk hj => (o2.2 k j hk hj).trans (o1.2 k j hk hj)⟩
theorem md_max_comm (a c : Int) : md_max a c = md_max c a := by
  unfold md_max
  split <;> split <;> omega
theorem md_max_0 (c : Int) : md_max 0 c = if c < 0 then 0 else c := rfl
theorem md_min_r {a c : Int} (h1 : rng a) (h2 : rng c) : rng (md_min a c) := by unfold md_min; split <;> omega
/-- the message taken, behind a call -/
theorem cr_M.kp {G : qh_G} {iv : Nat → Option Nat} {g g' : qh_H} {I I' : md_A} {m : Nat → Nat} {E E' : cl_E} {N N' : Nat → Nat} {y : Nat} {c : Int → Int} (hM : cr_M G iv g I E N y c) (hy : m 49 = y) (hg : cr_g g g') (j1 : I' (100 + m 49) = I (100 + m 49)) (j2 : E' (200 + m 49) = E (200 + m 49)) (j3 : N' (100 + m 49) = N (100 + m 49)) : cr_M G iv g' I' E' N' y c := by
  rw [hy] at j1 j2 j3
  exact (hM.gr hg).cg j1 j2 j3 (fun _ _ _ => rfl)
set_option maxRecDepth 100000 in
set_option maxHeartbeats 1000000 in
theorem c_appCome (l : Launch) (G : qh_G) (b : Nat) {ad : Nat → Nat} {iv : Nat → Option Nat} (J : cl_I ad iv) {g : qh_H} {I : md_A} {m : Nat → Nat} {E : cl_E} {N : Nat → Nat} {A : md_A} (h : cr G iv g I m E N A) (hv : md_V A) {s : Nat} (hs : s < 5) (hBa : ∀ s' : Nat, s' < 5 → md_B A s') {y : Nat} (hy : m 49 = y) (hM : cr_M G iv g I E N y (A 29)) (h0 : A 29 0 = 4) (hb : 0 ≤ A 29 4 ∧ A 29 4 ≤ 1000000) (hm : 0 ≤ A 29 7 ∧ A 29 7 ≤ 2) (he0 : 0 < A 29 7 → 0 ≤ A 29 10) (he1 : 1 < A 29 7 → 0 ≤ A 29 14) (d : Nat) : qpv l y_Q_appendComes c_Q_appendComes 4 none (d + 4) 0 0 G b [.ref (ad 0), .ref (ad (10 + s)), .ref (ad (100 + y))] (ch G ad iv g I m E N) (cr_P G ad iv g I m E N (md_app A s (A 29 1))) := by
  have hw := hv.1
  have hB := hBa s hs
  have hl : md_last A s = A 4 s + A 8 s := rfl
  have n3 : y < 50 := by rw [← hy]; exact h.2.2.2.1.1 49 (by omega)
  have hS := h.1 s hs
  have r2 := hw.1 2 s
  have r3 := hw.1 29 3
  have r8 := hw.1 29 8
  have r14 := hw.1 14 s
  refine qx_of (lo := [some (.ref (ad 0)), some (.ref (ad (10 + s))), some (.ref (ad (100 + y))), none]) (by decide) (fun w hw => List.mem_cons_of_mem _ hw) rfl (Nat.le_of_ble_eq_true rfl) rfl ?_
  intro X C
  refine qx_aload_n C d_Q_appendComes_0 rfl rfl ?_
  refine qx_get C d_Q_appendComes_1 fl_Q_212 (ch_M J n3) rfl ?_
  rw [hM.1.2.2.2.1]
  refine qx_aload_n C d_Q_appendComes_4 rfl rfl ?_
  refine qx_get C d_Q_appendComes_5 fl_Q_61 (ch_S J hs) rfl ?_
  rw [hS.1.2.2.1]
  refine nx_icmp_ge C 24 d_Q_appendComes_8 (by decide) (by omega) (by omega) (fun z1 => ?_) (fun z1 => ?_)
  · refine qx_aload_n C d_Q_appendComes_24 rfl rfl ?_
    refine qx_aload_n C d_Q_appendComes_25 rfl rfl ?_
    refine nx_callpv C (s_Q_appendComes_26 (ch_Q J)) (c_follow l G b J h hw.1 hs hv.2 d) w_Q_follow rfl rfl (Nat.le_of_ble_eq_true rfl) (by omega) (by decide) (fun hh hP => ?_)
    obtain ⟨g1, I1, E1, N1, rfl, hg1, h1, j1, j2, j3⟩ := hP
    have hM1 : cr_M G iv g1 I1 E1 N1 y (A 29) := hM.kp hy hg1 j1 j2 j3
    refine qx_aload_n C d_Q_appendComes_29 rfl rfl ?_
    refine qx_iconst C d_Q_appendComes_30 (v := iI (1)) rfl ?_
    refine cx_pSz C J hs (kz := 6) d_Q_appendComes_31 fp_Q_47 (by decide) rfl (by omega) ?_
    have h2 : cr G iv g1 (md_u I1 (10 + s) 6 1) m E1 N1 (md_fol A s) := h1.u hs (by unfold cr_F; omega)
    have hM2 : cr_M G iv g1 (md_u I1 (10 + s) 6 1) E1 N1 y (A 29) := hM1.cg (cl_uI _ _ _ (by omega)) rfl rfl (fun _ _ _ => rfl)
    have k2 : md_u I1 (10 + s) 6 1 (100 + m 49) = I (100 + m 49) := (cl_uI _ _ _ (by omega)).trans j1
    have hlg := md_fol_lg A s
    have hw2 := md_fol_ww (s := s) hw
    have hB2 := hlg.B hB
    have e29 : md_fol A s 29 = A 29 := by funext z; exact md_fol_k (by decide)
    have e14 : md_fol A s 14 s = A 14 s := md_fol_k (by decide)
    have e27 : md_fol A s 27 0 = A 27 0 := md_fol_k (by decide)
    have hL2 := h2.2.1 s hs
    generalize hI2 : md_u I1 (10 + s) 6 1 = I2 at h2 hM2 hL2 k2
    refine qx_aload_n C d_Q_appendComes_34 rfl rfl ?_
    refine qx_get C d_Q_appendComes_35 fl_Q_85 (ch_S J hs) rfl ?_
    refine qx_aload_n C d_Q_appendComes_38 rfl rfl ?_
    refine qx_get C d_Q_appendComes_39 fl_Q_213 (ch_M J n3) rfl ?_
    rw [hM2.1.2.2.2.2.1]
    refine qx_aload_n C d_Q_appendComes_42 rfl rfl ?_
    refine qx_get C d_Q_appendComes_43 fl_Q_261 (ch_M J n3) rfl ?_
    rw [hM2.2.1 (Or.inr (Or.inr h0))]
    refine nx_call0 C (s_Q_appendComes_46 (ch_L J hs)) (c_fits l G b J hw2.1 hs hL2 hB2 (by omega) (hw.1 29 5) d) w_L_fitsBehind rfl rfl (Nat.le_of_ble_eq_true rfl) (by omega) (by decide) ?_
    rw [hlg.last, hlg.termAt, show md_fol A s 4 s = A 4 s from md_fol_k (by decide)]
    by_cases c1 : md_last A s < A 29 4 ∨ (A 4 s ≤ A 29 4 ∧ ¬ md_termAt A s (A 29 4) = A 29 5)
    · rw [if_pos c1]
      refine nx_if_ne C 89 d_Q_appendComes_49 (by decide) (by omega) (fun z2 => ?_) (fun z2 => ?_)
      · exact absurd z2 (by omega)
      · refine qx_iconst C d_Q_appendComes_52 (v := iI (0)) rfl ?_
        refine qx_aload_n C d_Q_appendComes_53 rfl rfl ?_
        refine qx_get C d_Q_appendComes_54 fl_Q_85 (ch_S J hs) rfl ?_
        refine nx_call0 C (s_Q_appendComes_57 (ch_L J hs)) (c_last l G b J hs hL2 hB2 d) w_L_last rfl rfl (Nat.le_of_ble_eq_true rfl) (by omega) (by decide) ?_
        rw [hlg.last]
        refine qx_aload_n C d_Q_appendComes_60 rfl rfl ?_
        refine qx_get C d_Q_appendComes_61 fl_Q_213 (ch_M J n3) rfl ?_
        rw [hM2.1.2.2.2.2.1]
        refine qx_iconst C d_Q_appendComes_64 (v := iI (1)) rfl ?_
        refine nx_isub C d_Q_appendComes_65 ?_
        refine nx_min C d_Q_appendComes_66 qm_494 rfl (Nat.le_of_ble_eq_true rfl) (by omega) (by omega) (by omega) ?_
        refine nx_max C d_Q_appendComes_69 qm_497 rfl (Nat.le_of_ble_eq_true rfl) (by omega) (by omega) (md_min_r (by omega) (by omega)) ?_
        refine nx_istore_n C d_Q_appendComes_72 rfl (Nat.le_of_ble_eq_true rfl) (lo' := [_, _, _, some (.int _)]) rfl ?_
        refine qx_aload_n C d_Q_appendComes_73 rfl rfl ?_
        refine qx_aload_n C d_Q_appendComes_74 rfl rfl ?_
        refine qx_aload_n C d_Q_appendComes_75 rfl rfl ?_
        refine qx_get C d_Q_appendComes_76 fl_Q_209 (ch_M J n3) rfl ?_
        rw [hM2.1.2.1]
        refine qx_iconst C d_Q_appendComes_79 (v := iI (0)) rfl ?_
        refine qx_iload_n C d_Q_appendComes_80 rfl rfl ?_
        refine qx_aload_n C d_Q_appendComes_81 rfl rfl ?_
        refine qx_get C d_Q_appendComes_82 fl_Q_219 (ch_M J n3) rfl ?_
        rw [hM2.1.2.2.2.2.2.2.1]
        refine nx_callpv C (s_Q_appendComes_85 (ch_Q J)) (c_result l G b J h2 hw2.2 hs (Or.inl rfl) d) w_Q_sendResult rfl rfl (Nat.le_of_ble_eq_true rfl) (by omega) (by decide) (fun hh hP => ?_)
        obtain ⟨g3, I3, E3, N3, rfl, hg3, h3, p1, p2, p3⟩ := hP
        refine qx_vret C d_Q_appendComes_88 (Nat.zero_le _) (Nat.zero_le _) ⟨rfl, g3, I3, E3, N3, rfl, hg1.tr hg3, ?_, p1.trans k2, p2.trans j2, p3.trans j3⟩
        unfold md_app
        rw [if_neg (by omega), if_pos c1, ← md_max_0]
        exact h3
    · rw [if_neg c1]
      refine nx_if_ne C 89 d_Q_appendComes_49 (by decide) (by omega) (fun z2 => ?_) (fun z2 => ?_)
      · refine qx_aload_n C d_Q_appendComes_89 rfl rfl ?_
        refine qx_get C d_Q_appendComes_90 fl_Q_85 (ch_S J hs) rfl ?_
        refine qx_aload_n C d_Q_appendComes_93 rfl rfl ?_
        have q5 : I2 (100 + y) 5 = md_fol A s 29 4 := by rw [e29]; exact hM2.1.2.2.2.2.1
        have q7 : I2 (100 + y) 7 = md_fol A s 29 7 := by rw [e29]; exact hM2.1.2.2.2.2.2.1
        refine nx_callp C (s_Q_appendComes_94 (ch_L J hs)) (c_take l G b J hw2 hs hL2 hB2 n3 q5 q7 (by rw [e29]; omega) (by rw [e29]; exact hm) (by rw [e29]; exact fun z => ⟨(hM2.2.2.1 h0).2.1 z, he0 z⟩) (by rw [e29]; exact fun z => ⟨(hM2.2.2.1 h0).2.2 z, he1 z⟩) d) w_L_takeOver rfl rfl (Nat.le_of_ble_eq_true rfl) (by omega) (by decide) (fun hh hP => ?_)
        rw [e29] at hP ⊢
        obtain ⟨I3, E3, rfl, ho3, hL3⟩ := hP
        have hin := md_tks_in (md_fol A s) s (A 29 4) (A 29 7)
        have hw3 := md_tks_ww (bf := A 29 4) (m := A 29 7) hB2 hw2
        have h3 : cr G iv g1 I3 m E3 N1 (md_tks (md_fol A s) s (A 29 4) (A 29 7)).1 := cr.log h2 hs (fun s' hs' => hlg.B (hBa s' hs')) ho3 (fun _ _ => rfl) hL3 (fun k hk => by funext z; exact md_tks_k (by omega)) (fun s' hs' hne => ⟨fun k hk => by
          by_cases k8 : k = 8
          · subst k8
            exact (md_tks_o hB2 (by omega) (by omega)).1
          · exact md_tks_k (by omega), fun z _ _ => md_tks_k (by decide), fun k i hk hi => (md_tks_o hB2 (by omega) (by omega)).2 k i hk hi⟩)
        have hM3 : cr_M G iv g1 I3 E3 N1 y (A 29) := hM2.cg (ho3.1 _ (by omega)) (ho3.2 _ (by omega)) rfl (fun _ _ _ => rfl)
        have f14 : (md_tks (md_fol A s) s (A 29 4) (A 29 7)).1 14 s = A 14 s := (md_tks_k (by decide)).trans e14
        refine nx_istore_n C d_Q_appendComes_97 rfl (Nat.le_of_ble_eq_true rfl) (lo' := [_, _, _, some (.int _)]) rfl ?_
        refine qx_aload_n C d_Q_appendComes_98 rfl rfl ?_
        refine qx_aload_n C d_Q_appendComes_99 rfl rfl ?_
        refine qx_get C d_Q_appendComes_100 fl_Q_133 (ch_S J hs) rfl ?_
        rw [(h3.1 s hs).1.2.2.2.2.2.1, f14]
        refine qx_aload_n C d_Q_appendComes_103 rfl rfl ?_
        refine qx_get C d_Q_appendComes_104 fl_Q_294 (ch_M J n3) rfl ?_
        rw [(hM3.2.2.1 h0).1]
        refine qx_iload_n C d_Q_appendComes_107 rfl rfl ?_
        refine nx_min C d_Q_appendComes_108 qm_494 rfl (Nat.le_of_ble_eq_true rfl) (by omega) (by omega) (by omega) ?_
        refine nx_max C d_Q_appendComes_111 qm_497 rfl (Nat.le_of_ble_eq_true rfl) (by omega) (by omega) (md_min_r (by omega) (by omega)) ?_
        rw [md_max_comm]
        refine cx_pS C J hs (kz := 10) d_Q_appendComes_114 fp_Q_133 (by decide) rfl ?_
        refine qx_aload_n C d_Q_appendComes_117 rfl rfl ?_
        refine qx_aload_n C d_Q_appendComes_118 rfl rfl ?_
        refine qx_aload_n C d_Q_appendComes_119 rfl rfl ?_
        have h4 : cr G iv g1 _ m E3 N1 (md_u (md_tks (md_fol A s) s (A 29 4) (A 29 7)).1 14 s (md_max (md_min (A 29 8) (md_tks (md_fol A s) s (A 29 4) (A 29 7)).2) (A 14 s))) := h3.u hs (k := 10) (v := md_max (md_min (A 29 8) (md_tks (md_fol A s) s (A 29 4) (A 29 7)).2) (A 14 s)) (by unfold cr_F; omega)
        have hM4 : cr_M G iv g1 (md_u I3 (10 + s) 10 (md_max (md_min (A 29 8) (md_tks (md_fol A s) s (A 29 4) (A 29 7)).2) (A 14 s))) E3 N1 y (A 29) := hM3.cg (cl_uI _ _ _ (by omega)) rfl rfl (fun _ _ _ => rfl)
        refine qx_get C d_Q_appendComes_120 fl_Q_209 (ch_M J n3) rfl ?_
        rw [hM4.1.2.1]
        refine qx_iconst C d_Q_appendComes_123 (v := iI (1)) rfl ?_
        refine qx_iload_n C d_Q_appendComes_124 rfl rfl ?_
        refine qx_aload_n C d_Q_appendComes_125 rfl rfl ?_
        refine qx_get C d_Q_appendComes_126 fl_Q_219 (ch_M J n3) rfl ?_
        rw [hM4.1.2.2.2.2.2.2.1]
        refine nx_callpv C (s_Q_appendComes_129 (ch_Q J)) (c_result l G b J h4 (by rw [md_uk (by decide)]; exact hw3.2) hs (Or.inr rfl) d) w_Q_sendResult rfl rfl (Nat.le_of_ble_eq_true rfl) (by omega) (by decide) (fun hh hP => ?_)
        obtain ⟨g5, I5, E5, N5, rfl, hg5, h5, p1, p2, p3⟩ := hP
        refine qx_vret C d_Q_appendComes_132 (Nat.zero_le _) (Nat.zero_le _) ⟨rfl, g5, I5, E5, N5, rfl, hg1.tr hg5, ?_, ?_, ?_, p3.trans j3⟩
        · unfold md_app md_appT
          rw [if_neg (by omega), if_neg c1, e29, e14]
          exact h5
        · rw [p1, cl_uI _ _ _ (by omega), ho3.1 _ (by omega)]
          exact k2
        · rw [p2, ho3.2 _ (by omega)]
          exact j2
      · exact absurd z2 (by omega)
  · refine qx_aload_n C d_Q_appendComes_11 rfl rfl ?_
    refine qx_aload_n C d_Q_appendComes_12 rfl rfl ?_
    refine qx_aload_n C d_Q_appendComes_13 rfl rfl ?_
    refine qx_get C d_Q_appendComes_14 fl_Q_209 (ch_M J n3) rfl ?_
    rw [hM.1.2.1]
    refine qx_iconst C d_Q_appendComes_17 (v := iI (0)) rfl ?_
    refine qx_iconst C d_Q_appendComes_18 (v := iI (0)) rfl ?_
    refine qx_iconst C d_Q_appendComes_19 (v := iI (0)) rfl ?_
    refine nx_callpv C (s_Q_appendComes_20 (ch_Q J)) (c_result l G b J h hw.2 hs (Or.inl rfl) d) w_Q_sendResult rfl rfl (Nat.le_of_ble_eq_true rfl) (by omega) (by decide) (fun hh hP => ?_)
    obtain ⟨g3, I3, E3, N3, rfl, hg3, h3, p1, p2, p3⟩ := hP
    refine qx_vret C d_Q_appendComes_23 (Nat.zero_le _) (Nat.zero_le _) ⟨rfl, g3, I3, E3, N3, rfl, hg3, ?_, p1, p2, p3⟩
    unfold md_app
    rw [if_pos (by omega)]
    exact h3
