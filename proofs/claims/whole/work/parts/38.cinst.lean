/-! the class: INSTALL comes -/
theorem cr_L_begin {G : qh_G} {iv : Nat → Option Nat} {g : qh_H} {I : md_A} {E : cl_E} {N : Nat → Nat} {A A' : md_A} {s : Nat} (hL : cr_L G iv g I E N A s) {q : Nat} {ix t me lf : Int} {V : Int → Int} (hq : cr_N G iv g q ix t me V) (h4 : A' 4 s = ix) (h5 : A' 5 s = t) (h6 : A' 6 s = me) (h7 : ∀ k : Int, 0 ≤ k → k < 4 → A' 7 (4 * s + k) = V k) (h8 : A' 8 s = lf) (hlf : 0 ≤ lf ∧ lf ≤ A 8 s) (h9 : ∀ (k i : Nat), (k = 9 ∨ k = 10 ∨ k = 11 ∨ k = 12) → (i : Int) < lf → A' k (48 * s + i) = A k (48 * s + i + (A 8 s - lf))) : cr_L G iv g (md_u I (20 + s) 2 lf) (cl_sh E s (A 8 s - lf).toNat lf.toNat) (va_up N (20 + s) q) A' s := by
  obtain ⟨l1, l2, l3⟩ := hL
  refine ⟨by rw [md_us, h8], ?_, fun i hi => ?_⟩
  · rw [va_up_self, h4, h5, h6]
    exact hq.cg h7
  · rw [h8] at hi
    have e : cl_sh E s (A 8 s - lf).toNat lf.toNat (30 + s) i = E (30 + s) (i + (A 8 s - lf).toNat) := by
      unfold cl_sh
      rw [if_pos ⟨rfl, by omega⟩]
    have e2 : 48 * (s : Int) + i + (A 8 s - lf) = 48 * s + ((i + (A 8 s - lf).toNat : Nat) : Int) := by omega
    rw [e, h9 9 i (by omega) hi, h9 10 i (by omega) hi, h9 11 i (by omega) hi, h9 12 i (by omega) hi, e2]
    exact l3 _ (by omega)
theorem cl_sh_o (E : cl_E) (s gone k : Nat) {a : Nat} (h : a ≠ 30 + s) : cl_sh E s gone k a = E a := by
  funext i
  exact if_neg (fun z => h z.1)
/-- the log behind a snapshot: its size, its entries, the others' -/
theorem md_insL_v {A : md_A} {s : Int} (hB : md_B A s) (h5 : 0 ≤ A 29 5) : md_insL A s 8 s = md_left A s (A 29 4) (A 29 5) ∧ ∀ (k i : Nat), (k = 9 ∨ k = 10 ∨ k = 11 ∨ k = 12) → (i : Int) < md_left A s (A 29 4) (A 29 5) → md_insL A s k (48 * s + i) = A k (48 * s + i + (A 8 s - md_left A s (A 29 4) (A 29 5))) := by
  have hl : md_last A s = A 4 s + A 8 s := rfl
  unfold md_insL md_left
  by_cases h : md_termAt A s (A 29 4) = A 29 5
  · rw [if_pos h, if_pos ⟨by omega, h⟩]
    unfold md_shift
    refine ⟨by rw [md_us]; omega, fun k i hk hi => ?_⟩
    rw [md_uk (by omega)]
    unfold md_sh
    rw [if_pos ⟨by omega, by omega, by omega⟩]
    congr 1
    omega
  · rw [if_neg h, if_neg (fun z => h z.2)]
    exact ⟨md_us, fun k i hk hi => absurd hi (by omega)⟩
theorem md_insL_o {A : md_A} {s : Int} (hB : md_B A s) (h5 : 0 ≤ A 29 5) {s' : Int} (hs' : 0 ≤ s' ∧ s' < 5) (hne : s' ≠ s) : md_insL A s 8 s' = A 8 s' ∧ ∀ (k j : Nat), (k = 9 ∨ k = 10 ∨ k = 11 ∨ k = 12) → j < 48 → md_insL A s k (48 * s' + j) = A k (48 * s' + j) := by
  have hl : md_last A s = A 4 s + A 8 s := rfl
  have hli := md_left_in (ix := A 29 4) (t := A 29 5) hB
  unfold md_insL
  by_cases h : md_termAt A s (A 29 4) = A 29 5
  · unfold md_left at hli
    rw [if_pos ⟨by omega, h⟩] at hli
    rw [if_pos h]
    unfold md_shift
    refine ⟨by rw [md_ui hne, md_sh_k (by decide)], fun k j hk hj => ?_⟩
    rw [md_uk (by omega)]
    unfold md_sh
    exact if_neg (by omega)
  · rw [if_neg h]
    exact ⟨md_ui hne, fun k j hk hj => md_uk (by omega)⟩
/-- the install without the commit -/
def md_insB (A : md_A) (s : Int) : md_A := md_w (md_u (md_u (md_u (md_insL A s) 4 s (A 29 4)) 5 s (A 29 5)) 6 s (A 29 10)) 7 (4 * s) (4 * s + 4) (fun z => A 29 (11 + (z - 4 * s)))
theorem cr.inst {G : qh_G} {iv : Nat → Option Nat} {g : qh_H} {I : md_A} {m : Nat → Nat} {E : cl_E} {N : Nat → Nat} {A : md_A} (h : cr G iv g I m E N A) {s : Nat} (hs : s < 5) (hBa : ∀ s' : Nat, s' < 5 → md_B A s') (h5 : 0 ≤ A 29 5) {q : Nat} (hq : cr_N G iv g q (A 29 4) (A 29 5) (A 29 10) (fun k => A 29 (11 + k))) {lf : Int} (hlf : lf = md_left A s (A 29 4) (A 29 5)) : cr G iv g (md_u I (20 + s) 2 lf) m (cl_sh E s (A 8 s - lf).toNat lf.toNat) (va_up N (20 + s) q) (md_insB A s) := by
  have hB := hBa s hs
  have hli := md_left_in (ix := A 29 4) (t := A 29 5) hB
  obtain ⟨v8, v9⟩ := md_insL_v hB h5
  refine cr.log h hs hBa ⟨fun j hj => cl_uI _ _ _ hj, fun j hj => cl_sh_o E s _ _ hj⟩ (fun j hj => va_up_o N _ hj) (cr_L_begin (h.2.1 s hs) hq ?_ ?_ ?_ ?_ ?_ (by omega) ?_) (fun k hk => ?_) (fun s' hs' hne => ⟨fun k hk => ?_, fun z h0 h4 => ?_, fun k i hk hi => ?_⟩)
  · unfold md_insB; rw [md_wk (by decide), md_uk (by decide), md_uk (by decide), md_us]
  · unfold md_insB; rw [md_wk (by decide), md_uk (by decide), md_us]
  · unfold md_insB; rw [md_wk (by decide), md_us]
  · intro k h0 h4
    unfold md_insB
    rw [md_wi (by omega)]
    congr 1
    omega
  · unfold md_insB; rw [md_wk (by decide), md_uk (by decide), md_uk (by decide), md_uk (by decide), v8, hlf]
  · intro k i hk hi
    unfold md_insB
    rw [md_wk (by omega), md_uk (by omega), md_uk (by omega), md_uk (by omega), hlf]
    exact v9 k i hk (by omega)
  · funext z
    unfold md_insB
    rw [md_wk (by omega), md_uk (by omega), md_uk (by omega), md_uk (by omega), md_insL_k (by omega)]
  · unfold md_insB
    rw [md_wk (by omega), md_ui (by omega), md_ui (by omega), md_ui (by omega)]
    by_cases k8 : k = 8
    · subst k8
      exact (md_insL_o hB h5 (by omega) (by omega)).1
    · exact md_insL_k (by omega)
  · unfold md_insB
    rw [md_wo (by omega), md_uk (by decide), md_uk (by decide), md_uk (by decide), md_insL_k (by decide)]
  · unfold md_insB
    rw [md_wk (by omega), md_uk (by omega), md_uk (by omega), md_uk (by omega)]
    exact (md_insL_o hB h5 (by omega) (by omega)).2 k i hk hi
set_option maxRecDepth 100000 in
set_option maxHeartbeats 1000000 in
theorem c_instCome (l : Launch) (G : qh_G) (b : Nat) {ad : Nat → Nat} {iv : Nat → Option Nat} (J : cl_I ad iv) {g : qh_H} {I : md_A} {m : Nat → Nat} {E : cl_E} {N : Nat → Nat} {A : md_A} (h : cr G iv g I m E N A) (hv : md_V A) {s : Nat} (hs : s < 5) (hBa : ∀ s' : Nat, s' < 5 → md_B A s') {y : Nat} (hy : m 49 = y) (hM : cr_M G iv g I E N y (A 29)) (h0 : A 29 0 = 6) (hb : 0 ≤ A 29 4 ∧ A 29 4 ≤ 1000000) (h5 : 0 ≤ A 29 5) (d : Nat) : qpv l y_Q_installComes c_Q_installComes 3 none (d + 4) 0 0 G b [.ref (ad 0), .ref (ad (10 + s)), .ref (ad (100 + y))] (ch G ad iv g I m E N) (cr_P G ad iv g I m E N (md_ins A s (A 29 1))) := by
  have hw := hv.1
  have hB := hBa s hs
  have n3 : y < 50 := by rw [← hy]; exact h.2.2.2.1.1 49 (by omega)
  have hS := h.1 s hs
  have r2 := hw.1 2 s
  have r3 := hw.1 29 3
  have r14 := hw.1 14 s
  refine qx_of (lo := [some (.ref (ad 0)), some (.ref (ad (10 + s))), some (.ref (ad (100 + y)))]) (by decide) (fun w hw => List.mem_cons_of_mem _ hw) rfl (Nat.le_of_ble_eq_true rfl) rfl ?_
  intro X C
  refine qx_aload_n C d_Q_installComes_0 rfl rfl ?_
  refine qx_get C d_Q_installComes_1 fl_Q_212 (ch_M J n3) rfl ?_
  rw [hM.1.2.2.2.1]
  refine qx_aload_n C d_Q_installComes_4 rfl rfl ?_
  refine qx_get C d_Q_installComes_5 fl_Q_61 (ch_S J hs) rfl ?_
  rw [hS.1.2.2.1]
  refine nx_icmp_ge C 24 d_Q_installComes_8 (by decide) (by omega) (by omega) (fun z1 => ?_) (fun z1 => ?_)
  · refine qx_aload_n C d_Q_installComes_24 rfl rfl ?_
    refine qx_aload_n C d_Q_installComes_25 rfl rfl ?_
    refine nx_callpv C (s_Q_installComes_26 (ch_Q J)) (c_follow l G b J h hw.1 hs hv.2 d) w_Q_follow rfl rfl (Nat.le_of_ble_eq_true rfl) (by omega) (by decide) (fun hh hP => ?_)
    obtain ⟨g1, I1, E1, N1, rfl, hg1, h1, j1, j2, j3⟩ := hP
    have hM1 : cr_M G iv g1 I1 E1 N1 y (A 29) := hM.kp hy hg1 j1 j2 j3
    refine qx_aload_n C d_Q_installComes_29 rfl rfl ?_
    refine qx_iconst C d_Q_installComes_30 (v := iI (1)) rfl ?_
    refine cx_pSz C J hs (kz := 6) d_Q_installComes_31 fp_Q_47 (by decide) rfl (by omega) ?_
    have h2 : cr G iv g1 (md_u I1 (10 + s) 6 1) m E1 N1 (md_fol A s) := h1.u hs (by unfold cr_F; omega)
    have hM2 : cr_M G iv g1 (md_u I1 (10 + s) 6 1) E1 N1 y (A 29) := hM1.cg (cl_uI _ _ _ (by omega)) rfl rfl (fun _ _ _ => rfl)
    have k2 : md_u I1 (10 + s) 6 1 (100 + m 49) = I (100 + m 49) := (cl_uI _ _ _ (by omega)).trans j1
    have hlg := md_fol_lg A s
    have hw2 := md_fol_ww (s := s) hw
    have hB2 := hlg.B hB
    have e29 : md_fol A s 29 = A 29 := by funext z; exact md_fol_k (by decide)
    have e14 : md_fol A s 14 s = A 14 s := md_fol_k (by decide)
    have e27 : md_fol A s 27 0 = A 27 0 := md_fol_k (by decide)
    have hL2 := h2.2.1 s hs
    generalize hI2 : md_u I1 (10 + s) 6 1 = I2 at h2 hM2 hL2 k2
    have Sd : ∀ (I3 : md_A) (E3 : cl_E) (N3 : Nat → Nat) (A3 : md_A), cr G iv g1 I3 m E3 N3 A3 → (0 ≤ A3 27 0 ∧ A3 27 0 ≤ 48) → cr_M G iv g1 I3 E3 N3 y (A 29) → I3 (100 + m 49) = I (100 + m 49) → E3 (200 + m 49) = E (200 + m 49) → N3 (100 + m 49) = N (100 + m 49) → md_ins A s (A 29 1) = md_result A3 s (A 29 1) 1 (A 29 4) (A 29 9) → X 64 [some (.ref (ad 0)), some (.ref (ad (10 + s))), some (.ref (ad (100 + y)))] [] (ch G ad iv g1 I3 m E3 N3) 0 0 := by
      intro I3 E3 N3 A3 h3 hw3 hM3 q1 q2 q3 he
      refine qx_aload_n C d_Q_installComes_64 rfl rfl ?_
      refine qx_aload_n C d_Q_installComes_65 rfl rfl ?_
      refine qx_aload_n C d_Q_installComes_66 rfl rfl ?_
      refine qx_get C d_Q_installComes_67 fl_Q_209 (ch_M J n3) rfl ?_
      rw [hM3.1.2.1]
      refine qx_iconst C d_Q_installComes_70 (v := iI (1)) rfl ?_
      refine qx_aload_n C d_Q_installComes_71 rfl rfl ?_
      refine qx_get C d_Q_installComes_72 fl_Q_213 (ch_M J n3) rfl ?_
      rw [hM3.1.2.2.2.2.1]
      refine qx_aload_n C d_Q_installComes_75 rfl rfl ?_
      refine qx_get C d_Q_installComes_76 fl_Q_219 (ch_M J n3) rfl ?_
      rw [hM3.1.2.2.2.2.2.2.1]
      refine nx_callpv C (s_Q_installComes_79 (ch_Q J)) (c_result l G b J h3 hw3 hs (Or.inr rfl) d) w_Q_sendResult rfl rfl (Nat.le_of_ble_eq_true rfl) (by omega) (by decide) (fun hh hP => ?_)
      obtain ⟨g5, I5, E5, N5, rfl, hg5, h5, p1, p2, p3⟩ := hP
      exact qx_vret C d_Q_installComes_82 (Nat.zero_le _) (Nat.zero_le _) ⟨rfl, g5, I5, E5, N5, rfl, hg1.tr hg5, by rw [he]; exact h5, p1.trans q1, p2.trans q2, p3.trans q3⟩
    refine qx_aload_n C d_Q_installComes_34 rfl rfl ?_
    refine qx_get C d_Q_installComes_35 fl_Q_213 (ch_M J n3) rfl ?_
    rw [hM2.1.2.2.2.2.1]
    refine qx_aload_n C d_Q_installComes_38 rfl rfl ?_
    refine qx_get C d_Q_installComes_39 fl_Q_133 (ch_S J hs) rfl ?_
    rw [(h2.1 s hs).1.2.2.2.2.2.1, e14]
    refine nx_icmp_le C 64 d_Q_installComes_42 (by decide) (by omega) (by omega) (fun z2 => ?_) (fun z2 => ?_)
    · exact Sd I2 E1 N1 (md_fol A s) h2 hw2.2 hM2 k2 j2 j3 (by unfold md_ins; rw [if_neg (by omega), if_neg (by omega)])
    · refine qx_aload_n C d_Q_installComes_45 rfl rfl ?_
      refine qx_get C d_Q_installComes_46 fl_Q_85 (ch_S J hs) rfl ?_
      refine qx_aload_n C d_Q_installComes_49 rfl rfl ?_
      refine qx_get C d_Q_installComes_50 fl_Q_293 (ch_M J n3) rfl ?_
      have hq := hM2.2.2.2 h0
      refine nx_callv C (s_Q_installComes_53 (ch_L J hs)) (c_begin l G b J hw2.1 hs hL2 hB2 hq (by omega) (hw.1 29 5) rfl d) w_L_beginBehind rfl rfl (Nat.le_of_ble_eq_true rfl) (by omega) (by decide) ?_
      have h3 := h2.inst hs (fun s' hs' => hlg.B (hBa s' hs')) (by rw [e29]; exact h5) (q := N1 (100 + y)) (by rw [e29]; exact hq) rfl
      rw [e29] at h3
      have hM3 : cr_M G iv g1 (md_u I2 (20 + s) 2 (md_left (md_fol A s) s (A 29 4) (A 29 5))) (cl_sh E1 s (md_fol A s 8 s - md_left (md_fol A s) s (A 29 4) (A 29 5)).toNat (md_left (md_fol A s) s (A 29 4) (A 29 5)).toNat) (va_up N1 (20 + s) (N1 (100 + y))) y (A 29) := hM2.cg (cl_uI _ _ _ (by omega)) (cl_sh_o E1 s _ _ (by omega)) (va_up_o N1 _ (by omega)) (fun _ _ _ => rfl)
      refine qx_aload_n C d_Q_installComes_56 rfl rfl ?_
      refine qx_aload_n C d_Q_installComes_57 rfl rfl ?_
      refine qx_get C d_Q_installComes_58 fl_Q_213 (ch_M J n3) rfl ?_
      rw [hM3.1.2.2.2.2.1]
      refine cx_pS C J hs (kz := 10) d_Q_installComes_61 fp_Q_133 (by decide) rfl ?_
      refine Sd _ _ _ (md_insA (md_fol A s) s) ?_ ?_ (hM3.cg (cl_uI _ _ _ (by omega)) rfl rfl (fun _ _ _ => rfl)) ?_ ?_ ?_ (by unfold md_ins; rw [if_neg (by omega), if_pos (by omega)])
      · have h4 := h3.u hs (k := 10) (ka := 14) (v := A 29 4) (va := A 29 4) (by unfold cr_F; omega)
        have ei : md_insA (md_fol A s) s = md_u (md_insB (md_fol A s) s) 14 s (A 29 4) := by unfold md_insA md_insB; rw [e29]
        rw [ei]
        exact h4
      · have e : md_insA (md_fol A s) s 27 0 = A 27 0 := by
          unfold md_insA
          rw [md_uk (by decide), md_wk (by decide), md_uk (by decide), md_uk (by decide), md_uk (by decide), md_insL_k (by decide)]
          exact e27
        rw [e]
        exact hw.2
      · rw [cl_uI _ _ _ (by omega), cl_uI _ _ _ (by omega)]
        exact k2
      · rw [cl_sh_o E1 s _ _ (by omega)]
        exact j2
      · rw [va_up_o N1 _ (by omega)]
        exact j3
  · refine qx_aload_n C d_Q_installComes_11 rfl rfl ?_
    refine qx_aload_n C d_Q_installComes_12 rfl rfl ?_
    refine qx_aload_n C d_Q_installComes_13 rfl rfl ?_
    refine qx_get C d_Q_installComes_14 fl_Q_209 (ch_M J n3) rfl ?_
    rw [hM.1.2.1]
    refine qx_iconst C d_Q_installComes_17 (v := iI (0)) rfl ?_
    refine qx_iconst C d_Q_installComes_18 (v := iI (0)) rfl ?_
    refine qx_iconst C d_Q_installComes_19 (v := iI (0)) rfl ?_
    refine nx_callpv C (s_Q_installComes_20 (ch_Q J)) (c_result l G b J h hw.2 hs (Or.inl rfl) d) w_Q_sendResult rfl rfl (Nat.le_of_ble_eq_true rfl) (by omega) (by decide) (fun hh hP => ?_)
    obtain ⟨g3, I3, E3, N3, rfl, hg3, h3, p1, p2, p3⟩ := hP
    refine qx_vret C d_Q_installComes_23 (Nat.zero_le _) (Nat.zero_le _) ⟨rfl, g3, I3, E3, N3, rfl, hg3, ?_, p1, p2, p3⟩
    unfold md_ins
    rw [if_pos (by omega)]
    exact h3
