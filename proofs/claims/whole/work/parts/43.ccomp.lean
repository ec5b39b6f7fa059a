/-! the class: crash, compact -/
theorem md_uc {A : md_A} {k j : Nat} (h : k ≠ j) {i v i' v' : Int} : md_u (md_u A k i v) j i' v' = md_u (md_u A j i' v') k i v := by
  funext a x
  unfold md_u
  by_cases h1 : a = j ∧ x = i'
  · have h2 : ¬ (a = k ∧ x = i) := fun z => h (z.1.symm.trans h1.1)
    simp [h1, h2]
    intro e
    exact absurd e.symm h
  · simp [h1]
theorem md_follow_u {A : md_A} {s : Int} {k : Nat} (h : k ≠ 13 ∧ k ≠ 21 ∧ k ≠ 22 ∧ k ≠ 25) {i v : Int} : md_follow (md_u A k i v) s = md_u (md_follow A s) k i v := by
  unfold md_follow
  rw [md_uk (Ne.symm h.1)]
  split
  · rw [md_uk (Ne.symm h.2.1), md_wu h.2.2.2, md_uc h.1]
    have : (fun x => if md_u A k i v 22 x = s ∧ md_u A k i v 25 x = 0 then 2 else md_u A k i v 25 x) = (fun x => if A 22 x = s ∧ A 25 x = 0 then 2 else A 25 x) := by
      funext x
      rw [md_uk (Ne.symm h.2.2.1), md_uk (Ne.symm h.2.2.2)]
    rw [this]
  · exact md_uc h.1
set_option maxRecDepth 100000 in
theorem c_crash (l : Launch) (G : qh_G) (b : Nat) {ad : Nat → Nat} {iv : Nat → Option Nat} (J : cl_I ad iv) {g : qh_H} {I : md_A} {m : Nat → Nat} {E : cl_E} {N : Nat → Nat} {A : md_A} (h : cr G iv g I m E N A) (hS : md_S A) {x : Int} (hx : rng x) {r : Int} {A2 : md_A} (hr : ((0 ≤ x ∧ x < 5) ∧ A 1 x = 0 → r = 1 ∧ A2 = md_crash A x) ∧ (¬ ((0 ≤ x ∧ x < 5) ∧ A 1 x = 0) → r = 0 ∧ A2 = A)) (d : Nat) : qp l y_Q_crash c_Q_crash 3 (some .boolean) (d + 3) 0 0 G b [.ref (ad 0), .int (iI x)] (ch G ad iv g I m E N) r (cr_T G ad iv g A2) := by
  obtain ⟨hv, hSs⟩ := hS
  refine qx_of (lo := [some (.ref (ad 0)), some (.int (iI x)), none]) (by decide) (fun w hw => List.mem_cons_of_mem _ hw) rfl (Nat.le_of_ble_eq_true rfl) rfl ?_
  intro X C
  have No : ¬ ((0 ≤ x ∧ x < 5) ∧ A 1 x = 0) → X 19 [some (.ref (ad 0)), some (.int (iI x)), none] [] (ch G ad iv g I m E N) 0 0 := by
    intro hc
    obtain ⟨rfl, rfl⟩ := hr.2 hc
    refine qx_iconst C d_Q_crash_19 (v := iI (0)) rfl ?_
    refine qx_zret C d_Q_crash_20 (by decide) (Nat.le_of_ble_eq_true rfl) (Nat.le_of_ble_eq_true rfl) ⟨_, rfl, ?_, ?_⟩
    · rfl
    · exact cr_T.of (cr_g.rf g) h
  refine qx_iload_n C d_Q_crash_0 rfl rfl ?_
  refine nx_call0 C s_Q_crash_1 (c_isServer l G b _ hx d) w_Q_isServer rfl rfl (Nat.le_of_ble_eq_true rfl) (by omega) (by decide) ?_
  by_cases h5 : 0 ≤ x ∧ x < 5
  · rw [if_pos h5]
    obtain ⟨s, hs, rfl⟩ := k5_ex h5.1 h5.2
    obtain ⟨-, -, h01, -⟩ := hSs s hs
    refine nx_if_eq C 19 d_Q_crash_4 (by decide) (by omega) (fun z1 => ?_) (fun z1 => ?_)
    · exact absurd z1 (by omega)
    · refine qx_aload_n C d_Q_crash_7 rfl rfl ?_
      refine qx_get C d_Q_crash_8 fl_Q_11 (ch_Q J) rfl ?_
      refine qx_iload_n C d_Q_crash_11 rfl rfl ?_
      refine cx_sv C J d_Q_crash_12 rfl hs ?_
      refine qx_get C d_Q_crash_13 fl_Q_167 (ch_S J hs) rfl ?_
      rw [(h.1 s hs).1.1]
      refine nx_if_ne C 21 d_Q_crash_16 (by decide) (by omega) (fun z2 => ?_) (fun z2 => ?_)
      · obtain ⟨rfl, rfl⟩ := hr.1 ⟨h5, by omega⟩
        refine qx_aload_n C d_Q_crash_21 rfl rfl ?_
        refine qx_get C d_Q_crash_22 fl_Q_11 (ch_Q J) rfl ?_
        refine qx_iload_n C d_Q_crash_25 rfl rfl ?_
        refine cx_sv C J d_Q_crash_26 rfl hs ?_
        refine nx_astore_n C d_Q_crash_27 rfl (Nat.le_of_ble_eq_true rfl) (lo' := [_, _, some (.ref _)]) rfl ?_
        refine qx_aload_n C d_Q_crash_28 rfl rfl ?_
        refine qx_aload_n C d_Q_crash_29 rfl rfl ?_
        refine nx_callpv C (s_Q_crash_30 (ch_Q J)) (c_follow l G b J h hv.1.1 hs hv.2 d) w_Q_follow rfl rfl (Nat.le_of_ble_eq_true rfl) (by omega) (by decide) (fun hh hP => ?_)
        obtain ⟨g5, I5, E5, N5, rfl, hg5, h5', -, -, -⟩ := hP
        have h3 := (h5'.u hs (k := 5) (ka := 1) (v := 0) (va := 1) (by unfold cr_F; omega)).u hs (k := 6) (ka := 15) (v := 0) (va := 0) (by unfold cr_F; omega)
        have hN := (h3.2.1 s hs).2.1
        obtain ⟨va, hsn⟩ := cr_N_at J hN _ m E5 N5
        have e4 : md_u (md_u (md_follow A s) 1 s 1) 15 s 0 4 s = A 4 s := by rw [md_uk (by decide), md_uk (by decide), md_follow_k (by decide)]
        refine qx_aload_n C d_Q_crash_33 rfl rfl ?_
        refine qx_iconst C d_Q_crash_34 (v := iI (0)) rfl ?_
        refine cx_pSz C J hs (kz := 5) d_Q_crash_35 fp_Q_167 (by decide) rfl (by omega) ?_
        refine qx_aload_n C d_Q_crash_38 rfl rfl ?_
        refine qx_iconst C d_Q_crash_39 (v := iI (0)) rfl ?_
        refine cx_pSz C J hs (kz := 6) d_Q_crash_40 fp_Q_47 (by decide) rfl (by omega) ?_
        refine qx_aload_n C d_Q_crash_43 rfl rfl ?_
        refine qx_aload_n C d_Q_crash_44 rfl rfl ?_
        refine qx_get C d_Q_crash_45 fl_Q_85 (ch_S J hs) rfl ?_
        refine qx_get C d_Q_crash_48 fl_Q_170 (ch_L J hs) rfl ?_
        refine qx_get C d_Q_crash_51 fl_Q_174 hsn rfl ?_
        rw [e4]
        refine cx_pS C J hs (kz := 10) d_Q_crash_54 fp_Q_133 (by decide) rfl ?_
        refine qx_iconst C d_Q_crash_57 (v := iI (1)) rfl ?_
        refine qx_zret C d_Q_crash_58 (by decide) (Nat.le_of_ble_eq_true rfl) (Nat.le_of_ble_eq_true rfl) ⟨_, rfl, ?_, ?_⟩
        · rfl
        · have e : md_crash A s = md_u (md_u (md_u (md_follow A s) 1 s 1) 15 s 0) 14 s (A 4 s) := by
            unfold md_crash
            rw [md_follow_u (by decide), md_uc (k := 14) (j := 15) (by decide)]
          rw [e]
          exact cr_T.of hg5 (h3.u hs (by unfold cr_F; omega))
      · exact No (fun z => by omega)
  · rw [if_neg h5]
    refine nx_if_eq C 19 d_Q_crash_4 (by decide) (by omega) (fun z1 => ?_) (fun z1 => ?_)
    · exact No (fun z => h5 z.1)
    · exact absurd z1 (by omega)
theorem cr.comp {G : qh_G} {iv : Nat → Option Nat} {g : qh_H} {I : md_A} {m : Nat → Nat} {E : cl_E} {N : Nat → Nat} {A : md_A} (h : cr G iv g I m E N A) {s : Nat} (hs : s < 5) (hBa : ∀ s' : Nat, s' < 5 → md_B A s') (hc : A 4 s ≤ A 14 s ∧ A 14 s ≤ md_last A s) (ht : 0 ≤ md_termAt A s (A 14 s)) {q : Nat} (hq : cr_N G iv g q (A 14 s) (md_termAt A s (A 14 s)) (md_mem A s (md_gone A s)) (fun k => md_val A s k (md_gone A s))) {lf : Int} (hlf : lf = md_left A s (A 14 s) (md_termAt A s (A 14 s))) : cr G iv g (md_u I (20 + s) 2 lf) m (cl_sh E s (A 8 s - lf).toNat lf.toNat) (va_up N (20 + s) q) (md_compact A s) := by
  have hl : md_last A s = A 4 s + A 8 s := rfl
  have hB := hBa s hs
  have hlf2 : lf = md_last A s - A 14 s := by
    rw [hlf]
    unfold md_left
    rw [if_pos ⟨by omega, rfl⟩]
  have c4 : md_cvals A s 4 s = A 4 s := md_wk (by decide)
  have c8 : md_cvals A s 8 s = A 8 s := md_wk (by decide)
  refine cr.log h hs hBa ⟨fun j hj => cl_uI _ _ _ hj, fun j hj => cl_sh_o E s _ _ hj⟩ (fun j hj => va_up_o N _ hj) (cr_L_begin (h.2.1 s hs) hq ?_ ?_ ?_ ?_ ?_ (by omega) ?_) (fun k hk => ?_) (fun s' hs' hne => ⟨fun k hk => ?_, fun z h0 h4 => ?_, fun k i hk hi => ?_⟩)
  · unfold md_compact; rw [md_uk (by decide), md_uk (by decide), md_us]
  · unfold md_compact; rw [md_uk (by decide), md_us]
  · unfold md_compact; rw [md_us]
  · intro k h0 h4
    unfold md_compact
    rw [md_uk (by decide), md_uk (by decide), md_uk (by decide), md_shift_k (by decide)]
    unfold md_cvals
    rw [md_wi (by omega)]
    congr 1
    omega
  · unfold md_compact
    rw [md_uk (by decide), md_uk (by decide), md_uk (by decide)]
    unfold md_shift
    rw [md_us, c4, c8]
    omega
  · intro k i hk hi
    unfold md_compact
    rw [md_uk (by omega), md_uk (by omega), md_uk (by omega)]
    unfold md_shift
    rw [md_uk (by omega), c4, c8]
    unfold md_sh
    rw [if_pos ⟨by omega, by omega, by omega⟩]
    unfold md_cvals
    rw [md_wk (by omega)]
    congr 1
    omega
  · funext z
    unfold md_compact
    rw [md_uk (by omega), md_uk (by omega), md_uk (by omega), md_shift_k (by omega)]
    unfold md_cvals
    rw [md_wk (by omega)]
  · unfold md_compact
    rw [md_ui (by omega), md_ui (by omega), md_ui (by omega)]
    unfold md_shift
    rw [md_ui (by omega), md_sh_k (by omega)]
    unfold md_cvals
    rw [md_wk (by omega)]
  · unfold md_compact
    rw [md_uk (by decide), md_uk (by decide), md_uk (by decide), md_shift_k (by decide)]
    unfold md_cvals
    rw [md_wo (by omega)]
  · unfold md_compact
    rw [md_uk (by omega), md_uk (by omega), md_uk (by omega)]
    unfold md_shift
    rw [md_uk (by omega), c4, c8]
    unfold md_sh
    rw [if_neg (by omega)]
    unfold md_cvals
    rw [md_wk (by omega)]
set_option maxRecDepth 100000 in
theorem c_compact (l : Launch) (G : qh_G) (b : Nat) {ad : Nat → Nat} {iv : Nat → Option Nat} (J : cl_I ad iv) {g : qh_H} {I : md_A} {m : Nat → Nat} {E : cl_E} {N : Nat → Nat} {A : md_A} (h : cr G iv g I m E N A) (hS : md_S A) {x : Int} (hx : rng x) (ht : ∀ s : Nat, s < 5 → 0 ≤ md_termAt A s (A 14 s)) {r : Int} {A2 : md_A} (hr : (md_compC A x → r = 1 ∧ A2 = md_compact A x) ∧ (¬ md_compC A x → r = 0 ∧ A2 = A)) (d : Nat) : qp l y_Q_compact c_Q_compact 3 (some .boolean) (d + 3) 2 8 G b [.ref (ad 0), .int (iI x)] (ch G ad iv g I m E N) r (cr_T G ad iv g A2) := by
  obtain ⟨hv, hSs⟩ := hS
  refine qx_of (lo := [some (.ref (ad 0)), some (.int (iI x)), none]) (by decide) (fun w hw => List.mem_cons_of_mem _ hw) rfl (Nat.le_of_ble_eq_true rfl) rfl ?_
  intro X C
  refine qx_iload_n C d_Q_compact_0 rfl rfl ?_
  refine nx_call0 C s_Q_compact_1 (c_isServer l G b _ hx d) w_Q_isServer rfl rfl (Nat.le_of_ble_eq_true rfl) (by omega) (by decide) ?_
  by_cases h5 : 0 ≤ x ∧ x < 5
  · rw [if_pos h5]
    obtain ⟨s, hs, rfl⟩ := k5_ex h5.1 h5.2
    obtain ⟨hT, -, h01, -⟩ := hSs s hs
    have hl : md_last A s = A 4 s + A 8 s := rfl
    have hL := h.2.1 s hs
    have hN := hL.2.1
    have r14 := hv.1.1 14 s
    obtain ⟨va, hsn⟩ := cr_N_at J hN I m E N
    have No : ¬ md_compC A s → X 40 [some (.ref (ad 0)), some (.int (iI s)), some (.ref (ad (10 + s)))] [] (ch G ad iv g I m E N) 0 0 := by
      intro hc
      obtain ⟨rfl, rfl⟩ := hr.2 hc
      refine qx_iconst C d_Q_compact_40 (v := iI (0)) rfl ?_
      refine qx_zret C d_Q_compact_41 (by decide) (Nat.le_of_ble_eq_true rfl) (Nat.le_of_ble_eq_true rfl) ⟨_, rfl, ?_, ?_⟩
      · rfl
      · exact cr_T.of (cr_g.rf g) h
    refine nx_if_ne C 9 d_Q_compact_4 (by decide) (by omega) (fun z1 => ?_) (fun z1 => ?_)
    · refine qx_aload_n C d_Q_compact_9 rfl rfl ?_
      refine qx_get C d_Q_compact_10 fl_Q_11 (ch_Q J) rfl ?_
      refine qx_iload_n C d_Q_compact_13 rfl rfl ?_
      refine cx_sv C J d_Q_compact_14 rfl hs ?_
      refine nx_astore_n C d_Q_compact_15 rfl (Nat.le_of_ble_eq_true rfl) (lo' := [_, _, some (.ref _)]) rfl ?_
      refine qx_aload_n C d_Q_compact_16 rfl rfl ?_
      refine qx_get C d_Q_compact_17 fl_Q_167 (ch_S J hs) rfl ?_
      rw [(h.1 s hs).1.1]
      refine nx_if_eq C 40 d_Q_compact_20 (by decide) (by omega) (fun z2 => ?_) (fun z2 => ?_)
      · exact No (fun z => by have := z.2.1; omega)
      · refine qx_aload_n C d_Q_compact_23 rfl rfl ?_
        refine qx_get C d_Q_compact_24 fl_Q_133 (ch_S J hs) rfl ?_
        rw [(h.1 s hs).1.2.2.2.2.2.1]
        refine qx_aload_n C d_Q_compact_27 rfl rfl ?_
        refine qx_get C d_Q_compact_28 fl_Q_85 (ch_S J hs) rfl ?_
        refine qx_get C d_Q_compact_31 fl_Q_170 (ch_L J hs) rfl ?_
        refine qx_get C d_Q_compact_34 fl_Q_174 hsn rfl ?_
        refine nx_icmp_ne C 42 d_Q_compact_37 (by decide) (by omega) (by omega) (fun z3 => ?_) (fun z3 => ?_)
        · obtain ⟨rfl, rfl⟩ := hr.1 ⟨h5, by omega, z3⟩
          refine qx_aload_n C d_Q_compact_42 rfl rfl ?_
          refine qx_get C d_Q_compact_43 fl_Q_85 (ch_S J hs) rfl ?_
          refine qx_aload_n C d_Q_compact_46 rfl rfl ?_
          refine qx_get C d_Q_compact_47 fl_Q_85 (ch_S J hs) rfl ?_
          refine qx_aload_n C d_Q_compact_50 rfl rfl ?_
          refine qx_get C d_Q_compact_51 fl_Q_133 (ch_S J hs) rfl ?_
          rw [(h.1 s hs).1.2.2.2.2.2.1]
          refine nx_callpq C (s_Q_compact_54 (ch_L J hs)) (c_snapAt l G b J hv.1.1 hs hL hT.1 (t := md_gone A s) (by unfold md_gone; omega) (by unfold md_gone; omega) d) w_L_snapshotAt rfl rfl (Nat.le_of_ble_eq_true rfl) (by omega) (by decide) (fun rr hh hP => ?_)
          obtain ⟨q, g', rfl, rfl, hg', hq⟩ := hP
          show X _ _ (.ref q :: _) _ _ _
          have h2 := h.gr hg'
          have rt := md_termAt_r hv.1.1 s (A 14 s)
          refine nx_callv C (s_Q_compact_57 (ch_L J hs)) (c_begin l G b J hv.1.1 hs (h2.2.1 s hs) hT.1 hq (by omega) rt rfl d) w_L_beginBehind rfl rfl (Nat.le_of_ble_eq_true rfl) (by omega) (by decide) ?_
          refine qx_iconst C d_Q_compact_60 (v := iI (1)) rfl ?_
          refine qx_zret C d_Q_compact_61 (by decide) (Nat.le_of_ble_eq_true rfl) (Nat.le_of_ble_eq_true rfl) ⟨_, rfl, ?_, ?_⟩
          · rfl
          · exact cr_T.of hg' (h2.comp hs (fun s' hs' => (hSs s' hs').1.1) hT.2.2.1 (ht s hs) hq rfl)
        · exact No (fun z => z.2.2 z3)
    · exact absurd z1 (by omega)
  · rw [if_neg h5]
    obtain ⟨rfl, rfl⟩ := hr.2 (fun z => h5 z.1)
    refine nx_if_ne C 9 d_Q_compact_4 (by decide) (by omega) (fun z1 => ?_) (fun z1 => ?_)
    · exact absurd z1 (by omega)
    · refine qx_iconst C d_Q_compact_7 (v := iI (0)) rfl ?_
      refine qx_zret C d_Q_compact_8 (by decide) (Nat.le_of_ble_eq_true rfl) (Nat.le_of_ble_eq_true rfl) ⟨_, rfl, ?_, ?_⟩
      · rfl
      · exact cr_T.of (cr_g.rf g) h
