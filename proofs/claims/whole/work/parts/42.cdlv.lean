/-! the class: deliver, crash, restart, compact -/
/-- the state behind a delivery, as the class weighs: always -/
noncomputable def md_dlv0 (A : md_A) (k : Int) : md_A := if md_get A k 1 (md_get A k 29 2) = 0 then md_ldif (md_stand (md_come0 (md_in (md_get A k)) (md_get A k 29 2) (md_get A k 29 0)) (md_get A k 29 2)) (md_get A k 29 2) else md_get A k
/-- what is asked of the state behind a handler -/
def md_DE (C0 : md_A) (s : Int) : Prop := md_V C0 ∧ (∀ s' : Nat, s' < 5 → md_B C0 s') ∧ md_T C0 s ∧ md_nx C0 s ∧ ((C0 13 s = 1 ∨ C0 13 s = 2) → C0 8 s < 48)
set_option maxRecDepth 100000 in
set_option maxHeartbeats 1000000 in
theorem c_deliver (l : Launch) (G : qh_G) (b : Nat) {ad : Nat → Nat} {iv : Nat → Option Nat} (J : cl_I ad iv) {g : qh_H} {I : md_A} {m : Nat → Nat} {E : cl_E} {N : Nat → Nat} {A : md_A} (h : cr G iv g I m E N A) (hS : md_S A) {k : Int} (hk : rng k) (hm : 0 ≤ k → k < A 27 0 → md_DP (md_get A k) ∧ md_MW (md_get A k 29) ∧ (md_get A k 1 (md_get A k 29 2) = 0 → md_DE (md_come0 (md_in (md_get A k)) (md_get A k 29 2) (md_get A k 29 0)) (md_get A k 29 2))) {r : Int} {A2 : md_A} (hr : (0 ≤ k ∧ k < A 27 0 → r = md_get A k 29 0 ∧ A2 = md_dlv0 A k) ∧ (¬ (0 ≤ k ∧ k < A 27 0) → r = -1 ∧ A2 = A)) (d : Nat) : qp l y_Q_deliver c_Q_deliver 4 (some .int) (d + 7) 1 4 G b [.ref (ad 0), .int (iI k)] (ch G ad iv g I m E N) r (cr_T G ad iv g A2) := by
  obtain ⟨hv, hSs⟩ := hS
  have hI2 := h.2.2.1
  refine qx_of (lo := [some (.ref (ad 0)), some (.int (iI k)), none, none]) (by decide) (fun w hw => List.mem_cons_of_mem _ hw) rfl (Nat.le_of_ble_eq_true rfl) rfl ?_
  intro X C
  refine qx_aload_n C d_Q_deliver_0 rfl rfl ?_
  refine qx_get C d_Q_deliver_1 fl_Q_35 (ch_Q J) rfl ?_
  refine qx_iload_n C d_Q_deliver_4 rfl rfl ?_
  refine nx_call0 C (s_Q_deliver_5 (ch_W J)) (c_wholds l G b J hI2 (by omega) hk d) w_W_holds rfl rfl (Nat.le_of_ble_eq_true rfl) (by omega) (by decide) ?_
  by_cases hc : 0 ≤ k ∧ k < A 27 0
  · obtain ⟨rfl, rfl⟩ := hr.1 hc
    obtain ⟨hDP, hMW, hDE⟩ := hm hc.1 hc.2
    obtain ⟨dk, d1, d2, dV, dQ⟩ := hDP
    obtain ⟨kn, rfl⟩ := Int.eq_ofNat_of_zero_le hc.1
    have hwn : I 2 2 = ((A 27 0).toNat : Nat) := by rw [hI2]; omega
    have hA' : cr G iv g I m E N (md_w A 29 0 20 (fun x => A 28 (20 * kn + x))) := h.k (fun j _ j2 => by funext z; exact md_wk j2)
    have e27 : md_w A 29 0 20 (fun x => A 28 (20 * kn + x)) 27 0 = ((A 27 0).toNat : Nat) := by rw [md_wk (by decide)]; omega
    obtain ⟨hB, hMB⟩ := hA'.take (k := kn) (w := (A 27 0).toNat) e27 (by omega) (by omega)
    have hM : cr_M G iv g (md_u I 2 2 ((A 27 0).toNat - 1)) E N (cm_t m kn (A 27 0).toNat 49) (md_get A kn 29) := hMB.cg rfl rfl rfl (fun z z0 z20 => by
      unfold md_get md_take
      rw [md_uk (by decide), md_wk (by decide), md_wi (by omega), md_wk (by decide)])
    have hBk : ∀ j : Nat, j ≠ 27 → j ≠ 28 → j ≠ 29 → md_get A kn j = A j := fun j j1 j2 j3 => by
      funext z
      unfold md_get md_take
      rw [md_uk j1, md_wk j2, md_wk j3]
    have hB : cr G iv g (md_u I 2 2 ((A 27 0).toNat - 1)) (cm_t m kn (A 27 0).toNat) E N (md_get A kn) := hB
    have hy1 : cm_t m kn (A 27 0).toNat 49 = m kn := by rw [cm_t_q]; unfold cm_q; rw [if_neg (by omega), if_pos rfl]
    have hyk : m kn < 50 := h.2.2.2.1.1 kn (by omega)
    rw [if_pos hc]
    refine nx_if_ne C 13 d_Q_deliver_8 (by decide) (by omega) (fun z1 => ?_) (fun z1 => ?_)
    · refine qx_aload_n C d_Q_deliver_13 rfl rfl ?_
      refine qx_get C d_Q_deliver_14 fl_Q_35 (ch_Q J) rfl ?_
      refine qx_iload_n C d_Q_deliver_17 rfl rfl ?_
      refine nx_callq C (s_Q_deliver_18 (ch_W J)) (c_taken l G b J hwn (by omega) (by omega) h.2.2.2.1.1 d) w_W_take rfl rfl (Nat.le_of_ble_eq_true rfl) (by omega) (by decide) ?_
      generalize cm_t m kn (A 27 0).toNat = m' at hB hM hy1
      generalize md_u I 2 2 ((A 27 0).toNat - 1) = I1 at hB hM
      generalize hyy : m kn = y at hy1 hyk
      rw [hy1] at hM
      unfold md_dlv0 at C
      generalize md_get A kn = B at C dk d1 d2 dV dQ hMW hDE hB hM hBk
      obtain ⟨s, hs, e2⟩ := k5_ex d2.1 d2.2
      rw [e2] at hDE dQ
      have hBB : ∀ s' : Nat, s' < 5 → md_B B s' := fun s' hs' => by
        have hb := (hSs s' hs').1.1
        unfold md_B
        rw [hBk 4 (by decide) (by decide) (by decide), hBk 8 (by decide) (by decide) (by decide)]
        exact hb
      obtain ⟨-, -, b01, b15⟩ := hSs s hs
      rw [← hBk 1 (by decide) (by decide) (by decide)] at b01
      rw [← hBk 15 (by decide) (by decide) (by decide)] at b15
      show X _ _ (.ref (ad (100 + y)) :: []) _ _ _
      have Fin : ∀ (g5 : qh_H) (I5 : md_A) (E5 : cl_E) (N5 : Nat → Nat) (kk nn : Nat), kk ≤ 1 → nn ≤ 4 → cr_g g g5 → cr G iv g5 I5 m' E5 N5 (if B 1 (B 29 2) = 0 then md_ldif (md_stand (md_come0 (md_in B) (B 29 2) (B 29 0)) (B 29 2)) (B 29 2) else B) → I5 (100 + y) = I1 (100 + y) → X 55 [some (.ref (ad 0)), some (.int (iI kn)), some (.ref (ad (100 + y))), some (.ref (ad (10 + s)))] [] (ch G ad iv g5 I5 m' E5 N5) kk nn := by
        intro g5 I5 E5 N5 kk nn hkk hnn hg5 h5 p1
        refine qx_aload_n C d_Q_deliver_55 rfl rfl ?_
        refine qx_get C d_Q_deliver_56 fl_Q_201 (ch_M J hyk) rfl ?_
        rw [p1, hM.1.1]
        exact qx_iret C d_Q_deliver_59 hkk hnn ⟨_, rfl, rfl, cr_T.of hg5 h5⟩
      refine nx_astore_n C d_Q_deliver_21 rfl (Nat.le_of_ble_eq_true rfl) (lo' := [_, _, some (.ref _), _]) rfl ?_
      refine qx_aload_n C d_Q_deliver_22 rfl rfl ?_
      refine qx_get C d_Q_deliver_23 fl_Q_11 (ch_Q J) rfl ?_
      refine qx_aload_n C d_Q_deliver_26 rfl rfl ?_
      refine qx_get C d_Q_deliver_27 fl_Q_192 (ch_M J hyk) rfl ?_
      rw [hM.1.2.2.1]
      refine cx_sv C J d_Q_deliver_30 e2 hs ?_
      refine nx_astore_n C d_Q_deliver_31 rfl (Nat.le_of_ble_eq_true rfl) (lo' := [_, _, _, some (.ref _)]) rfl ?_
      refine qx_aload_n C d_Q_deliver_32 rfl rfl ?_
      refine qx_get C d_Q_deliver_33 fl_Q_167 (ch_S J hs) rfl ?_
      rw [(hB.1 s hs).1.1]
      refine nx_if_eq C 55 d_Q_deliver_36 (by decide) (by omega) (fun z2 => ?_) (fun z2 => ?_)
      · exact Fin g I1 E N 0 0 (by omega) (by omega) (cr_g.rf g) (by rw [e2, if_neg (by omega)]; exact hB) rfl
      · have hup : B 1 s = 0 := by omega
        obtain ⟨eV, eB, eT, en, ez⟩ := hDE hup
        refine qx_aload_n C d_Q_deliver_39 rfl rfl ?_
        refine qx_aload_n C d_Q_deliver_40 rfl rfl ?_
        refine qx_aload_n C d_Q_deliver_41 rfl rfl ?_
        refine nx_callpv C (s_Q_deliver_42 (ch_Q J)) (c_come l G b J hB dV hs e2 hBB hy1 hM hMW b15 (dQ hup) d) w_Q_come rfl rfl (Nat.le_of_ble_eq_true rfl) (by omega) (by decide) (fun hh hP => ?_)
        obtain ⟨g2, I2, E2, N2, rfl, hg2, h2, j1, -, -⟩ := hP
        refine qx_aload_n C d_Q_deliver_45 rfl rfl ?_
        refine qx_aload_n C d_Q_deliver_46 rfl rfl ?_
        refine nx_callpv C (s_Q_deliver_47 (ch_Q J)) (c_stand l G b J h2 eV.1 hs eT.1 eT.2.1 eT.2.2.2.2 (by omega) d) w_Q_standIfMostSaidYes rfl rfl (Nat.le_of_ble_eq_true rfl) (by omega) (by decide) (fun hh hP => ?_)
        obtain ⟨g3, I3, E3, N3, rfl, hg3, h3, p1, -, -⟩ := hP
        generalize hC0 : md_come0 (md_in B) s (B 29 0) = C0 at h2 h3 eV eB eT en ez
        have hlg := md_stand_lg C0 s
        have hw3 := md_stand_ww eV.1 eT.1 (by omega)
        have p8 : md_stand C0 s 8 s = C0 8 s := md_stand_k (by decide) (by decide)
        have p14 : md_stand C0 s 14 s = C0 14 s := md_stand_k (by decide) (by decide)
        have p21 : md_stand C0 s 21 0 = C0 21 0 := md_stand_k (by decide) (by decide)
        have p13 : md_stand C0 s 13 s = 2 → C0 13 s = 1 ∨ C0 13 s = 2 := fun z => by
          by_cases hc1 : C0 13 s = 1
          · exact Or.inl hc1
          · refine Or.inr ?_
            unfold md_stand at z
            rw [if_neg (fun q => hc1 q.1)] at z
            exact z
        have p16 := md_stand_16 (A := C0) (s := s) (by omega) eT.2.2.2.2
        refine qx_aload_n C d_Q_deliver_50 rfl rfl ?_
        refine qx_aload_n C d_Q_deliver_51 rfl rfl ?_
        refine nx_callpv C (s_Q_deliver_52 (ch_Q J)) (c_lead l G b J h3 hw3 hs (fun s' hs' => hlg.B (eB s' hs')) (fun z => by rw [p8]; exact ez (p13 z)) (by rw [hlg.config]; exact eT.2.1) p16 (by rw [p14, hlg.last]; omega) (by rw [p21]; exact eV.2) (fun i => by rw [md_stand_k (by decide) (by decide)]; exact en i) d) w_Q_leadIfMostSaidYes rfl rfl (Nat.le_of_ble_eq_true rfl) (by omega) (by decide) (fun hh hP => ?_)
        obtain ⟨g4, I4, E4, N4, rfl, hg4, h4, q1, -, -⟩ := hP
        refine Fin g4 I4 E4 N4 _ _ (by decide) (by decide) (hg2.tr (hg3.tr hg4)) (by rw [e2, if_pos hup, hC0]; exact h4) ?_
        rw [hy1] at j1 p1 q1
        rw [q1, p1, j1]
    · exact absurd z1 (by omega)
  · obtain ⟨rfl, rfl⟩ := hr.2 hc
    rw [if_neg hc]
    refine nx_if_ne C 13 d_Q_deliver_8 (by decide) (by omega) (fun z1 => ?_) (fun z1 => ?_)
    · exact absurd z1 (by omega)
    · refine qx_iconst C d_Q_deliver_11 (v := iI (-1)) rfl ?_
      refine qx_iret C d_Q_deliver_12 (Nat.le_of_ble_eq_true rfl) (Nat.le_of_ble_eq_true rfl) ⟨_, rfl, ?_, ?_⟩
      · rfl
      · exact cr_T.of (cr_g.rf g) h
set_option maxRecDepth 100000 in
theorem c_restart (l : Launch) (G : qh_G) (b : Nat) {ad : Nat → Nat} {iv : Nat → Option Nat} (J : cl_I ad iv) {g : qh_H} {I : md_A} {m : Nat → Nat} {E : cl_E} {N : Nat → Nat} {A : md_A} (h : cr G iv g I m E N A) (hS : md_S A) {x : Int} (hx : rng x) {r : Int} {A2 : md_A} (hr : ((0 ≤ x ∧ x < 5) ∧ ¬ A 1 x = 0 → r = 1 ∧ A2 = md_u A 1 x 0) ∧ (¬ ((0 ≤ x ∧ x < 5) ∧ ¬ A 1 x = 0) → r = 0 ∧ A2 = A)) (d : Nat) : qp l y_Q_restart c_Q_restart 2 (some .boolean) (d + 1) 0 0 G b [.ref (ad 0), .int (iI x)] (ch G ad iv g I m E N) r (cr_T G ad iv g A2) := by
  obtain ⟨hv, hSs⟩ := hS
  refine qx_of (lo := [some (.ref (ad 0)), some (.int (iI x))]) (by decide) (fun w hw => List.mem_cons_of_mem _ hw) rfl (Nat.le_of_ble_eq_true rfl) rfl ?_
  intro X C
  have No : ¬ ((0 ≤ x ∧ x < 5) ∧ ¬ A 1 x = 0) → X 19 [some (.ref (ad 0)), some (.int (iI x))] [] (ch G ad iv g I m E N) 0 0 := by
    intro hc
    obtain ⟨rfl, rfl⟩ := hr.2 hc
    refine qx_iconst C d_Q_restart_19 (v := iI (0)) rfl ?_
    refine qx_zret C d_Q_restart_20 (by decide) (Nat.le_of_ble_eq_true rfl) (Nat.le_of_ble_eq_true rfl) ⟨_, rfl, ?_, ?_⟩
    · rfl
    · exact cr_T.of (cr_g.rf g) h
  refine qx_iload_n C d_Q_restart_0 rfl rfl ?_
  refine nx_call0 C s_Q_restart_1 (c_isServer l G b _ hx d) w_Q_isServer rfl rfl (Nat.le_of_ble_eq_true rfl) (by omega) (by decide) ?_
  by_cases h5 : 0 ≤ x ∧ x < 5
  · rw [if_pos h5]
    obtain ⟨s, hs, rfl⟩ := k5_ex h5.1 h5.2
    obtain ⟨-, -, h01, -⟩ := hSs s hs
    refine nx_if_eq C 19 d_Q_restart_4 (by decide) (by omega) (fun z1 => ?_) (fun z1 => ?_)
    · exact absurd z1 (by omega)
    · refine qx_aload_n C d_Q_restart_7 rfl rfl ?_
      refine qx_get C d_Q_restart_8 fl_Q_11 (ch_Q J) rfl ?_
      refine qx_iload_n C d_Q_restart_11 rfl rfl ?_
      refine cx_sv C J d_Q_restart_12 rfl hs ?_
      refine qx_get C d_Q_restart_13 fl_Q_167 (ch_S J hs) rfl ?_
      rw [(h.1 s hs).1.1]
      refine nx_if_eq C 21 d_Q_restart_16 (by decide) (by omega) (fun z2 => ?_) (fun z2 => ?_)
      · obtain ⟨rfl, rfl⟩ := hr.1 ⟨h5, by omega⟩
        refine qx_aload_n C d_Q_restart_21 rfl rfl ?_
        refine qx_get C d_Q_restart_22 fl_Q_11 (ch_Q J) rfl ?_
        refine qx_iload_n C d_Q_restart_25 rfl rfl ?_
        refine cx_sv C J d_Q_restart_26 rfl hs ?_
        refine qx_iconst C d_Q_restart_27 (v := iI (1)) rfl ?_
        refine cx_pSz C J hs (kz := 5) d_Q_restart_28 fp_Q_167 (by decide) rfl (by omega) ?_
        refine qx_iconst C d_Q_restart_31 (v := iI (1)) rfl ?_
        refine qx_zret C d_Q_restart_32 (by decide) (Nat.le_of_ble_eq_true rfl) (Nat.le_of_ble_eq_true rfl) ⟨_, rfl, ?_, ?_⟩
        · rfl
        · exact cr_T.of (cr_g.rf g) (h.u hs (by unfold cr_F; omega))
      · exact No (fun z => z.2 (by omega))
  · rw [if_neg h5]
    refine nx_if_eq C 19 d_Q_restart_4 (by decide) (by omega) (fun z1 => ?_) (fun z1 => ?_)
    · exact No (fun z => h5 z.1)
    · exact absurd z1 (by omega)
