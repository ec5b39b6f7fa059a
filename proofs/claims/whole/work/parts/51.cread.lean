/-! the class: read -/
theorem cr.rdn {G : qh_G} {iv : Nat → Option Nat} {g : qh_H} {I : md_A} {m : Nat → Nat} {E : cl_E} {N : Nat → Nat} {A : md_A} (h : cr G iv g I m E N A) (v : Int) : cr G iv g (md_u I 4 5 v) m E N (md_u A 21 0 v) := by
  obtain ⟨h1, h2, h3, h4, h5, h6⟩ := h
  refine ⟨fun s' hs' => ?_, fun s' hs' => ?_, ?_, h4, fun w hw => ?_, ?_, fun i' h0 h60 => ?_⟩
  · exact (h1 s' hs').cg (cl_uI _ _ _ (by omega)) (cl_uI _ _ _ (by omega)) (cl_uI _ _ _ (by omega)) (cl_uI _ _ _ (by omega)) (fun k' hk' => md_uk (by omega)) (fun k' hk' o _ _ => md_uk (by omega))
  · exact (h2 s' hs').cg (by rw [cl_uI _ _ _ (by omega)]) rfl rfl ((md_lg.rf A).u (by omega))
  · rw [md_uk (by omega), md_uk (by omega)]; exact h3
  · rw [md_uk (by omega)] at hw
    exact (h5 w hw).cg (cl_uI _ _ _ (by omega)) rfl rfl (fun k _ _ => md_uk (by omega))
  · rw [md_us, md_us]
  · obtain ⟨r1, r2, r3, r4, r5⟩ := h6.2 i' h0 h60
    refine ⟨?_, ?_, ?_, ?_, ?_⟩ <;> rw [md_uk (by omega), md_uk (by omega)] <;> assumption
set_option maxRecDepth 100000 in
theorem c_read (l : Launch) (G : qh_G) (b : Nat) {ad : Nat → Nat} {iv : Nat → Option Nat} (J : cl_I ad iv) {g : qh_H} {I : md_A} {m : Nat → Nat} {E : cl_E} {N : Nat → Nat} (hf : qt_f l) {A : md_A} (h : cr G iv g I m E N A) (hS : md_S A) (hkk : md_Hk A) (hk4 : ∀ s : Nat, s < 5 → md_kept A s (A 21 0).toNat ≤ 4 ∧ rng (A 20 s + 1)) {x key : Int} (hx : rng x) (hk : rng key) (d : Nat) : qx_M l y_Q_read (Cond.code y_Q_read c_Q_read 5 (some .int) :: qu_W) (qr (d + 7) 2 12) G b [.ref (ad 0), .int (iI x), .int (iI key)] (ch G ad iv g I m E N) (qt_E G ad iv g A (md_readE A x key) (A 21 0) (md_read A x key)) := by
  refine qx_of (lo := [some (.ref (ad 0)), some (.int (iI x)), some (.int (iI key)), none, none]) (by decide) (fun w hw => List.mem_cons_of_mem _ hw) rfl (Nat.le_of_ble_eq_true rfl) rfl ?_
  intro X C
  refine qx_aload_n C d_Q_read_0 rfl rfl ?_
  refine qx_iload_n C d_Q_read_1 rfl rfl ?_
  refine qx_iload_n C d_Q_read_2 rfl rfl ?_
  refine qx_runt C (s_Q_read_3 (ch_Q J)) (c_leaderFor l G b J hf h hS hx hk d) w_Q_leaderFor rfl rfl (Nat.le_of_ble_eq_true rfl) (qr_ok (by omega) (by decide) (by decide) (by decide)) (fun a h' q => ?_) (fun v h' q => ?_)
  · rcases q with ⟨-, q, -⟩ | ⟨c, a', e1, e2, e3, e4, e5⟩
    · cases q
    · exact Or.inr ⟨c, a', (md_lE_read (by omega)).trans e1, e2, e3, e4, e5⟩
  · rcases q with ⟨q0, q1, rfl⟩ | ⟨c, a', e1, e2, e3, e4, e5⟩
    rotate_left
    · cases e3
    cases q1
    obtain ⟨hv, hSs⟩ := hS
    obtain ⟨⟨h5, h4⟩, hl⟩ := md_lE_0 q0
    obtain ⟨s, hs, rfl⟩ := k5_ex h5.1 h5.2
    obtain ⟨hT, hn, h01, -⟩ := hSs s hs
    obtain ⟨hk4, h20⟩ := hk4 s hs
    have hz := md_sz hT.1
    have hla : md_last A s = A 4 s + A 8 s := rfl
    have hv5 : ¬ ¬ ((0 ≤ (s : Int) ∧ (s : Int) < 5) ∧ 0 ≤ key ∧ key < 4) := fun z => z ⟨h5, h4⟩
    have hR := h.2.2.2.2.2
    have hkr := md_kept_r A s (A 21 0).toNat
    rw [show ((s : Int)).toNat = s from Int.toNat_natCast s]
    show X 6 _ [.ref (ad (10 + s))] _ 1 6
    have U3 : (md_kept A s (A 21 0).toNat = 4 ∨ A 21 0 = 60 ∨ md_old A s = 1) → X 38 [some (.ref (ad 0)), some (.int (iI s)), some (.int (iI key)), some (.ref (ad (10 + s))), none] [] (ch G ad iv g I m E N) 1 6 := by
      intro hc
      refine cx_throw l G b J h C hf (c := 3) qt_cU qt_iU qt_nU ha_U (by decide +kernel) rfl d_Q_read_38 d_Q_read_41 d_Q_read_42 d_Q_read_44 d_Q_read_47 qt_s145 rfl (by omega) (Nat.zero_le _) (fun a h' q1 q2 => Or.inr ⟨3, a, ?_, by decide, rfl, q1, q2⟩)
      unfold md_readE
      rw [if_neg hv5, if_neg hl, if_pos hc]
      rfl
    refine nx_astore_n C d_Q_read_6 rfl (Nat.le_of_ble_eq_true rfl) (lo' := [_, _, _, some (.ref _), _]) rfl ?_
    refine qx_aload_n C d_Q_read_7 rfl rfl ?_
    refine qx_get C d_Q_read_8 fl_Q_18 (ch_Q J) rfl ?_
    refine qx_iload_n C d_Q_read_11 rfl rfl ?_
    refine nx_call0 C (s_Q_read_12 (ch_R J)) (c_keptBy l G b J hv.1.1 hR hv.2 (by omega) d) w_R_keptBy rfl rfl (Nat.le_of_ble_eq_true rfl) (by omega) (by decide) ?_
    refine qx_iconst C d_Q_read_15 (v := iI (4)) rfl ?_
    refine nx_icmp_ge C 38 d_Q_read_16 (by decide) (by omega) (by omega) (fun z1 => ?_) (fun z1 => ?_)
    · exact U3 (Or.inl (by omega))
    · refine qx_aload_n C d_Q_read_19 rfl rfl ?_
      refine qx_get C d_Q_read_20 fl_Q_18 (ch_Q J) rfl ?_
      refine qx_get C d_Q_read_23 fl_Q_144 (ch_R J) rfl ?_
      rw [hR.1]
      refine qx_bipush C d_Q_read_26 (v := iI (60)) (by decide) ?_
      refine nx_icmp_ge C 38 d_Q_read_28 (by decide) (by omega) (by omega) (fun z2 => ?_) (fun z2 => ?_)
      · exact U3 (Or.inr (Or.inl (by omega)))
      · refine qx_aload_n C d_Q_read_31 rfl rfl ?_
        refine nx_call0 C (s_Q_read_32 (ch_S J hs)) (c_fresh l G b J hv.1.1 hs (h.1 s hs) (h.2.1 s hs) hT.1 (by omega) d) w_S_hasCommitOfItsTerm rfl rfl (Nat.le_of_ble_eq_true rfl) (by omega) (by decide) ?_
        have hol : md_old A s = if md_termAt A s (A 14 s) = A 2 s then 0 else 1 := rfl
        by_cases hft : md_termAt A s (A 14 s) = A 2 s
        · rw [if_pos hft] at hol ⊢
          refine nx_if_ne C 48 d_Q_read_35 (by decide) (by omega) (fun z3 => ?_) (fun z3 => ?_)
          · refine qx_aload_n C d_Q_read_48 rfl rfl ?_
            refine qx_dup C d_Q_read_49 rfl ?_
            refine qx_get C d_Q_read_50 fl_Q_147 (ch_S J hs) rfl ?_
            rw [(h.1 s hs).1.2.2.2.2.2.2.1]
            refine qx_iconst C d_Q_read_53 (v := iI (1)) rfl ?_
            refine nx_iadd C d_Q_read_54 ?_
            refine cx_pS C J hs (kz := 11) d_Q_read_55 fp_Q_147 (by decide) rfl ?_
            refine qx_aload_n C d_Q_read_58 rfl rfl ?_
            refine qx_get C d_Q_read_59 fl_Q_18 (ch_Q J) rfl ?_
            refine qx_iload_n C d_Q_read_62 rfl rfl ?_
            refine qx_iload_n C d_Q_read_63 rfl rfl ?_
            refine qx_aload_n C d_Q_read_64 rfl rfl ?_
            refine qx_get C d_Q_read_65 fl_Q_147 (ch_S J hs) rfl ?_
            rw [md_us]
            have hn0 : md_u I (10 + s) 11 (A 20 s + 1) 4 5 = A 21 0 := by rw [md_uk (by omega)]; exact hR.1
            refine nx_call0 C (s_Q_read_68 (ch_R J)) (c_keep l G b J hn0 (by omega) d) w_R_keep rfl rfl (Nat.le_of_ble_eq_true rfl) (by omega) (by decide) ?_
            have hK : cr G iv g _ m E N (md_keep A s key) := ((((h.u hs (k := 11) (ka := 20) (v := A 20 s + 1) (va := A 20 s + 1) (by unfold cr_F; omega)).rd (j := 5) (k := 22) (by omega) (A 21 0) s).rd (j := 6) (k := 23) (by omega) (A 21 0) key).rd (j := 7) (k := 24) (by omega) (A 21 0) (A 20 s + 1)).rdn (A 21 0 + 1)
            have lg := md_keep_lg A s key
            have ww := md_keep_ww (key := key) hv.1 hx hk h20 hv.2
            have e21 : md_keep A s key 21 0 = A 21 0 + 1 := md_us
            have e14 : md_keep A s key 14 s = A 14 s := md_keep_k (by decide)
            refine nx_istore C d_Q_read_71 (Nat.le_of_ble_eq_true rfl) (lo' := [_, _, _, _, some (.int _)]) rfl ?_
            refine qx_aload_n C d_Q_read_73 rfl rfl ?_
            refine qx_aload_n C d_Q_read_74 rfl rfl ?_
            refine nx_callpv C (s_Q_read_75 (ch_Q J)) (c_sendAll l G b J hK ww hs (lg.B hT.1) (by rw [lg.config]; exact hT.2.1) (fun i => by rw [md_keep_k (by decide)]; exact hn i) d) w_Q_sendToAll rfl rfl (Nat.le_of_ble_eq_true rfl) (by omega) (by decide) (fun hh hP => ?_)
            obtain ⟨g2, I2, E2, N2, rfl, hg2, h2, -, -, -⟩ := hP
            have lg2 : md_lg A (md_all (md_keep A s key) s 5) := fun k q1 q2 => by
              funext z
              rw [md_all_k (by omega), md_keep_k (by omega)]
            have ww2 := md_all_ww (s := s) ww h5 (fun i => by rw [md_keep_k (by decide)]; exact hn i) 5 (by omega)
            have hkk2 : md_Hk (md_all (md_keep A s key) s 5) := fun i i0 i1 => by
              rw [md_all_k (by decide), e21] at i1
              rw [md_all_k (by decide)]
              unfold md_keep
              rw [md_uk (by decide), md_uk (by decide)]
              by_cases hie : i = A 21 0
              · subst hie
                rw [md_us]
                exact h4
              · rw [md_ui hie, md_ui hie, md_uk (by decide)]
                exact hkk i i0 (by omega)
            refine qx_aload_n C d_Q_read_78 rfl rfl ?_
            refine qx_aload_n C d_Q_read_79 rfl rfl ?_
            refine nx_callpv C (s_Q_read_80 (ch_Q J)) (c_lookReads l G b J h2 ww2 hs (lg2.B hT.1) (by rw [lg2.config]; exact hT.2.1) (by rw [lg2.last, lg2 4 (by decide) (by decide), md_all_k (by decide), e14]; exact hT.2.2.1) (by rw [md_all_k (by decide), e21]; omega) hkk2 d) w_Q_lookAtReads rfl rfl (Nat.le_of_ble_eq_true rfl) (by omega) (by decide) (fun hh hP => ?_)
            obtain ⟨g3, I3, E3, N3, rfl, hg3, h3, -, -, -⟩ := hP
            refine qx_iload C d_Q_read_83 rfl ?_
            refine qx_iret C d_Q_read_85 (Nat.le_of_ble_eq_true rfl) (Nat.le_of_ble_eq_true rfl) (Or.inl ⟨?_, rfl, cr_T.of (hg2.tr hg3) h3⟩)
            unfold md_readE
            rw [if_neg hv5, if_neg hl, if_neg (by omega)]
          · exact absurd z3 (by omega)
        · rw [if_neg hft] at hol ⊢
          refine nx_if_ne C 48 d_Q_read_35 (by decide) (by omega) (fun z3 => ?_) (fun z3 => ?_)
          · exact absurd z3 (by omega)
          · exact U3 (Or.inr (Or.inr hol))
