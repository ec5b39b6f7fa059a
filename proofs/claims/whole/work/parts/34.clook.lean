/-! the class: it looks at the reads and at the commit -/
theorem cr.rd {G : qh_G} {iv : Nat → Option Nat} {g : qh_H} {I : md_A} {m : Nat → Nat} {E : cl_E} {N : Nat → Nat} {A : md_A} (h : cr G iv g I m E N A) {j k : Nat} (hjk : (j = 5 ∧ k = 22) ∨ (j = 6 ∧ k = 23) ∨ (j = 7 ∧ k = 24) ∨ (j = 8 ∧ k = 25) ∨ (j = 9 ∧ k = 26)) (i v : Int) : cr G iv g (md_u I j i v) m E N (md_u A k i v) := by
  obtain ⟨h1, h2, h3, h4, h5, h6⟩ := h
  refine ⟨fun s' hs' => ?_, fun s' hs' => ?_, ?_, h4, fun w hw => ?_, ?_, fun i' h0 h60 => ?_⟩
  · exact (h1 s' hs').cg (cl_uI _ _ _ (by omega)) (cl_uI _ _ _ (by omega)) (cl_uI _ _ _ (by omega)) (cl_uI _ _ _ (by omega)) (fun k' hk' => md_uk (by omega)) (fun k' hk' o _ _ => md_uk (by omega))
  · exact (h2 s' hs').cg (by rw [cl_uI _ _ _ (by omega)]) rfl rfl ((md_lg.rf A).u (by omega))
  · rw [md_uk (by omega), md_uk (by omega)]; exact h3
  · rw [md_uk (by omega)] at hw
    exact (h5 w hw).cg (cl_uI _ _ _ (by omega)) rfl rfl (fun k _ _ => md_uk (by omega))
  · rw [md_uk (by omega), md_uk (by omega)]; exact h6.1
  · obtain ⟨r1, r2, r3, r4, r5⟩ := h6.2 i' h0 h60
    rcases hjk with ⟨rfl, rfl⟩ | ⟨rfl, rfl⟩ | ⟨rfl, rfl⟩ | ⟨rfl, rfl⟩ | ⟨rfl, rfl⟩ <;> simp [md_u, r1, r2, r3, r4, r5]
set_option maxRecDepth 100000 in
theorem c_lookReads (l : Launch) (G : qh_G) (b : Nat) {ad : Nat → Nat} {iv : Nat → Option Nat} (J : cl_I ad iv) {g : qh_H} {I : md_A} {m : Nat → Nat} {E : cl_E} {N : Nat → Nat} {A : md_A} (h : cr G iv g I m E N A) (hw : md_ww A) {s : Nat} (hs : s < 5) (hB : md_B A s) (hcf : set5 (md_config A s)) (hcm : A 4 s ≤ A 14 s ∧ A 14 s ≤ md_last A s) (hrd : 0 ≤ A 21 0 ∧ A 21 0 ≤ 60) (hk : md_Hk A) (d : Nat) : qpv l y_Q_lookAtReads c_Q_lookAtReads 4 none (d + 3) 0 0 G b [.ref (ad 0), .ref (ad (10 + s))] (ch G ad iv g I m E N) (cr_P G ad iv g I m E N (md_reads A s)) := by
  have n49 : m 49 < 50 := h.2.2.2.1.1 49 (by omega)
  refine qx_of (lo := [some (.ref (ad 0)), some (.ref (ad (10 + s))), none, none]) (by decide) (fun w hw => List.mem_cons_of_mem _ hw) rfl (Nat.le_of_ble_eq_true rfl) rfl ?_
  intro X C
  have Lp : ∀ (f n : Nat) (I1 : md_A), n + f = (A 21 0).toNat → cr G iv g I1 m E N (md_rd A s n) → I1 (100 + m 49) = I (100 + m 49) → X 10 [some (.ref (ad 0)), some (.ref (ad (10 + s))), some (.int (iI (md_config A s))), some (.int (iI n))] [] (ch G ad iv g I1 m E N) 0 0 := by
    intro f
    induction f with
    | zero =>
      intro n I1 ho h1 k1
      have e21 : I1 4 5 = A 21 0 := by rw [h1.2.2.2.2.2.1]; exact md_rd_k (by decide) n
      refine qx_iload_n C d_Q_lookAtReads_10 rfl rfl ?_
      refine qx_aload_n C d_Q_lookAtReads_11 rfl rfl ?_
      refine qx_get C d_Q_lookAtReads_12 fl_Q_18 (ch_Q J) rfl ?_
      refine qx_get C d_Q_lookAtReads_15 fl_Q_144 (ch_R J) rfl ?_
      rw [e21]
      refine nx_icmp_ge C 94 d_Q_lookAtReads_18 (by decide) (by omega) (by omega) (fun z1 => ?_) (fun z1 => ?_)
      · rw [show n = (A 21 0).toNat by omega] at h1
        exact qx_vret C d_Q_lookAtReads_94 (Nat.zero_le _) (Nat.zero_le _) ⟨rfl, g, I1, E, N, rfl, cr_g.rf g, h1, k1, rfl, rfl⟩
      · exact absurd z1 (by omega)
    | succ f ih =>
      intro n I1 ho h1 k1
      have e21 : I1 4 5 = A 21 0 := by rw [h1.2.2.2.2.2.1]; exact md_rd_k (by decide) n
      have hw1 := md_rd_ww hw (s := s) n
      have hlg := md_rd_lg A s n
      obtain ⟨r1, r2, r3, r4, r5⟩ := h1.2.2.2.2.2.2 n (by omega) (by omega)
      rw [md_rd_k (by decide)] at r1 r2 r3
      rw [md_rd_25 n n (Int.le_refl _)] at r4
      have hkey := hk n (by omega) (by omega)
      refine qx_iload_n C d_Q_lookAtReads_10 rfl rfl ?_
      refine qx_aload_n C d_Q_lookAtReads_11 rfl rfl ?_
      refine qx_get C d_Q_lookAtReads_12 fl_Q_18 (ch_Q J) rfl ?_
      refine qx_get C d_Q_lookAtReads_15 fl_Q_144 (ch_R J) rfl ?_
      rw [e21]
      refine nx_icmp_ge C 94 d_Q_lookAtReads_18 (by decide) (by omega) (by omega) (fun z1 => ?_) (fun z1 => ?_)
      · exact absurd z1 (by omega)
      · refine qx_aload_n C d_Q_lookAtReads_21 rfl rfl ?_
        refine qx_get C d_Q_lookAtReads_22 fl_Q_18 (ch_Q J) rfl ?_
        refine qx_iload_n C d_Q_lookAtReads_25 rfl rfl ?_
        refine qx_aload_n C d_Q_lookAtReads_26 rfl rfl ?_
        refine qx_get C d_Q_lookAtReads_27 fl_Q_55 (ch_S J hs) rfl ?_
        refine nx_call0 C (s_Q_lookAtReads_30 (ch_R J)) (c_isKept l G b J (by omega) (by omega) r4 r1 (hw.1 _ _) (hw.1 _ _) d) w_R_isKeptBy rfl rfl (Nat.le_of_ble_eq_true rfl) (by omega) (by decide) ?_
        by_cases c1 : A 22 n = s ∧ A 25 n = 0
        · rw [if_pos c1]
          refine nx_if_eq C 88 d_Q_lookAtReads_33 (by decide) (by omega) (fun z2 => ?_) (fun z2 => ?_)
          · exact absurd z2 (by omega)
          · refine qx_aload_n C d_Q_lookAtReads_36 rfl rfl ?_
            refine qx_aload_n C d_Q_lookAtReads_37 rfl rfl ?_
            refine qx_get C d_Q_lookAtReads_38 fl_Q_18 (ch_Q J) rfl ?_
            refine qx_get C d_Q_lookAtReads_41 fl_Q_306 (ch_R J) rfl ?_
            refine qx_iload_n C d_Q_lookAtReads_44 rfl rfl ?_
            refine cx_ir C J d_Q_lookAtReads_45 (by omega) (by omega) (by omega) ?_
            rw [r3]
            refine nx_call0 C (s_Q_lookAtReads_46 (ch_S J hs)) (c_confirm l G b J hw1.1 hs (h1.1 s hs) (hw.1 24 n) d) w_S_confirmersOf rfl rfl (Nat.le_of_ble_eq_true rfl) (by omega) (by decide) ?_
            rw [md_reach_cg (A := A) (fun x => md_rd_k (by decide) n)]
            refine qx_iload_n C d_Q_lookAtReads_49 rfl rfl ?_
            have h5 := md_reach_5 (A := A) (k := 19) (s := s) (mark := A 24 n) (by omega) 5 (by omega)
            refine nx_call0 C s_Q_lookAtReads_50 (c_areMost l G b _ h5 hcf d) w_Q_areMost rfl rfl (Nat.le_of_ble_eq_true rfl) (by omega) (by decide) ?_
            by_cases c2 : md_cnt (md_config A s) < 2 * md_cnt (ia (md_config A s) (md_reach A 19 s (A 24 n) 5))
            · rw [if_pos c2]
              refine nx_if_eq C 88 d_Q_lookAtReads_53 (by decide) (by omega) (fun z3 => ?_) (fun z3 => ?_)
              · exact absurd z3 (by omega)
              · refine qx_aload_n C d_Q_lookAtReads_56 rfl rfl ?_
                refine qx_get C d_Q_lookAtReads_57 fl_Q_18 (ch_Q J) rfl ?_
                refine qx_get C d_Q_lookAtReads_60 fl_Q_160 (ch_R J) rfl ?_
                refine qx_iload_n C d_Q_lookAtReads_63 rfl rfl ?_
                refine qx_iconst C d_Q_lookAtReads_64 (v := iI (1)) rfl ?_
                refine cx_ist C J d_Q_lookAtReads_65 (by omega) (by omega) (by omega) ?_
                have h2 := h1.rd (j := 8) (k := 25) (by omega) n 1
                have hlg2 : md_lg A (md_u (md_rd A s n) 25 n 1) := hlg.u (by decide)
                have e4 : md_u (md_rd A s n) 25 n 1 4 s = A 4 s := by rw [md_uk (by decide), md_rd_k (by decide)]
                have e14 : md_u (md_rd A s n) 25 n 1 14 s = A 14 s := by rw [md_uk (by decide), md_rd_k (by decide)]
                refine qx_aload_n C d_Q_lookAtReads_66 rfl rfl ?_
                refine qx_get C d_Q_lookAtReads_67 fl_Q_18 (ch_Q J) rfl ?_
                refine qx_get C d_Q_lookAtReads_70 fl_Q_164 (ch_R J) rfl ?_
                refine qx_iload_n C d_Q_lookAtReads_73 rfl rfl ?_
                refine qx_aload_n C d_Q_lookAtReads_74 rfl rfl ?_
                refine qx_aload_n C d_Q_lookAtReads_75 rfl rfl ?_
                refine qx_get C d_Q_lookAtReads_76 fl_Q_18 (ch_Q J) rfl ?_
                refine qx_get C d_Q_lookAtReads_79 fl_Q_312 (ch_R J) rfl ?_
                refine qx_iload_n C d_Q_lookAtReads_82 rfl rfl ?_
                refine cx_ir C J d_Q_lookAtReads_83 (by omega) (by omega) (by omega) ?_
                rw [md_uk (by decide), r2]
                refine nx_call0 C (s_Q_lookAtReads_84 (ch_S J hs)) (c_storedNow l G b J (md_r_u hw1.1 (by omega)) hs (h2.1 s hs) (h2.2.1 s hs) (hlg2.B hB) (by rw [e4, e14, hlg2.last]; exact hcm) hkey d) w_S_storedNow rfl rfl (Nat.le_of_ble_eq_true rfl) (by omega) (by decide) ?_
                rw [e4, e14, hlg2.val]
                refine cx_ist C J d_Q_lookAtReads_87 (by omega) (by omega) (by omega) ?_
                refine nx_iinc C d_Q_lookAtReads_88 rfl (lo' := [_, _, _, some (.int _)]) rfl ?_
                refine qx_goto C d_Q_lookAtReads_91 (tgt := 10) (by decide) ?_
                refine ih (n + 1) _ (by omega) ?_ ((cl_uI _ _ _ (by omega)).trans ((cl_uI _ _ _ (by omega)).trans k1))
                rw [md_rd_s, if_pos ⟨c1.1, c1.2, by unfold md_most; rw [if_pos c2]⟩]
                exact h2.rd (j := 9) (k := 26) (by omega) n _
            · rw [if_neg c2]
              refine nx_if_eq C 88 d_Q_lookAtReads_53 (by decide) (by omega) (fun z3 => ?_) (fun z3 => ?_)
              · refine nx_iinc C d_Q_lookAtReads_88 rfl (lo' := [_, _, _, some (.int _)]) rfl ?_
                refine qx_goto C d_Q_lookAtReads_91 (tgt := 10) (by decide) ?_
                refine ih (n + 1) I1 (by omega) ?_ k1
                rw [md_rd_s, if_neg (fun z => by have := z.2.2; unfold md_most at this; rw [if_neg c2] at this; omega)]
                exact h1
              · exact absurd z3 (by omega)
        · rw [if_neg c1]
          refine nx_if_eq C 88 d_Q_lookAtReads_33 (by decide) (by omega) (fun z2 => ?_) (fun z2 => ?_)
          · refine nx_iinc C d_Q_lookAtReads_88 rfl (lo' := [_, _, _, some (.int _)]) rfl ?_
            refine qx_goto C d_Q_lookAtReads_91 (tgt := 10) (by decide) ?_
            refine ih (n + 1) I1 (by omega) ?_ k1
            rw [md_rd_s, if_neg (fun z => c1 ⟨z.1, z.2.1⟩)]
            exact h1
          · exact absurd z2 (by omega)
  refine qx_aload_n C d_Q_lookAtReads_0 rfl rfl ?_
  refine qx_get C d_Q_lookAtReads_1 fl_Q_85 (ch_S J hs) rfl ?_
  refine nx_call0 C (s_Q_lookAtReads_4 (ch_L J hs)) (c_config l G b J hw.1 hs (h.2.1 s hs) hB d) w_L_configuration rfl rfl (Nat.le_of_ble_eq_true rfl) (by omega) (by decide) ?_
  refine nx_istore_n C d_Q_lookAtReads_7 rfl (Nat.le_of_ble_eq_true rfl) (lo' := [_, _, some (.int _), _]) rfl ?_
  refine qx_iconst C d_Q_lookAtReads_8 (v := iI (0)) rfl ?_
  refine nx_istore_n C d_Q_lookAtReads_9 rfl (Nat.le_of_ble_eq_true rfl) (lo' := [_, _, _, some (.int _)]) rfl ?_
  exact Lp (A 21 0).toNat 0 I (by omega) h rfl
theorem md_u_id (A : md_A) (k : Nat) (i : Int) : md_u A k i (A k i) = A := by
  funext j x
  unfold md_u
  split
  · rename_i h; rw [h.1, h.2]
  · rfl
set_option maxRecDepth 100000 in
theorem c_lookCommit (l : Launch) (G : qh_G) (b : Nat) {ad : Nat → Nat} {iv : Nat → Option Nat} (J : cl_I ad iv) {g : qh_H} {I : md_A} {m : Nat → Nat} {E : cl_E} {N : Nat → Nat} {A : md_A} (h : cr G iv g I m E N A) (hw : md_ww A) {s : Nat} (hs : s < 5) (hB : md_B A s) (hcf : set5 (md_config A s)) (hcm : 0 ≤ A 14 s ∧ A 14 s ≤ md_last A s) (hrd : 0 ≤ A 21 0 ∧ A 21 0 ≤ 60) (d : Nat) : qpv l y_Q_lookAtCommit c_Q_lookAtCommit 4 none (d + 3) 0 0 G b [.ref (ad 0), .ref (ad (10 + s))] (ch G ad iv g I m E N) (cr_P G ad iv g I m E N (md_look A s)) := by
  have hl : md_last A s = A 4 s + A 8 s := rfl
  have n49 : m 49 < 50 := h.2.2.2.1.1 49 (by omega)
  have hlg : md_lg A (md_fcm A s) := (md_lg.rf A).u (by decide)
  have hw1 := md_fcm_ww hw hB (by omega)
  have hfi := md_fc_in A s (md_last A s - A 14 s).toNat
  have e14 : md_fcm A s 14 s = md_fc A s (md_last A s - A 14 s).toNat := md_us
  have e8 : md_fcm A s 8 s = A 8 s := md_uk (by decide)
  have e4 : md_fcm A s 4 s = A 4 s := md_uk (by decide)
  have e21 : md_fcm A s 21 0 = A 21 0 := md_uk (by decide)
  have hB1 := hlg.B hB
  have hlp := md_lm_p (A := A) (s := s) (by omega) (A 8 s).toNat
  refine qx_of (lo := [some (.ref (ad 0)), some (.ref (ad (10 + s))), none, none]) (by decide) (fun w hw => List.mem_cons_of_mem _ hw) rfl (Nat.le_of_ble_eq_true rfl) rfl ?_
  intro X C
  have Tl : ∀ (I1 : md_A) (l3 : Option Value), cr G iv g I1 m E N (md_fcm A s) → I1 (100 + m 49) = I (100 + m 49) → X 65 [some (.ref (ad 0)), some (.ref (ad (10 + s))), some (.int (iI (md_config A s))), l3] [] (ch G ad iv g I1 m E N) 0 0 := by
    intro I1 l3 h1 k1
    have hb01 := bit_01 (md_config A s) s
    have Ex : ∀ l3 : Option Value, ¬ (0 < md_lm A s (A 8 s).toNat ∧ md_lm A s (A 8 s).toNat ≤ md_fcm A s 14 s ∧ md_mine A s = 0) → X 109 [some (.ref (ad 0)), some (.ref (ad (10 + s))), some (.int (iI (md_config A s))), l3] [] (ch G ad iv g I1 m E N) 0 0 := by
      intro l3 hc
      refine qx_vret C d_Q_lookAtCommit_109 (Nat.zero_le _) (Nat.zero_le _) ⟨rfl, g, I1, E, N, rfl, cr_g.rf g, ?_, k1, rfl, rfl⟩
      unfold md_look
      rw [if_neg hc]
      exact h1
    refine qx_aload_n C d_Q_lookAtCommit_65 rfl rfl ?_
    refine qx_get C d_Q_lookAtCommit_66 fl_Q_85 (ch_S J hs) rfl ?_
    refine qx_aload_n C d_Q_lookAtCommit_69 rfl rfl ?_
    refine qx_get C d_Q_lookAtCommit_70 fl_Q_85 (ch_S J hs) rfl ?_
    refine nx_call0 C (s_Q_lookAtCommit_73 (ch_L J hs)) (c_last l G b J hs (h1.2.1 s hs) hB1 d) w_L_last rfl rfl (Nat.le_of_ble_eq_true rfl) (by omega) (by decide) ?_
    refine nx_call0 C (s_Q_lookAtCommit_76 (ch_L J hs)) (c_latest l G b J hw1.1 hs (h1.2.1 s hs) hB1 (t := (A 8 s).toNat) (by omega) (by unfold md_last; omega) d) w_L_latestMembersUpTo rfl rfl (Nat.le_of_ble_eq_true rfl) (by omega) (by decide) ?_
    have ex : md_lmX (md_fcm A s) s (A 8 s).toNat = if md_lm A s (A 8 s).toNat = 0 then -1 else md_lm A s (A 8 s).toNat := by unfold md_lmX; rw [hlg.lm]
    rw [ex]
    by_cases c0 : md_lm A s (A 8 s).toNat = 0
    · rw [if_pos c0]
      refine nx_istore_n C d_Q_lookAtCommit_79 rfl (Nat.le_of_ble_eq_true rfl) (lo' := [_, _, _, some (.int _)]) rfl ?_
      refine qx_iload_n C d_Q_lookAtCommit_80 rfl rfl ?_
      refine qx_iconst C d_Q_lookAtCommit_81 (v := iI (-1)) rfl ?_
      refine nx_icmp_eq C 109 d_Q_lookAtCommit_82 (by decide) (by omega) (by omega) (fun z1 => ?_) (fun z1 => ?_)
      · exact Ex _ (by omega)
      · exact absurd z1 (by omega)
    · rw [if_neg c0]
      refine nx_istore_n C d_Q_lookAtCommit_79 rfl (Nat.le_of_ble_eq_true rfl) (lo' := [_, _, _, some (.int _)]) rfl ?_
      refine qx_iload_n C d_Q_lookAtCommit_80 rfl rfl ?_
      refine qx_iconst C d_Q_lookAtCommit_81 (v := iI (-1)) rfl ?_
      refine nx_icmp_eq C 109 d_Q_lookAtCommit_82 (by decide) (by omega) (by omega) (fun z1 => ?_) (fun z1 => ?_)
      · exact absurd z1 (by omega)
      · refine qx_iload_n C d_Q_lookAtCommit_85 rfl rfl ?_
        refine qx_aload_n C d_Q_lookAtCommit_86 rfl rfl ?_
        refine qx_get C d_Q_lookAtCommit_87 fl_Q_133 (ch_S J hs) rfl ?_
        rw [(h1.1 s hs).1.2.2.2.2.2.1]
        refine nx_icmp_gt C 109 d_Q_lookAtCommit_90 (by decide) (by omega) (by omega) (fun z2 => ?_) (fun z2 => ?_)
        · exact Ex _ (by omega)
        · refine qx_iload_n C d_Q_lookAtCommit_93 rfl rfl ?_
          refine qx_aload_n C d_Q_lookAtCommit_94 rfl rfl ?_
          refine qx_get C d_Q_lookAtCommit_95 fl_Q_55 (ch_S J hs) rfl ?_
          refine nx_call0 C s_Q_lookAtCommit_98 (c_isIn l G b _ hcf (by omega) d) w_Q_isIn rfl rfl (Nat.le_of_ble_eq_true rfl) (by omega) (by decide) ?_
          refine nx_if_ne C 109 d_Q_lookAtCommit_101 (by decide) (by omega) (fun z3 => ?_) (fun z3 => ?_)
          · exact Ex _ (by unfold md_mine; omega)
          · refine qx_aload_n C d_Q_lookAtCommit_104 rfl rfl ?_
            refine qx_aload_n C d_Q_lookAtCommit_105 rfl rfl ?_
            refine nx_callpv C (s_Q_lookAtCommit_106 (ch_Q J)) (c_follow l G b J h1 hw1.1 hs (by omega) d) w_Q_follow rfl rfl (Nat.le_of_ble_eq_true rfl) (by omega) (by decide) (fun hh hP => ?_)
            obtain ⟨g2, I2, E2, N2, rfl, hg2, h2, j1, j2, j3⟩ := hP
            refine qx_vret C d_Q_lookAtCommit_109 (Nat.zero_le _) (Nat.zero_le _) ⟨rfl, g2, I2, E2, N2, rfl, hg2, ?_, j1.trans k1, j2, j3⟩
            unfold md_look
            rw [if_pos ⟨by omega, by omega, by unfold md_mine; omega⟩]
            exact h2
  have Lp : ∀ (j : Nat) (i : Int), i = A 14 s + j → i ≤ md_last A s → md_fc A s (md_last A s - A 14 s).toNat = md_fc A s j → X 16 [some (.ref (ad 0)), some (.ref (ad (10 + s))), some (.int (iI (md_config A s))), some (.int (iI i))] [] (ch G ad iv g I m E N) 0 0 := by
    intro j
    induction j with
    | zero =>
      intro i hi hil hf
      refine qx_iload_n C d_Q_lookAtCommit_16 rfl rfl ?_
      refine qx_aload_n C d_Q_lookAtCommit_17 rfl rfl ?_
      refine qx_get C d_Q_lookAtCommit_18 fl_Q_133 (ch_S J hs) rfl ?_
      rw [(h.1 s hs).1.2.2.2.2.2.1]
      refine nx_icmp_le C 65 d_Q_lookAtCommit_21 (by decide) (by omega) (by omega) (fun z1 => ?_) (fun z1 => ?_)
      · refine Tl I _ ?_ rfl
        unfold md_fcm
        rw [hf, show md_fc A s 0 = A 14 s from rfl, md_u_id]
        exact h
      · exact absurd z1 (by omega)
    | succ j ih =>
      intro i hi hil hf
      have h2 := hw.1 2 s
      have ht := md_termAt_r hw.1 s i
      have hij : A 14 s + j + 1 = i := by omega
      refine qx_iload_n C d_Q_lookAtCommit_16 rfl rfl ?_
      refine qx_aload_n C d_Q_lookAtCommit_17 rfl rfl ?_
      refine qx_get C d_Q_lookAtCommit_18 fl_Q_133 (ch_S J hs) rfl ?_
      rw [(h.1 s hs).1.2.2.2.2.2.1]
      refine nx_icmp_le C 65 d_Q_lookAtCommit_21 (by decide) (by omega) (by omega) (fun z1 => ?_) (fun z1 => ?_)
      · exact absurd z1 (by omega)
      · refine qx_aload_n C d_Q_lookAtCommit_24 rfl rfl ?_
        refine qx_get C d_Q_lookAtCommit_25 fl_Q_85 (ch_S J hs) rfl ?_
        refine qx_iload_n C d_Q_lookAtCommit_28 rfl rfl ?_
        refine nx_call0 C (s_Q_lookAtCommit_29 (ch_L J hs)) (c_termAt l G b J hs (h.2.1 s hs) hB (by omega) d) w_L_termAt rfl rfl (Nat.le_of_ble_eq_true rfl) (by omega) (by decide) ?_
        refine qx_aload_n C d_Q_lookAtCommit_32 rfl rfl ?_
        refine qx_get C d_Q_lookAtCommit_33 fl_Q_61 (ch_S J hs) rfl ?_
        rw [(h.1 s hs).1.2.2.1]
        refine nx_icmp_ne C 59 d_Q_lookAtCommit_36 (by decide) (by omega) (by omega) (fun z2 => ?_) (fun z2 => ?_)
        · refine nx_iinc C d_Q_lookAtCommit_59 rfl (lo' := [_, _, _, some (.int _)]) rfl ?_
          refine qx_goto C d_Q_lookAtCommit_62 (tgt := 16) (by decide) ?_
          refine ih _ (by omega) (by omega) ?_
          rw [hf, md_fc_s, hij, if_neg (fun z => z2 z.1)]
        · refine qx_aload_n C d_Q_lookAtCommit_39 rfl rfl ?_
          refine qx_iload_n C d_Q_lookAtCommit_40 rfl rfl ?_
          refine nx_call0 C (s_Q_lookAtCommit_41 (ch_S J hs)) (c_holders l G b J hw.1 hs (h.1 s hs) (by omega) d) w_S_holdersOf rfl rfl (Nat.le_of_ble_eq_true rfl) (by omega) (by decide) ?_
          refine qx_iload_n C d_Q_lookAtCommit_44 rfl rfl ?_
          have h5 := md_reach_5 (A := A) (k := 18) (s := s) (mark := i) (by omega) 5 (by omega)
          refine nx_call0 C s_Q_lookAtCommit_45 (c_areMost l G b _ h5 hcf d) w_Q_areMost rfl rfl (Nat.le_of_ble_eq_true rfl) (by omega) (by decide) ?_
          by_cases c2 : md_cnt (md_config A s) < 2 * md_cnt (ia (md_config A s) (md_reach A 18 s i 5))
          · rw [if_pos c2]
            refine nx_if_eq C 59 d_Q_lookAtCommit_48 (by decide) (by omega) (fun z3 => ?_) (fun z3 => ?_)
            · exact absurd z3 (by omega)
            · refine qx_aload_n C d_Q_lookAtCommit_51 rfl rfl ?_
              refine qx_iload_n C d_Q_lookAtCommit_52 rfl rfl ?_
              refine cx_pS C J hs (kz := 10) d_Q_lookAtCommit_53 fp_Q_133 (by decide) rfl ?_
              refine qx_goto C d_Q_lookAtCommit_56 (tgt := 65) (by decide) ?_
              refine Tl _ _ ?_ (cl_uI _ _ _ (by omega))
              unfold md_fcm
              rw [hf, md_fc_s, hij, if_pos ⟨z2, by unfold md_most; rw [if_pos c2]⟩]
              exact h.u hs (by unfold cr_F; omega)
          · rw [if_neg c2]
            refine nx_if_eq C 59 d_Q_lookAtCommit_48 (by decide) (by omega) (fun z3 => ?_) (fun z3 => ?_)
            · refine nx_iinc C d_Q_lookAtCommit_59 rfl (lo' := [_, _, _, some (.int _)]) rfl ?_
              refine qx_goto C d_Q_lookAtCommit_62 (tgt := 16) (by decide) ?_
              refine ih _ (by omega) (by omega) ?_
              rw [hf, md_fc_s, hij, if_neg (fun z => by have := z.2; unfold md_most at this; rw [if_neg c2] at this; omega)]
            · exact absurd z3 (by omega)
  refine qx_aload_n C d_Q_lookAtCommit_0 rfl rfl ?_
  refine qx_get C d_Q_lookAtCommit_1 fl_Q_85 (ch_S J hs) rfl ?_
  refine nx_call0 C (s_Q_lookAtCommit_4 (ch_L J hs)) (c_config l G b J hw.1 hs (h.2.1 s hs) hB d) w_L_configuration rfl rfl (Nat.le_of_ble_eq_true rfl) (by omega) (by decide) ?_
  refine nx_istore_n C d_Q_lookAtCommit_7 rfl (Nat.le_of_ble_eq_true rfl) (lo' := [_, _, some (.int _), _]) rfl ?_
  refine qx_aload_n C d_Q_lookAtCommit_8 rfl rfl ?_
  refine qx_get C d_Q_lookAtCommit_9 fl_Q_85 (ch_S J hs) rfl ?_
  refine nx_call0 C (s_Q_lookAtCommit_12 (ch_L J hs)) (c_last l G b J hs (h.2.1 s hs) hB d) w_L_last rfl rfl (Nat.le_of_ble_eq_true rfl) (by omega) (by decide) ?_
  refine nx_istore_n C d_Q_lookAtCommit_15 rfl (Nat.le_of_ble_eq_true rfl) (lo' := [_, _, _, some (.int _)]) rfl ?_
  exact Lp (md_last A s - A 14 s).toNat _ (by omega) (by omega) rfl
