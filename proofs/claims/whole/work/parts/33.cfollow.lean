/-! the class: to all, follow, a new term -/
set_option maxRecDepth 100000 in
theorem c_sendAll (l : Launch) (G : qh_G) (b : Nat) {ad : Nat → Nat} {iv : Nat → Option Nat} (J : cl_I ad iv) {g : qh_H} {I : md_A} {m : Nat → Nat} {E : cl_E} {N : Nat → Nat} {A : md_A} (h : cr G iv g I m E N A) (hw : md_ww A) {s : Nat} (hs : s < 5) (hB : md_B A s) (hcf : set5 (md_config A s)) (hn : md_nx A s) (d : Nat) : qpv l y_Q_sendToAll c_Q_sendToAll 4 none (d + 4) 0 0 G b [.ref (ad 0), .ref (ad (10 + s))] (ch G ad iv g I m E N) (cr_P G ad iv g I m E N (md_all A s 5)) := by
  refine qx_of (lo := [some (.ref (ad 0)), some (.ref (ad (10 + s))), none, none]) (by decide) (fun w hw => List.mem_cons_of_mem _ hw) rfl (Nat.le_of_ble_eq_true rfl) rfl ?_
  intro X C
  have Lp : ∀ (f o : Nat) (g1 : qh_H) (I1 : md_A) (E1 : cl_E) (N1 : Nat → Nat), o + f = 5 → cr_g g g1 → cr G iv g1 I1 m E1 N1 (md_all A s o) → I1 (100 + m 49) = I (100 + m 49) → E1 (200 + m 49) = E (200 + m 49) → N1 (100 + m 49) = N (100 + m 49) → X 10 [some (.ref (ad 0)), some (.ref (ad (10 + s))), some (.int (iI (md_config A s))), some (.int (iI o))] [] (ch G ad iv g1 I1 m E1 N1) 0 0 := by
    intro f
    induction f with
    | zero =>
      intro o g1 I1 E1 N1 ho hg h1 k1 k2 k3
      refine qx_iload_n C d_Q_sendToAll_10 rfl rfl ?_
      refine qx_iconst C d_Q_sendToAll_11 (v := iI (5)) rfl ?_
      refine nx_icmp_ge C 43 d_Q_sendToAll_12 (by decide) (by omega) (by omega) (fun z1 => ?_) (fun z1 => ?_)
      · rw [show o = 5 by omega] at h1
        exact qx_vret C d_Q_sendToAll_43 (Nat.zero_le _) (Nat.zero_le _) ⟨rfl, g1, I1, E1, N1, rfl, hg, h1, k1, k2, k3⟩
      · exact absurd z1 (by omega)
    | succ f ih =>
      intro o g1 I1 E1 N1 ho hg h1 k1 k2 k3
      have hw1 := md_all_ww hw (s := s) (by omega) hn o (by omega)
      have hlg := md_all_lg A s o
      have hb01 := bit_01 (md_config A s) o
      have h17 : md_all A s o 17 (5 * s + o) = A 17 (5 * s + o) := md_all_k (by decide) o
      have hno := hn o
      refine qx_iload_n C d_Q_sendToAll_10 rfl rfl ?_
      refine qx_iconst C d_Q_sendToAll_11 (v := iI (5)) rfl ?_
      refine nx_icmp_ge C 43 d_Q_sendToAll_12 (by decide) (by omega) (by omega) (fun z1 => ?_) (fun z1 => ?_)
      · exact absurd z1 (by omega)
      · refine qx_iload_n C d_Q_sendToAll_15 rfl rfl ?_
        refine qx_aload_n C d_Q_sendToAll_16 rfl rfl ?_
        refine qx_get C d_Q_sendToAll_17 fl_Q_55 (ch_S J hs) rfl ?_
        refine nx_icmp_eq C 37 d_Q_sendToAll_20 (by decide) (by omega) (by omega) (fun z2 => ?_) (fun z2 => ?_)
        · refine nx_iinc C d_Q_sendToAll_37 rfl (lo' := [_, _, _, some (.int _)]) rfl ?_
          refine qx_goto C d_Q_sendToAll_40 (tgt := 10) (by decide) ?_
          exact ih (o + 1) g1 I1 E1 N1 (by omega) hg (by rw [md_all_s, if_pos (Or.inl z2)]; exact h1) k1 k2 k3
        · refine qx_iload_n C d_Q_sendToAll_23 rfl rfl ?_
          refine qx_iload_n C d_Q_sendToAll_24 rfl rfl ?_
          refine nx_call0 C s_Q_sendToAll_25 (c_isIn l G b _ hcf (by omega) d) w_Q_isIn rfl rfl (Nat.le_of_ble_eq_true rfl) (by omega) (by decide) ?_
          refine nx_if_eq C 37 d_Q_sendToAll_28 (by decide) (by omega) (fun z3 => ?_) (fun z3 => ?_)
          · refine nx_iinc C d_Q_sendToAll_37 rfl (lo' := [_, _, _, some (.int _)]) rfl ?_
            refine qx_goto C d_Q_sendToAll_40 (tgt := 10) (by decide) ?_
            exact ih (o + 1) g1 I1 E1 N1 (by omega) hg (by rw [md_all_s, if_pos (Or.inr (by omega))]; exact h1) k1 k2 k3
          · refine qx_aload_n C d_Q_sendToAll_31 rfl rfl ?_
            refine qx_aload_n C d_Q_sendToAll_32 rfl rfl ?_
            refine qx_iload_n C d_Q_sendToAll_33 rfl rfl ?_
            refine nx_callpv C (s_Q_sendToAll_34 (ch_Q J)) (c_sendTo l G b J h1 hw1 hs (hlg.B hB) (to := o) (by omega) (by omega) d) w_Q_sendTo rfl rfl (Nat.le_of_ble_eq_true rfl) (by omega) (by decide) (fun hh hP => ?_)
            obtain ⟨g2, I2, E2, N2, rfl, hg2, h2, j1, j2, j3⟩ := hP
            refine nx_iinc C d_Q_sendToAll_37 rfl (lo' := [_, _, _, some (.int _)]) rfl ?_
            refine qx_goto C d_Q_sendToAll_40 (tgt := 10) (by decide) ?_
            exact ih (o + 1) g2 I2 E2 N2 (by omega) (hg.tr hg2) (by rw [md_all_s, if_neg (by omega)]; exact h2) (j1.trans k1) (j2.trans k2) (j3.trans k3)
  refine qx_aload_n C d_Q_sendToAll_0 rfl rfl ?_
  refine qx_get C d_Q_sendToAll_1 fl_Q_85 (ch_S J hs) rfl ?_
  refine nx_call0 C (s_Q_sendToAll_4 (ch_L J hs)) (c_config l G b J hw.1 hs (h.2.1 s hs) hB d) w_L_configuration rfl rfl (Nat.le_of_ble_eq_true rfl) (by omega) (by decide) ?_
  refine nx_istore_n C d_Q_sendToAll_7 rfl (Nat.le_of_ble_eq_true rfl) (lo' := [_, _, some (.int _), _]) rfl ?_
  refine qx_iconst C d_Q_sendToAll_8 (v := iI (0)) rfl ?_
  refine nx_istore_n C d_Q_sendToAll_9 rfl (Nat.le_of_ble_eq_true rfl) (lo' := [_, _, _, some (.int _)]) rfl ?_
  exact Lp 5 0 g I E N (by omega) (cr_g.rf g) h rfl rfl rfl
theorem md_wu {A : md_A} {k j : Nat} (h : j ≠ k) {lo hi i v : Int} {f : Int → Int} : md_u (md_w A k lo hi f) j i v = md_w (md_u A j i v) k lo hi f := by
  funext a x
  unfold md_u md_w
  by_cases h1 : a = j ∧ x = i
  · rw [if_pos h1, if_neg (fun z => h (h1.1.symm.trans z.1))]
    exact (if_pos h1).symm
  · rw [if_neg h1]
    by_cases h2 : a = k ∧ lo ≤ x ∧ x < hi
    · rw [if_pos h2, if_pos h2]
    · rw [if_neg h2, if_neg h2]
      exact (if_neg h1).symm
theorem cl_wI {I : md_A} {j i : Nat} {lo hi : Int} {f : Int → Int} (h : i ≠ j) : md_w I j lo hi f i = I i := by
  funext x
  exact md_wk h
theorem cr.fail {G : qh_G} {iv : Nat → Option Nat} {g : qh_H} {I : md_A} {m : Nat → Nat} {E : cl_E} {N : Nat → Nat} {A : md_A} (h : cr G iv g I m E N A) {n : Int} (hn : n ≤ 60) {s : Int} : cr G iv g (md_w I 8 0 n (fun x => if I 5 x = s ∧ I 8 x = 0 then 2 else I 8 x)) m E N (md_w A 25 0 n (fun x => if A 22 x = s ∧ A 25 x = 0 then 2 else A 25 x)) := by
  obtain ⟨h1, h2, h3, h4, h5, h6⟩ := h
  refine ⟨fun s' hs' => ?_, fun s' hs' => ?_, ?_, h4, fun w hw => ?_, ?_, fun i h0 h60 => ?_⟩
  · exact (h1 s' hs').cg (cl_wI (by omega)) (cl_wI (by omega)) (cl_wI (by omega)) (cl_wI (by omega)) (fun k' hk' => md_wk (by omega)) (fun k' hk' o _ _ => md_wk (by omega))
  · exact (h2 s' hs').cg (by rw [cl_wI (by omega)]) rfl rfl (fun k h7 h8 => cl_wI (by omega))
  · rw [md_wk (by omega), md_wk (by omega)]; exact h3
  · rw [md_wk (by omega)] at hw
    exact (h5 w hw).cg (cl_wI (by omega)) rfl rfl (fun k _ _ => md_wk (by omega))
  · rw [md_wk (by omega), md_wk (by omega)]; exact h6.1
  · obtain ⟨r1, r2, r3, r4, r5⟩ := h6.2 i h0 h60
    refine ⟨?_, ?_, ?_, ?_, ?_⟩
    · rw [md_wk (by omega), md_wk (by omega)]; exact r1
    · rw [md_wk (by omega), md_wk (by omega)]; exact r2
    · rw [md_wk (by omega), md_wk (by omega)]; exact r3
    · by_cases hi : i < n
      · rw [md_wi ⟨h0, hi⟩, md_wi ⟨h0, hi⟩, r1, r4]
      · rw [md_wo (by omega), md_wo (by omega)]; exact r4
    · rw [md_wk (by omega), md_wk (by omega)]; exact r5
set_option maxRecDepth 100000 in
theorem c_follow (l : Launch) (G : qh_G) (b : Nat) {ad : Nat → Nat} {iv : Nat → Option Nat} (J : cl_I ad iv) {g : qh_H} {I : md_A} {m : Nat → Nat} {E : cl_E} {N : Nat → Nat} {A : md_A} (h : cr G iv g I m E N A) (hA : md_r A) {s : Nat} (hs : s < 5) (hr : 0 ≤ A 21 0 ∧ A 21 0 ≤ 60) (d : Nat) : qpv l y_Q_follow c_Q_follow 2 none (d + 2) 0 0 G b [.ref (ad 0), .ref (ad (10 + s))] (ch G ad iv g I m E N) (cr_P G ad iv g I m E N (md_follow A s)) := by
  have hS := h.1 s hs
  have hR := h.2.2.2.2.2
  have h13 := hA 13 s
  have n49 : m 49 < 50 := h.2.2.2.1.1 49 (by omega)
  refine qx_of (lo := [some (.ref (ad 0)), some (.ref (ad (10 + s)))]) (by decide) (fun w hw => List.mem_cons_of_mem _ hw) rfl (Nat.le_of_ble_eq_true rfl) rfl ?_
  intro X C
  refine qx_aload_n C d_Q_follow_0 rfl rfl ?_
  refine qx_get C d_Q_follow_1 fl_Q_51 (ch_S J hs) rfl ?_
  rw [hS.1.2.2.2.2.1]
  refine qx_iconst C d_Q_follow_4 (v := iI (3)) rfl ?_
  refine nx_icmp_ne C 19 d_Q_follow_5 (by decide) (by omega) (by omega) (fun z1 => ?_) (fun z1 => ?_)
  · refine qx_aload_n C d_Q_follow_19 rfl rfl ?_
    refine qx_iconst C d_Q_follow_20 (v := iI (0)) rfl ?_
    refine cx_pS C J hs (kz := 9) d_Q_follow_21 fp_Q_51 (by decide) rfl ?_
    refine qx_vret C d_Q_follow_24 (Nat.zero_le _) (Nat.zero_le _) ⟨rfl, g, _, E, N, rfl, cr_g.rf g, ?_, cl_uI _ _ _ (by omega), rfl, rfl⟩
    unfold md_follow
    rw [if_neg z1]
    exact h.u hs (by unfold cr_F; omega)
  · refine qx_aload_n C d_Q_follow_8 rfl rfl ?_
    refine qx_get C d_Q_follow_9 fl_Q_18 (ch_Q J) rfl ?_
    refine qx_aload_n C d_Q_follow_12 rfl rfl ?_
    refine qx_get C d_Q_follow_13 fl_Q_55 (ch_S J hs) rfl ?_
    refine nx_callv C (s_Q_follow_16 (ch_R J)) (c_failAll l G b J (n := (A 21 0).toNat) (by rw [hR.1]; omega) (by omega) (fun i h0 h60 => by rw [(hR.2 i h0 h60).1, (hR.2 i h0 h60).2.2.2.1]; exact ⟨hA _ _, hA _ _⟩) (by omega) d) w_R_failAllOf rfl rfl (Nat.le_of_ble_eq_true rfl) (by omega) (by decide) ?_
    refine qx_aload_n C d_Q_follow_19 rfl rfl ?_
    refine qx_iconst C d_Q_follow_20 (v := iI (0)) rfl ?_
    refine cx_pS C J hs (kz := 9) d_Q_follow_21 fp_Q_51 (by decide) rfl ?_
    refine qx_vret C d_Q_follow_24 (Nat.zero_le _) (Nat.zero_le _) ⟨rfl, g, _, E, N, rfl, cr_g.rf g, ?_, (cl_uI _ _ _ (by omega)).trans (cl_wI (by omega)), rfl, rfl⟩
    unfold md_follow
    rw [if_pos z1, ← md_wu (by decide), show (((A 21 0).toNat : Nat) : Int) = A 21 0 by omega]
    exact (h.fail hr.2).u hs (by unfold cr_F; omega)
set_option maxRecDepth 100000 in
theorem c_enter (l : Launch) (G : qh_G) (b : Nat) {ad : Nat → Nat} {iv : Nat → Option Nat} (J : cl_I ad iv) {g : qh_H} {I : md_A} {m : Nat → Nat} {E : cl_E} {N : Nat → Nat} {A : md_A} (h : cr G iv g I m E N A) (hA : md_r A) {s : Nat} (hs : s < 5) (hr : 0 ≤ A 21 0 ∧ A 21 0 ≤ 60) {t : Int} (ht : rng t) (d : Nat) : qpv l y_Q_enterTerm c_Q_enterTerm 3 none (d + 3) 0 0 G b [.ref (ad 0), .ref (ad (10 + s)), .int (iI t)] (ch G ad iv g I m E N) (cr_P G ad iv g I m E N (md_newTerm A s t)) := by
  have n49 : m 49 < 50 := h.2.2.2.1.1 49 (by omega)
  refine qx_of (lo := [some (.ref (ad 0)), some (.ref (ad (10 + s))), some (.int (iI t))]) (by decide) (fun w hw => List.mem_cons_of_mem _ hw) rfl (Nat.le_of_ble_eq_true rfl) rfl ?_
  intro X C
  refine qx_aload_n C d_Q_enterTerm_0 rfl rfl ?_
  refine qx_iload_n C d_Q_enterTerm_1 rfl rfl ?_
  refine cx_pS C J hs (kz := 7) d_Q_enterTerm_2 fp_Q_61 (by decide) rfl ?_
  refine qx_aload_n C d_Q_enterTerm_5 rfl rfl ?_
  refine qx_iconst C d_Q_enterTerm_6 (v := iI (-1)) rfl ?_
  refine cx_pS C J hs (kz := 8) d_Q_enterTerm_7 fp_Q_220 (by decide) rfl ?_
  refine qx_aload_n C d_Q_enterTerm_10 rfl rfl ?_
  refine qx_aload_n C d_Q_enterTerm_11 rfl rfl ?_
  have h1 := (h.u hs (k := 7) (ka := 2) (v := t) (va := t) (by unfold cr_F; omega)).u hs (k := 8) (ka := 3) (v := -1) (va := -1) (by unfold cr_F; omega)
  refine nx_callpv C (s_Q_enterTerm_12 (ch_Q J)) (c_follow l G b J h1 (md_r_u (md_r_u hA ht) (by omega)) hs (by rw [md_uk (by decide), md_uk (by decide)]; exact hr) d) w_Q_follow rfl rfl (Nat.le_of_ble_eq_true rfl) (by omega) (by decide) (fun hh hP => ?_)
  obtain ⟨g2, I2, E2, N2, rfl, hg2, h2, j1, j2, j3⟩ := hP
  exact qx_vret C d_Q_enterTerm_15 (Nat.zero_le _) (Nat.zero_le _) ⟨rfl, g2, I2, E2, N2, rfl, hg2, h2, j1.trans ((cl_uI _ _ _ (by omega)).trans (cl_uI _ _ _ (by omega))), j2, j3⟩
