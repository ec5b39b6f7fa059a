/-! the class: questions and calls -/
set_option maxRecDepth 100000 in
theorem c_askAll (l : Launch) (G : qh_G) (b : Nat) {ad : Nat → Nat} {iv : Nat → Option Nat} (J : cl_I ad iv) {g : qh_H} {I : md_A} {m : Nat → Nat} {E : cl_E} {N : Nat → Nat} {A : md_A} (h : cr G iv g I m E N A) (hw : md_ww A) {s : Nat} (hs : s < 5) (hB : md_B A s) (hcf : set5 (md_config A s)) {kind t : Int} (hk : kind = 0 ∨ kind = 2) (ht : rng t) (d : Nat) : qpv l y_Q_askAll c_Q_askAll 7 none (d + 3) 0 0 G b [.ref (ad 0), .ref (ad (10 + s)), .int (iI kind), .int (iI t)] (ch G ad iv g I m E N) (cr_P G ad iv g I m E N (md_ask A s kind t 5)) := by
  refine qx_of (lo := [some (.ref (ad 0)), some (.ref (ad (10 + s))), some (.int (iI kind)), some (.int (iI t)), none, none, none]) (by decide) (fun w hw => List.mem_cons_of_mem _ hw) rfl (Nat.le_of_ble_eq_true rfl) rfl ?_
  intro X C
  have Lp : ∀ (f o : Nat) (g1 : qh_H) (I1 : md_A) (E1 : cl_E) (N1 : Nat → Nat) (l6 : Option Value), o + f = 5 → cr_g g g1 → cr G iv g1 I1 m E1 N1 (md_ask A s kind t o) → I1 (100 + m 49) = I (100 + m 49) → E1 (200 + m 49) = E (200 + m 49) → N1 (100 + m 49) = N (100 + m 49) → X 12 [some (.ref (ad 0)), some (.ref (ad (10 + s))), some (.int (iI kind)), some (.int (iI t)), some (.int (iI (md_config A s))), some (.int (iI o)), l6] [] (ch G ad iv g1 I1 m E1 N1) 0 0 := by
    intro f
    induction f with
    | zero =>
      intro o g1 I1 E1 N1 l6 ho hg h1 k1 k2 k3
      refine qx_iload C d_Q_askAll_12 rfl ?_
      refine qx_iconst C d_Q_askAll_14 (v := iI (5)) rfl ?_
      refine nx_icmp_ge C 84 d_Q_askAll_15 (by decide) (by omega) (by omega) (fun z1 => ?_) (fun z1 => ?_)
      · rw [show o = 5 by omega] at h1
        exact qx_vret C d_Q_askAll_84 (Nat.zero_le _) (Nat.zero_le _) ⟨rfl, g1, I1, E1, N1, rfl, hg, h1, k1, k2, k3⟩
      · exact absurd z1 (by omega)
    | succ f ih =>
      intro o g1 I1 E1 N1 l6 ho hg h1 k1 k2 k3
      have hw1 := md_ask_ww (kind := kind) hB hw (by omega) ht o (by omega)
      have hlg := md_ask_lg A s kind t o
      have hb01 := bit_01 (md_config A s) o
      refine qx_iload C d_Q_askAll_12 rfl ?_
      refine qx_iconst C d_Q_askAll_14 (v := iI (5)) rfl ?_
      refine nx_icmp_ge C 84 d_Q_askAll_15 (by decide) (by omega) (by omega) (fun z1 => ?_) (fun z1 => ?_)
      · exact absurd z1 (by omega)
      · refine qx_iload C d_Q_askAll_18 rfl ?_
        refine qx_aload_n C d_Q_askAll_20 rfl rfl ?_
        refine qx_get C d_Q_askAll_21 fl_Q_55 (ch_S J hs) rfl ?_
        refine nx_icmp_eq C 78 d_Q_askAll_24 (by decide) (by omega) (by omega) (fun z2 => ?_) (fun z2 => ?_)
        · refine nx_iinc C d_Q_askAll_78 rfl (lo' := [_, _, _, _, _, some (.int _), _]) rfl ?_
          refine qx_goto C d_Q_askAll_81 (tgt := 12) (by decide) ?_
          exact ih (o + 1) g1 I1 E1 N1 _ (by omega) hg (by rw [md_ask_s, if_pos (Or.inl z2)]; exact h1) k1 k2 k3
        · refine qx_iload C d_Q_askAll_27 rfl ?_
          refine qx_iload C d_Q_askAll_29 rfl ?_
          refine nx_call0 C s_Q_askAll_31 (c_isIn l G b _ hcf (by omega) d) w_Q_isIn rfl rfl (Nat.le_of_ble_eq_true rfl) (by omega) (by decide) ?_
          refine nx_if_eq C 78 d_Q_askAll_34 (by decide) (by omega) (fun z3 => ?_) (fun z3 => ?_)
          · refine nx_iinc C d_Q_askAll_78 rfl (lo' := [_, _, _, _, _, some (.int _), _]) rfl ?_
            refine qx_goto C d_Q_askAll_81 (tgt := 12) (by decide) ?_
            exact ih (o + 1) g1 I1 E1 N1 _ (by omega) hg (by rw [md_ask_s, if_pos (Or.inr z3)]; exact h1) k1 k2 k3
          · obtain ⟨n1, n2, n3⟩ := cr_ne h1 hw1.2
            have hI2 := h1.2.2.1
            have hL1 := h1.2.1 s hs
            have hxw : m (I1 2 2).toNat = m (md_ask A s kind t o 27 0).toNat := by rw [hI2]
            have hwn : I1 2 2 = ((md_ask A s kind t o 27 0).toNat : Nat) := by rw [hI2]; omega
            generalize hx : m (md_ask A s kind t o 27 0).toNat = x at n1 n2 hxw
            refine qx_aload_n C d_Q_askAll_37 rfl rfl ?_
            refine qx_get C d_Q_askAll_38 fl_Q_35 (ch_Q J) rfl ?_
            refine qx_iload_n C d_Q_askAll_41 rfl rfl ?_
            refine qx_aload_n C d_Q_askAll_42 rfl rfl ?_
            refine qx_get C d_Q_askAll_43 fl_Q_55 (ch_S J hs) rfl ?_
            refine qx_iload C d_Q_askAll_46 rfl ?_
            refine qx_iload_n C d_Q_askAll_48 rfl rfl ?_
            refine nx_callq C (s_Q_askAll_49 (ch_W J)) (c_send l G b J hwn (by omega) hx n2 d) w_W_send rfl rfl (Nat.le_of_ble_eq_true rfl) (by omega) (by decide) ?_
            show X _ _ (.ref (ad (100 + x)) :: []) _ _ _
            refine nx_astore C d_Q_askAll_52 (Nat.le_of_ble_eq_true rfl) (lo' := [_, _, _, _, _, _, some (.ref _)]) rfl ?_
            refine qx_aload C d_Q_askAll_54 rfl ?_
            refine qx_aload_n C d_Q_askAll_56 rfl rfl ?_
            refine qx_get C d_Q_askAll_57 fl_Q_85 (ch_S J hs) rfl ?_
            have hLa : cr_L G iv g1 (cm_s I1 m kind s o t) E1 N1 A s := hL1.cg (by rw [cm_s_o hxw (by omega) (by omega)]) rfl rfl (fun k h4 h12 => (hlg k h4 h12).symm)
            refine nx_call0 C (s_Q_askAll_60 (ch_L J hs)) (c_last l G b J hs hLa hB d) w_L_last rfl rfl (Nat.le_of_ble_eq_true rfl) (by omega) (by decide) ?_
            refine cx_pM C J n2 d_Q_askAll_63 fp_Q_213 (by decide) ?_
            refine qx_aload C d_Q_askAll_66 rfl ?_
            refine qx_aload_n C d_Q_askAll_68 rfl rfl ?_
            refine qx_get C d_Q_askAll_69 fl_Q_85 (ch_S J hs) rfl ?_
            have hLb : cr_L G iv g1 (md_u (cm_s I1 m kind s o t) (100 + x) 5 (md_last A s)) E1 N1 A s := hLa.cg (by rw [cl_uI _ _ _ (by omega)]) rfl rfl (md_lg.rf A)
            refine nx_call0 C (s_Q_askAll_72 (ch_L J hs)) (c_lastTerm l G b J hs hLb hB d) w_L_lastTerm rfl rfl (Nat.le_of_ble_eq_true rfl) (by omega) (by decide) ?_
            refine cx_pM C J n2 d_Q_askAll_75 fp_Q_261 (by decide) ?_
            refine nx_iinc C d_Q_askAll_78 rfl (lo' := [_, _, _, _, _, some (.int _), _]) rfl ?_
            refine qx_goto C d_Q_askAll_81 (tgt := 12) (by decide) ?_
            refine ih (o + 1) g1 _ E1 N1 _ (by omega) hg ?_ ?_ k2 k3
            · rw [md_ask_s, if_neg (by omega)]
              refine cr.post h1 hw1.2 hx ?_ ?_ ?_ (fun _ _ => rfl) (fun _ _ => rfl) ?_
              · intro k hk
                rw [md_u_kk hk, md_u_kk hk, md_begin_kk hk]
              · intro j h1 h2
                rw [cl_uI _ _ _ h1, cl_uI _ _ _ h1, cm_s_o hxw h1 h2]
              · rw [md_uk (by omega), md_uk (by omega), cm_s_2, hI2]
              · obtain ⟨v1, v2, v3, v4, v5, v6, v7, v8, v9, v10⟩ := cm_b_v (I := I1) (kind := kind) (fr := s) (to := o) (t := t) x
                obtain ⟨w0, w1, w2, w3, w4, w6, w7, w9⟩ := md_bg (A := md_ask A s kind t o) (kind := kind) (fr := s) (to := o) (t := t)
                refine ⟨⟨?_, ?_, ?_, ?_, ?_, ?_, ?_, ?_⟩, fun hk => ?_, fun hk4 => ?_, fun hk6 => ?_⟩
                · simp [md_u, cm_s_x hxw, v1, w0]
                · simp [md_u, cm_s_x hxw, v2, w1]
                · simp [md_u, cm_s_x hxw, v3, w2]
                · simp [md_u, cm_s_x hxw, v4, w3]
                · simp [md_u]
                · simp [md_u, cm_s_x hxw, v7, w7]
                · simp [md_u, cm_s_x hxw, v9, w9]
                · simp [md_u, cm_s_x hxw, v10, w6]
                · simp [md_u]
                · exfalso
                  simp [md_u, w0] at hk4
                  omega
                · exfalso
                  simp [md_u, w0] at hk6
                  omega
            · rw [cl_uI _ _ _ (by omega), cl_uI _ _ _ (by omega), cm_s_o hxw (by omega) (by omega)]
              exact k1
  refine qx_aload_n C d_Q_askAll_0 rfl rfl ?_
  refine qx_get C d_Q_askAll_1 fl_Q_85 (ch_S J hs) rfl ?_
  refine nx_call0 C (s_Q_askAll_4 (ch_L J hs)) (c_config l G b J hw.1 hs (h.2.1 s hs) hB d) w_L_configuration rfl rfl (Nat.le_of_ble_eq_true rfl) (by omega) (by decide) ?_
  refine nx_istore C d_Q_askAll_7 (Nat.le_of_ble_eq_true rfl) (lo' := [_, _, _, _, some (.int _), _, _]) rfl ?_
  refine qx_iconst C d_Q_askAll_9 (v := iI (0)) rfl ?_
  refine nx_istore C d_Q_askAll_10 (Nat.le_of_ble_eq_true rfl) (lo' := [_, _, _, _, _, some (.int _), _]) rfl ?_
  exact Lp 5 0 g I E N _ (by omega) (cr_g.rf g) h rfl rfl rfl
