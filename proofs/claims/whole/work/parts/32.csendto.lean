/-! the class: APPEND and INSTALL -/
theorem cr_N_at {G : qh_G} {ad : Nat → Nat} {iv : Nat → Option Nat} (J : cl_I ad iv) {g : qh_H} {A : md_A} {s : Nat} {a : Nat} (h : cr_N G iv g a (A 4 s) (A 5 s) (A 6 s) (fun k => A 7 (4 * s + k))) (I : md_A) (m : Nat → Nat) (E : cl_E) (N : Nat → Nat) : ∃ va, (ch G ad iv g I m E N) a = some (.inr (7, [.int (iI (A 4 s)), .int (iI (A 5 s)), .int (iI (A 6 s)), .ref va])) := by
  obtain ⟨va, -, hsn, -⟩ := cr_hsn (I := I) (m := m) (E := E) (N := N) J h
  exact ⟨va, hsn⟩
theorem md_ents_v {A B : md_A} {s n k : Int} (h0 : 0 ≤ k) (h1 : k < 10) (h7 : k ≠ 7) : md_ents A B s n 29 k = B 29 k := by
  unfold md_ents
  split
  · rfl
  · split
    · unfold md_put1
      rw [md_ui h7, md_ui (by omega), md_ui (by omega), md_ui (by omega), md_ui (by omega)]
    · unfold md_put1
      rw [md_ui h7, md_ui (by omega), md_ui (by omega), md_ui (by omega), md_ui (by omega), md_ui h7, md_ui (by omega), md_ui (by omega), md_ui (by omega), md_ui (by omega)]
theorem md_ents_7 {A B : md_A} {s n : Int} (h : B 29 7 = 0) : md_ents A B s n 29 7 = if md_last A s < n then 0 else if md_last A s < n + 1 then 1 else 2 := by
  unfold md_ents
  split
  · exact h
  · split
    · unfold md_put1; rw [md_us]; rfl
    · unfold md_put1; rw [md_us]; rfl
theorem md_ents_e0 {A B : md_A} {s n : Int} (h : ¬ md_last A s < n) : md_ents A B s n 29 10 = A 9 (md_cell A s n) ∧ md_ents A B s n 29 (10 + 1) = A 10 (md_cell A s n) ∧ md_ents A B s n 29 (10 + 2) = A 11 (md_cell A s n) ∧ md_ents A B s n 29 (10 + 3) = A 12 (md_cell A s n) := by
  unfold md_ents
  rw [if_neg h]
  split
  · refine ⟨?_, ?_, ?_, ?_⟩ <;> simp [md_put1, md_u]
  · refine ⟨?_, ?_, ?_, ?_⟩ <;> simp [md_put1, md_u]
theorem md_ents_e1 {A B : md_A} {s n : Int} (h : ¬ md_last A s < n + 1) : md_ents A B s n 29 14 = A 9 (md_cell A s (n + 1)) ∧ md_ents A B s n 29 (14 + 1) = A 10 (md_cell A s (n + 1)) ∧ md_ents A B s n 29 (14 + 2) = A 11 (md_cell A s (n + 1)) ∧ md_ents A B s n 29 (14 + 3) = A 12 (md_cell A s (n + 1)) := by
  unfold md_ents
  rw [if_neg (by omega), if_neg h]
  refine ⟨?_, ?_, ?_, ?_⟩ <;> simp [md_put1, md_u]
theorem cl_cp_0 {E : cl_E} {s x k c : Nat} (h : c = 1 ∨ c = 2) : cl_cp E s x k c (200 + x) 0 = E (30 + s) k := by
  rcases h with rfl | rfl <;> simp [cl_cp, cl_uE]
theorem cl_cp_1 {E : cl_E} {s x k : Nat} : cl_cp E s x k 2 (200 + x) 1 = E (30 + s) (k + 1) := by
  simp [cl_cp, cl_uE]
theorem md_hd_v (A : md_A) (s to kind : Int) : md_hd A s to kind 29 0 = kind ∧ md_hd A s to kind 29 1 = s ∧ md_hd A s to kind 29 2 = to ∧ md_hd A s to kind 29 3 = A 2 s ∧ md_hd A s to kind 29 6 = 0 ∧ md_hd A s to kind 29 7 = 0 ∧ md_hd A s to kind 29 8 = A 14 s ∧ md_hd A s to kind 29 9 = A 20 s := by
  refine ⟨?_, ?_, ?_, ?_, ?_, ?_, ?_, ?_⟩ <;> simp [md_hd, md_begin, md_u, md_w]
set_option maxRecDepth 100000 in
theorem c_sendTo (l : Launch) (G : qh_G) (b : Nat) {ad : Nat → Nat} {iv : Nat → Option Nat} (J : cl_I ad iv) {g : qh_H} {I : md_A} {m : Nat → Nat} {E : cl_E} {N : Nat → Nat} {A : md_A} (h : cr G iv g I m E N A) (hw : md_ww A) {s : Nat} (hs : s < 5) (hB : md_B A s) {to : Int} (hto : 0 ≤ to ∧ to < 5) (hn : -1000000 ≤ A 17 (5 * s + to) ∧ A 17 (5 * s + to) ≤ 2000000) (d : Nat) : qpv l y_Q_sendTo c_Q_sendTo 6 none (d + 3) 0 0 G b [.ref (ad 0), .ref (ad (10 + s)), .int (iI to)] (ch G ad iv g I m E N) (cr_P G ad iv g I m E N (md_sendTo A s to)) := by
  have hl : md_last A s = A 4 s + A 8 s := rfl
  obtain ⟨n1, n2, n3⟩ := cr_ne h hw.2
  have hI2 := h.2.2.1
  have hS := h.1 s hs
  have hL := h.2.1 s hs
  have hN := hL.2.1
  obtain ⟨va, hsn⟩ := cr_N_at J hN I m E N
  have hxw : m (I 2 2).toNat = m (A 27 0).toNat := by rw [hI2]
  have hwn : I 2 2 = ((A 27 0).toNat : Nat) := by rw [hI2]; omega
  generalize hx : m (A 27 0).toNat = x at n1 n2 hxw
  refine qx_of (lo := [some (.ref (ad 0)), some (.ref (ad (10 + s))), some (.int (iI to)), none, none, none]) (by decide) (fun w hw => List.mem_cons_of_mem _ hw) rfl (Nat.le_of_ble_eq_true rfl) rfl ?_
  intro X C
  refine qx_aload_n C d_Q_sendTo_0 rfl rfl ?_
  refine qx_get C d_Q_sendTo_1 fl_Q_267 (ch_S J hs) rfl ?_
  refine qx_iload_n C d_Q_sendTo_4 rfl rfl ?_
  refine cx_ia C J d_Q_sendTo_5 (by omega) (by omega) (by omega) ?_
  rw [(hS.2 to hto.1 hto.2).1]
  refine qx_iconst C d_Q_sendTo_6 (v := iI (1)) rfl ?_
  refine nx_isub C d_Q_sendTo_7 ?_
  refine nx_istore_n C d_Q_sendTo_8 rfl (Nat.le_of_ble_eq_true rfl) (lo' := [_, _, _, some (.int _), _, _]) rfl ?_
  refine qx_iload_n C d_Q_sendTo_9 rfl rfl ?_
  refine qx_aload_n C d_Q_sendTo_10 rfl rfl ?_
  refine qx_get C d_Q_sendTo_11 fl_Q_85 (ch_S J hs) rfl ?_
  refine qx_get C d_Q_sendTo_14 fl_Q_170 (ch_L J hs) rfl ?_
  refine qx_get C d_Q_sendTo_17 fl_Q_174 hsn rfl ?_
  refine nx_icmp_ge C 27 d_Q_sendTo_20 (by decide) (by omega) (by omega) (fun z1 => ?_) (fun z1 => ?_)
  · refine qx_iconst C d_Q_sendTo_27 (v := iI (0)) rfl ?_
    refine nx_istore C d_Q_sendTo_28 (Nat.le_of_ble_eq_true rfl) (lo' := [_, _, _, _, some (.int _), _]) rfl ?_
    refine qx_aload_n C d_Q_sendTo_30 rfl rfl ?_
    refine qx_get C d_Q_sendTo_31 fl_Q_35 (ch_Q J) rfl ?_
    refine qx_iload C d_Q_sendTo_34 rfl ?_
    refine nx_if_eq C 44 d_Q_sendTo_36 (by decide) (by omega) (fun z2 => ?_) (fun z2 => ?_)
    · refine qx_iconst C d_Q_sendTo_44 (v := iI (4)) rfl ?_
      refine qx_aload_n C d_Q_sendTo_45 rfl rfl ?_
      refine qx_get C d_Q_sendTo_46 fl_Q_55 (ch_S J hs) rfl ?_
      refine qx_iload_n C d_Q_sendTo_49 rfl rfl ?_
      refine qx_aload_n C d_Q_sendTo_50 rfl rfl ?_
      refine qx_get C d_Q_sendTo_51 fl_Q_61 (ch_S J hs) rfl ?_
      rw [hS.1.2.2.1]
      refine nx_callq C (s_Q_sendTo_54 (ch_W J)) (c_send l G b J hwn (by omega) hx n2 d) w_W_send rfl rfl (Nat.le_of_ble_eq_true rfl) (by omega) (by decide) ?_
      show X _ _ (.ref (ad (100 + x)) :: []) _ _ _
      refine nx_astore C d_Q_sendTo_57 (Nat.le_of_ble_eq_true rfl) (lo' := [_, _, _, _, _, some (.ref _)]) rfl ?_
      refine qx_aload C d_Q_sendTo_59 rfl ?_
      refine qx_aload_n C d_Q_sendTo_61 rfl rfl ?_
      refine qx_get C d_Q_sendTo_62 fl_Q_147 (ch_S J hs) rfl ?_
      have q10 : cm_s I m 4 s to (A 2 s) (10 + s) = I (10 + s) := cm_s_o hxw (by omega) (by omega)
      have q20 : cm_s I m 4 s to (A 2 s) (20 + s) = I (20 + s) := cm_s_o hxw (by omega) (by omega)
      rw [q10, hS.1.2.2.2.2.2.2.1]
      refine cx_pM C J n2 d_Q_sendTo_65 fp_Q_219 (by decide) ?_
      refine qx_iload C d_Q_sendTo_68 rfl ?_
      refine nx_if_eq C 103 d_Q_sendTo_70 (by decide) (by omega) (fun z3 => ?_) (fun z3 => ?_)
      · refine qx_aload C d_Q_sendTo_103 rfl ?_
        refine qx_iload_n C d_Q_sendTo_105 rfl rfl ?_
        refine cx_pM C J n2 d_Q_sendTo_106 fp_Q_213 (by decide) ?_
        refine qx_aload C d_Q_sendTo_109 rfl ?_
        refine qx_aload_n C d_Q_sendTo_111 rfl rfl ?_
        refine qx_get C d_Q_sendTo_112 fl_Q_85 (ch_S J hs) rfl ?_
        refine qx_iload_n C d_Q_sendTo_115 rfl rfl ?_
        have hLa : ∀ I' : md_A, I' (20 + s) = cm_s I m 4 s to (A 2 s) (20 + s) → cr_L G iv g I' E N A s := fun I' hI => hL.cg (by rw [hI, q20]) rfl rfl (md_lg.rf A)
        refine nx_call0 C (s_Q_sendTo_116 (ch_L J hs)) (c_termAt l G b J hs (hLa _ (by rw [cl_uI _ _ _ (by omega), cl_uI _ _ _ (by omega)])) hB (by omega) d) w_L_termAt rfl rfl (Nat.le_of_ble_eq_true rfl) (by omega) (by decide) ?_
        refine cx_pM C J n2 d_Q_sendTo_119 fp_Q_261 (by decide) ?_
        refine qx_aload C d_Q_sendTo_122 rfl ?_
        refine qx_aload_n C d_Q_sendTo_124 rfl rfl ?_
        refine qx_get C d_Q_sendTo_125 fl_Q_133 (ch_S J hs) rfl ?_
        rw [cl_uI _ _ _ (by omega), cl_uI _ _ _ (by omega), cl_uI _ _ _ (by omega), q10, hS.1.2.2.2.2.2.1]
        refine cx_pM C J n2 d_Q_sendTo_128 fp_Q_294 (by decide) ?_
        refine qx_aload C d_Q_sendTo_131 rfl ?_
        refine qx_aload_n C d_Q_sendTo_133 rfl rfl ?_
        refine qx_get C d_Q_sendTo_134 fl_Q_85 (ch_S J hs) rfl ?_
        refine qx_iload_n C d_Q_sendTo_137 rfl rfl ?_
        refine qx_aload C d_Q_sendTo_138 rfl ?_
        refine qx_get C d_Q_sendTo_140 fl_Q_295 (ch_M J n2) rfl ?_
        have hcnt : ∃ c : Nat, (c : Int) = if md_last A s < A 17 (5 * s + to) - 1 + 1 then 0 else if md_last A s < A 17 (5 * s + to) - 1 + 2 then 1 else 2 := by
          by_cases c1 : md_last A s < A 17 (5 * s + to) - 1 + 1
          · exact ⟨0, by rw [if_pos c1]; rfl⟩
          · by_cases c2 : md_last A s < A 17 (5 * s + to) - 1 + 2
            · exact ⟨1, by rw [if_neg c1, if_pos c2]; rfl⟩
            · exact ⟨2, by rw [if_neg c1, if_neg c2]; rfl⟩
        obtain ⟨c, hc⟩ := hcnt
        refine nx_call0 C (s_Q_sendTo_143 (ch_L J hs)) (c_copy l G b J hs (hLa _ (by rw [cl_uI _ _ _ (by omega), cl_uI _ _ _ (by omega), cl_uI _ _ _ (by omega), cl_uI _ _ _ (by omega)])) hB n2 (by omega) hc rfl d) w_L_copyBehind rfl rfl (Nat.le_of_ble_eq_true rfl) (by omega) (by decide) ?_
        refine cx_pM C J n2 d_Q_sendTo_146 fp_Q_214 (by decide) ?_
        have es : md_sendTo A s to = md_appd A s to := by unfold md_sendTo; rw [if_neg (by omega)]
        refine qx_vret C d_Q_sendTo_149 (Nat.zero_le _) (Nat.zero_le _) ⟨rfl, g, _, _, N, rfl, cr_g.rf g, ?_, ?_, cl_cp_o E s x _ (by omega) c, rfl⟩
        rw [es]
        refine cr.post h hw.2 hx ?_ ?_ ?_ (fun j hj => cl_cp_o E s x _ hj c) (fun _ _ => rfl) ?_
        · intro k hk
          funext i
          rw [md_ents_k hk, md_uk hk, md_uk hk, md_hd_k hk]
        · intro j h1 h2
          rw [cl_uI _ _ _ h1, cl_uI _ _ _ h1, cl_uI _ _ _ h1, cl_uI _ _ _ h1, cl_uI _ _ _ h1, cm_s_o hxw h1 h2]
        · rw [md_uk (by omega), md_uk (by omega), md_uk (by omega), md_uk (by omega), md_uk (by omega), cm_s_2, hI2]
        · obtain ⟨v1, v2, v3, v4, v5, v6, v7, v8, v9, v10⟩ := cm_b_v (I := I) (kind := 4) (fr := s) (to := to) (t := A 2 s) x
          obtain ⟨w0, w1, w2, w3, w6, w7, w8, w9⟩ := md_hd_v A s to 4
          have e7 : md_ents A (md_u (md_u (md_hd A s to 4) 29 4 (A 17 (5 * s + to) - 1)) 29 5 (md_termAt A s (A 17 (5 * s + to) - 1))) s (A 17 (5 * s + to)) 29 7 = c := by
            rw [md_ents_7 (by simp [md_u, w7]), hc, show A 17 (5 * s + to) - 1 + 1 = A 17 (5 * s + to) by omega, show A 17 (5 * s + to) - 1 + 2 = A 17 (5 * s + to) + 1 by omega]
          refine ⟨⟨?_, ?_, ?_, ?_, ?_, ?_, ?_, ?_⟩, fun _ => ?_, fun _ => ⟨?_, fun h0 => ?_, fun h1 => ?_⟩, fun hk6 => ?_⟩
          · rw [md_ents_v (by decide) (by decide) (by decide)]; simp [md_u, cm_s_x hxw, v1, w0]
          · rw [md_ents_v (by decide) (by decide) (by decide)]; simp [md_u, cm_s_x hxw, v2, w1]
          · rw [md_ents_v (by decide) (by decide) (by decide)]; simp [md_u, cm_s_x hxw, v3, w2]
          · rw [md_ents_v (by decide) (by decide) (by decide)]; simp [md_u, cm_s_x hxw, v4, w3]
          · rw [md_ents_v (by decide) (by decide) (by decide)]; simp [md_u]
          · rw [e7]; simp [md_u]
          · rw [md_ents_v (by decide) (by decide) (by decide)]; simp [md_u, w9]
          · rw [md_ents_v (by decide) (by decide) (by decide)]; simp [md_u, cm_s_x hxw, v10, w6]
          · rw [md_ents_v (by decide) (by decide) (by decide)]; simp [md_u]
          · rw [md_ents_v (by decide) (by decide) (by decide)]; simp [md_u, w8]
          · rw [e7] at h0
            have hb : ¬ md_last A s < A 17 (5 * s + to) := by
              intro hbb
              rw [if_pos (by omega)] at hc
              omega
            have hc2 : c = 1 ∨ c = 2 := by
              rw [if_neg (by omega)] at hc
              split at hc <;> omega
            obtain ⟨x0, x1, x2, x3⟩ := md_ents_e0 (A := A) (B := md_u (md_u (md_hd A s to 4) 29 4 (A 17 (5 * s + to) - 1)) 29 5 (md_termAt A s (A 17 (5 * s + to) - 1))) hb
            have hcl : md_cell A s (A 17 (5 * s + to)) = 48 * s + ((A 17 (5 * s + to) - 1 - A 4 s).toNat : Nat) := by unfold md_cell; rw [if_pos (by omega)]; omega
            rw [x0, x1, x2, x3, cl_cp_0 hc2, hcl]
            exact hL.2.2 _ (by omega)
          · rw [e7] at h1
            have hb : ¬ md_last A s < A 17 (5 * s + to) + 1 := by
              intro hbb
              by_cases hb2 : md_last A s < A 17 (5 * s + to) - 1 + 1
              · rw [if_pos hb2] at hc; omega
              · rw [if_neg hb2, if_pos (by omega)] at hc; omega
            have hc2 : c = 2 := by
              rw [if_neg (by omega), if_neg (by omega)] at hc
              omega
            subst hc2
            obtain ⟨x0, x1, x2, x3⟩ := md_ents_e1 (A := A) (B := md_u (md_u (md_hd A s to 4) 29 4 (A 17 (5 * s + to) - 1)) 29 5 (md_termAt A s (A 17 (5 * s + to) - 1))) hb
            have hcl : md_cell A s (A 17 (5 * s + to) + 1) = 48 * s + ((A 17 (5 * s + to) - 1 - A 4 s).toNat + 1 : Nat) := by unfold md_cell; rw [if_pos (by omega)]; omega
            rw [x0, x1, x2, x3, cl_cp_1, hcl]
            exact hL.2.2 _ (by omega)
          · exfalso
            rw [md_ents_v (by decide) (by decide) (by decide)] at hk6
            simp [md_u, w0] at hk6
        · rw [cl_uI _ _ _ (by omega), cl_uI _ _ _ (by omega), cl_uI _ _ _ (by omega), cl_uI _ _ _ (by omega), cl_uI _ _ _ (by omega), cm_s_o hxw (by omega) (by omega)]
      · exact absurd z3 (by omega)
    · exact absurd z2 (by omega)
  · refine qx_iconst C d_Q_sendTo_23 (v := iI (1)) rfl ?_
    refine qx_goto C d_Q_sendTo_24 (tgt := 28) (by decide) ?_
    refine nx_istore C d_Q_sendTo_28 (Nat.le_of_ble_eq_true rfl) (lo' := [_, _, _, _, some (.int _), _]) rfl ?_
    refine qx_aload_n C d_Q_sendTo_30 rfl rfl ?_
    refine qx_get C d_Q_sendTo_31 fl_Q_35 (ch_Q J) rfl ?_
    refine qx_iload C d_Q_sendTo_34 rfl ?_
    refine nx_if_eq C 44 d_Q_sendTo_36 (by decide) (by omega) (fun z2 => ?_) (fun z2 => ?_)
    · exact absurd z2 (by omega)
    · refine qx_bipush C d_Q_sendTo_39 (v := iI (6)) (by decide) ?_
      refine qx_goto C d_Q_sendTo_41 (tgt := 45) (by decide) ?_
      refine qx_aload_n C d_Q_sendTo_45 rfl rfl ?_
      refine qx_get C d_Q_sendTo_46 fl_Q_55 (ch_S J hs) rfl ?_
      refine qx_iload_n C d_Q_sendTo_49 rfl rfl ?_
      refine qx_aload_n C d_Q_sendTo_50 rfl rfl ?_
      refine qx_get C d_Q_sendTo_51 fl_Q_61 (ch_S J hs) rfl ?_
      rw [hS.1.2.2.1]
      refine nx_callq C (s_Q_sendTo_54 (ch_W J)) (c_send l G b J hwn (by omega) hx n2 d) w_W_send rfl rfl (Nat.le_of_ble_eq_true rfl) (by omega) (by decide) ?_
      show X _ _ (.ref (ad (100 + x)) :: []) _ _ _
      refine nx_astore C d_Q_sendTo_57 (Nat.le_of_ble_eq_true rfl) (lo' := [_, _, _, _, _, some (.ref _)]) rfl ?_
      refine qx_aload C d_Q_sendTo_59 rfl ?_
      refine qx_aload_n C d_Q_sendTo_61 rfl rfl ?_
      refine qx_get C d_Q_sendTo_62 fl_Q_147 (ch_S J hs) rfl ?_
      have q10 : cm_s I m 6 s to (A 2 s) (10 + s) = I (10 + s) := cm_s_o hxw (by omega) (by omega)
      rw [q10, hS.1.2.2.2.2.2.2.1]
      refine cx_pM C J n2 d_Q_sendTo_65 fp_Q_219 (by decide) ?_
      refine qx_iload C d_Q_sendTo_68 rfl ?_
      refine nx_if_eq C 103 d_Q_sendTo_70 (by decide) (by omega) (fun z3 => ?_) (fun z3 => ?_)
      · exact absurd z3 (by omega)
      · refine qx_aload C d_Q_sendTo_73 rfl ?_
        refine qx_aload_n C d_Q_sendTo_75 rfl rfl ?_
        refine qx_get C d_Q_sendTo_76 fl_Q_85 (ch_S J hs) rfl ?_
        refine qx_get C d_Q_sendTo_79 fl_Q_170 (ch_L J hs) rfl ?_
        refine cx_nM C J n2 d_Q_sendTo_82 fp_Q_293 ?_
        refine qx_aload C d_Q_sendTo_85 rfl ?_
        refine qx_aload_n C d_Q_sendTo_87 rfl rfl ?_
        refine qx_get C d_Q_sendTo_88 fl_Q_85 (ch_S J hs) rfl ?_
        refine qx_get C d_Q_sendTo_91 fl_Q_170 (ch_L J hs) rfl ?_
        rw [va_up_o N _ (show 20 + s ≠ 100 + x by omega)]
        obtain ⟨vb, hsb⟩ := cr_N_at J hN (md_u (cm_s I m 6 s to (A 2 s)) (100 + x) 9 (A 20 s)) m E (va_up N (100 + x) (N (20 + s)))
        refine qx_get C d_Q_sendTo_94 fl_Q_174 hsb rfl ?_
        refine cx_pM C J n2 d_Q_sendTo_97 fp_Q_213 (by decide) ?_
        refine qx_goto C d_Q_sendTo_100 (tgt := 149) (by decide) ?_
        have es : md_sendTo A s to = md_inst A s to := by unfold md_sendTo; rw [if_pos (by omega)]
        refine qx_vret C d_Q_sendTo_149 (Nat.zero_le _) (Nat.zero_le _) ⟨rfl, g, _, E, _, rfl, cr_g.rf g, ?_, ?_, rfl, va_up_o N _ (by omega)⟩
        rw [es]
        refine cr.post h hw.2 hx ?_ ?_ ?_ (fun _ _ => rfl) (fun j hj => va_up_o N _ hj) ?_
        · intro k hk
          funext i
          rw [md_wk hk, md_uk hk, md_uk hk, md_uk hk, md_hd_k hk]
        · intro j h1 h2
          rw [cl_uI _ _ _ h1, cl_uI _ _ _ h1, cm_s_o hxw h1 h2]
        · rw [md_uk (by omega), md_uk (by omega), cm_s_2, hI2]
        · obtain ⟨v1, v2, v3, v4, v5, v6, v7, v8, v9, v10⟩ := cm_b_v (I := I) (kind := 6) (fr := s) (to := to) (t := A 2 s) x
          obtain ⟨w0, w1, w2, w3, w6, w7, w8, w9⟩ := md_hd_v A s to 6
          refine ⟨⟨?_, ?_, ?_, ?_, ?_, ?_, ?_, ?_⟩, fun hk => ?_, fun hk => ?_, fun _ => ?_⟩
          · rw [md_wo (by decide)]; simp [md_u, cm_s_x hxw, v1, w0]
          · rw [md_wo (by decide)]; simp [md_u, cm_s_x hxw, v2, w1]
          · rw [md_wo (by decide)]; simp [md_u, cm_s_x hxw, v3, w2]
          · rw [md_wo (by decide)]; simp [md_u, cm_s_x hxw, v4, w3]
          · rw [md_wo (by decide)]; simp [md_u]
          · rw [md_wo (by decide)]; simp [md_u, cm_s_x hxw, v7, w7]
          · rw [md_wo (by decide)]; simp [md_u, w9]
          · rw [md_wo (by decide)]; simp [md_u, cm_s_x hxw, v10, w6]
          · exfalso
            rw [md_wo (by decide)] at hk
            simp [md_u, w0] at hk
          · exfalso
            rw [md_wo (by decide)] at hk
            simp [md_u, w0] at hk
          · rw [md_wo (by decide), md_wo (by decide), md_wo (by decide), va_up_self]
            have y4 : md_u (md_u (md_u (md_hd A s to 6) 29 4 (A 4 s)) 29 5 (A 5 s)) 29 10 (A 6 s) 29 4 = A 4 s := by simp [md_u]
            have y5 : md_u (md_u (md_u (md_hd A s to 6) 29 4 (A 4 s)) 29 5 (A 5 s)) 29 10 (A 6 s) 29 5 = A 5 s := by simp [md_u]
            have y10 : md_u (md_u (md_u (md_hd A s to 6) 29 4 (A 4 s)) 29 5 (A 5 s)) 29 10 (A 6 s) 29 10 = A 6 s := by simp [md_u]
            rw [y4, y5, y10]
            refine hN.cg (fun k h0 h4 => ?_)
            rw [md_wi (by omega)]
            congr 1
            omega
        · rw [cl_uI _ _ _ (by omega), cl_uI _ _ _ (by omega), cm_s_o hxw (by omega) (by omega)]
