/-! the class: message and state -/
set_option maxRecDepth 100000 in
theorem c_message (l : Launch) (G : qh_G) (b : Nat) {ad : Nat → Nat} {iv : Nat → Option Nat} (J : cl_I ad iv) {g : qh_H} {I : md_A} {m : Nat → Nat} {E : cl_E} {N : Nat → Nat} {A : md_A} (h : cr G iv g I m E N A) (hv : md_V A) {k w : Int} (hk : rng k) (hw : rng w) (h6 : 0 ≤ k → k < A 27 0 → A 28 (20 * k + 6) = 0 ∨ A 28 (20 * k + 6) = 1) (d : Nat) : qj l y_Q_message c_Q_message 4 (some .int) (d + 1) 0 0 G b [.ref (ad 0), .int (iI k), .int (iI w)] (ch G ad iv g I m E N) (md_msg A k w) (ch G ad iv g I m E N) := by
  have hI2 := h.2.2.1
  refine qx_of (lo := [some (.ref (ad 0)), some (.int (iI k)), some (.int (iI w)), none]) (by decide) (fun w hw => List.mem_cons_of_mem _ hw) rfl (Nat.le_of_ble_eq_true rfl) rfl ?_
  intro X C
  refine qx_aload_n C d_Q_message_0 rfl rfl ?_
  refine qx_get C d_Q_message_1 fl_Q_35 (ch_Q J) rfl ?_
  refine qx_iload_n C d_Q_message_4 rfl rfl ?_
  refine nx_call0 C (s_Q_message_5 (ch_W J)) (c_wholds l G b J hI2 (by omega) hk d) w_W_holds rfl rfl (Nat.le_of_ble_eq_true rfl) (by omega) (by decide) ?_
  by_cases hc : 0 ≤ k ∧ k < A 27 0
  · rw [if_pos hc]
    have h6' := h6 hc.1 hc.2
    obtain ⟨kn, rfl⟩ := Int.eq_ofNat_of_zero_le hc.1
    have hy : m kn < 50 := h.2.2.2.1.1 kn (by omega)
    have hM := h.2.2.2.2.1 kn hc.2
    generalize hyy : m kn = y at hy hM
    have m0 : I (100 + y) 1 = A 28 (20 * kn) := hM.1.1.trans (by show A 28 (20 * kn + 0) = _; rw [Int.add_zero])
    have m10 : I (100 + y) 10 = A 28 (20 * kn + 6) := hM.1.2.2.2.2.2.2.2
    have hms : 0 ≤ w → w ≤ 6 → md_msg A kn w = if w < 5 then A 28 (20 * kn + w) else if w = 6 then A 28 (20 * kn + 9) else if A 28 (20 * kn) = 4 then A 28 (20 * kn + 7) else A 28 (20 * kn + 6) := fun w0 w6 => by
      unfold md_msg
      rw [if_neg (by omega)]
    refine nx_if_ne C 13 d_Q_message_8 (by decide) (by omega) (fun z1 => ?_) (fun z1 => ?_)
    · refine qx_aload_n C d_Q_message_13 rfl rfl ?_
      refine qx_get C d_Q_message_14 fl_Q_35 (ch_Q J) rfl ?_
      refine qx_get C d_Q_message_17 fl_Q_205 (ch_W J) rfl ?_
      refine qx_iload_n C d_Q_message_20 rfl rfl ?_
      refine cx_pl C J d_Q_message_21 rfl (by omega) ?_
      rw [hyy]
      refine nx_astore_n C d_Q_message_22 rfl (Nat.le_of_ble_eq_true rfl) (lo' := [_, _, _, some (.ref _)]) rfl ?_
      refine qx_iload_n C d_Q_message_23 rfl rfl ?_
      by_cases w0 : w = 0
      · subst w0
        refine qx_tabIn C d_Q_message_24 (off := 44) (tgt := 68) (by decide) (by decide) (by decide) (by decide) ?_
        refine qx_aload_n C d_Q_message_68 rfl rfl ?_
        refine qx_get C d_Q_message_69 fl_Q_201 (ch_M J hy) rfl ?_
        rw [m0]
        refine qx_iret C d_Q_message_72 (Nat.zero_le _) (Nat.zero_le _) ⟨_, rfl, ?_, rfl⟩
        rw [hms (by decide) (by decide), if_pos (by decide), Int.add_zero]
      by_cases w1 : w = 1
      · subst w1
        refine qx_tabIn C d_Q_message_24 (off := 49) (tgt := 73) (by decide) (by decide) (by decide) (by decide) ?_
        refine qx_aload_n C d_Q_message_73 rfl rfl ?_
        refine qx_get C d_Q_message_74 fl_Q_209 (ch_M J hy) rfl ?_
        rw [hM.1.2.1]
        refine qx_iret C d_Q_message_77 (Nat.zero_le _) (Nat.zero_le _) ⟨_, rfl, ?_, rfl⟩
        rw [hms (by decide) (by decide), if_pos (by decide)]
      by_cases w2 : w = 2
      · subst w2
        refine qx_tabIn C d_Q_message_24 (off := 54) (tgt := 78) (by decide) (by decide) (by decide) (by decide) ?_
        refine qx_aload_n C d_Q_message_78 rfl rfl ?_
        refine qx_get C d_Q_message_79 fl_Q_192 (ch_M J hy) rfl ?_
        rw [hM.1.2.2.1]
        refine qx_iret C d_Q_message_82 (Nat.zero_le _) (Nat.zero_le _) ⟨_, rfl, ?_, rfl⟩
        rw [hms (by decide) (by decide), if_pos (by decide)]
      by_cases w3 : w = 3
      · subst w3
        refine qx_tabIn C d_Q_message_24 (off := 59) (tgt := 83) (by decide) (by decide) (by decide) (by decide) ?_
        refine qx_aload_n C d_Q_message_83 rfl rfl ?_
        refine qx_get C d_Q_message_84 fl_Q_212 (ch_M J hy) rfl ?_
        rw [hM.1.2.2.2.1]
        refine qx_iret C d_Q_message_87 (Nat.zero_le _) (Nat.zero_le _) ⟨_, rfl, ?_, rfl⟩
        rw [hms (by decide) (by decide), if_pos (by decide)]
      by_cases w4 : w = 4
      · subst w4
        refine qx_tabIn C d_Q_message_24 (off := 64) (tgt := 88) (by decide) (by decide) (by decide) (by decide) ?_
        refine qx_aload_n C d_Q_message_88 rfl rfl ?_
        refine qx_get C d_Q_message_89 fl_Q_213 (ch_M J hy) rfl ?_
        rw [hM.1.2.2.2.2.1]
        refine qx_iret C d_Q_message_92 (Nat.zero_le _) (Nat.zero_le _) ⟨_, rfl, ?_, rfl⟩
        rw [hms (by decide) (by decide), if_pos (by decide)]
      by_cases w5 : w = 5
      · subst w5
        have r0 := hv.1.1 28 (20 * kn)
        refine qx_tabIn C d_Q_message_24 (off := 69) (tgt := 93) (by decide) (by decide) (by decide) (by decide) ?_
        refine qx_aload_n C d_Q_message_93 rfl rfl ?_
        refine qx_get C d_Q_message_94 fl_Q_201 (ch_M J hy) rfl ?_
        rw [m0]
        refine qx_iconst C d_Q_message_97 (v := iI (4)) rfl ?_
        refine nx_icmp_ne C 108 d_Q_message_98 (by decide) (by omega) (by omega) (fun z2 => ?_) (fun z2 => ?_)
        · refine qx_aload_n C d_Q_message_108 rfl rfl ?_
          refine qx_get C d_Q_message_109 fl_Q_217 (ch_M J hy) rfl ?_
          rw [m10]
          refine nx_if_eq C 119 d_Q_message_112 (by decide) (by omega) (fun z3 => ?_) (fun z3 => ?_)
          · refine qx_iconst C d_Q_message_119 (v := iI (0)) rfl ?_
            refine qx_iret C d_Q_message_120 (Nat.zero_le _) (Nat.zero_le _) ⟨_, rfl, ?_, rfl⟩
            rw [hms (by decide) (by decide), if_neg (by decide), if_neg (by decide), if_neg z2, z3]
          · refine qx_iconst C d_Q_message_115 (v := iI (1)) rfl ?_
            refine qx_goto C d_Q_message_116 (tgt := 120) (by decide) ?_
            refine qx_iret C d_Q_message_120 (Nat.zero_le _) (Nat.zero_le _) ⟨_, rfl, ?_, rfl⟩
            rw [hms (by decide) (by decide), if_neg (by decide), if_neg (by decide), if_neg z2, show A 28 (20 * kn + 6) = 1 by omega]
        · refine qx_aload_n C d_Q_message_101 rfl rfl ?_
          refine qx_get C d_Q_message_102 fl_Q_214 (ch_M J hy) rfl ?_
          rw [hM.1.2.2.2.2.2.1]
          refine qx_goto C d_Q_message_105 (tgt := 120) (by decide) ?_
          refine qx_iret C d_Q_message_120 (Nat.zero_le _) (Nat.zero_le _) ⟨_, rfl, ?_, rfl⟩
          rw [hms (by decide) (by decide), if_neg (by decide), if_neg (by decide), if_pos z2]
      by_cases w6 : w = 6
      · subst w6
        refine qx_tabIn C d_Q_message_24 (off := 97) (tgt := 121) (by decide) (by decide) (by decide) (by decide) ?_
        refine qx_aload_n C d_Q_message_121 rfl rfl ?_
        refine qx_get C d_Q_message_122 fl_Q_219 (ch_M J hy) rfl ?_
        rw [hM.1.2.2.2.2.2.2.1]
        refine qx_iret C d_Q_message_125 (Nat.zero_le _) (Nat.zero_le _) ⟨_, rfl, ?_, rfl⟩
        rw [hms (by decide) (by decide), if_neg (by decide), if_pos rfl]
      refine qx_tabOut C d_Q_message_24 (tgt := 126) (by rw [iI_toInt (by omega)]; omega) (by decide) ?_
      refine qx_iconst C d_Q_message_126 (v := iI (-1)) rfl ?_
      refine qx_iret C d_Q_message_127 (Nat.zero_le _) (Nat.zero_le _) ⟨_, rfl, ?_, rfl⟩
      unfold md_msg
      rw [if_pos (by omega)]
    · exact absurd z1 (by omega)
  · rw [if_neg hc]
    refine nx_if_ne C 13 d_Q_message_8 (by decide) (by omega) (fun z1 => ?_) (fun z1 => ?_)
    · exact absurd z1 (by omega)
    · refine qx_iconst C d_Q_message_11 (v := iI (-1)) rfl ?_
      refine qx_iret C d_Q_message_12 (Nat.zero_le _) (Nat.zero_le _) ⟨_, rfl, ?_, rfl⟩
      unfold md_msg
      rw [if_pos (by omega)]
set_option maxRecDepth 100000 in
theorem c_state (l : Launch) (G : qh_G) (b : Nat) {ad : Nat → Nat} {iv : Nat → Option Nat} (J : cl_I ad iv) {g : qh_H} {I : md_A} {m : Nat → Nat} {E : cl_E} {N : Nat → Nat} {A : md_A} (h : cr G iv g I m E N A) (hS : md_S A) {x w : Int} (hx : rng x) (hw : rng w) (d : Nat) : qj l y_Q_state c_Q_state 4 (some .int) (d + 3) 0 0 G b [.ref (ad 0), .int (iI x), .int (iI w)] (ch G ad iv g I m E N) (md_stt A x w) (ch G ad iv g I m E N) := by
  obtain ⟨hv, hSs⟩ := hS
  refine qx_of (lo := [some (.ref (ad 0)), some (.int (iI x)), some (.int (iI w)), none]) (by decide) (fun w hw => List.mem_cons_of_mem _ hw) rfl (Nat.le_of_ble_eq_true rfl) rfl ?_
  intro X C
  refine qx_iload_n C d_Q_state_0 rfl rfl ?_
  refine nx_call0 C s_Q_state_1 (c_isServer l G b _ hx d) w_Q_isServer rfl rfl (Nat.le_of_ble_eq_true rfl) (by omega) (by decide) ?_
  by_cases h5 : 0 ≤ x ∧ x < 5
  · rw [if_pos h5]
    obtain ⟨s, hs, rfl⟩ := k5_ex h5.1 h5.2
    obtain ⟨hT, -, h01, h15⟩ := hSs s hs
    have hL := h.2.1 s hs
    have hN := hL.2.1
    obtain ⟨va, hsn⟩ := cr_N_at J hN I m E N
    obtain ⟨⟨a1, a2, a3, a4, a5, a6, a7, a8⟩, -⟩ := h.1 s hs
    have he : md_stt A s w = if w = 0 then A 13 s else if w = 1 then A 2 s else if w = 2 then A 3 s else if w = 3 then A 14 s else if w = 4 then A 4 s else if w = 5 then md_last A s else if w = 6 then md_config A s else if w = 7 then (if A 15 s = 0 then 0 else 1) else if w = 8 then (if A 1 s = 0 then 1 else 0) else -1 := by
      unfold md_stt
      rw [if_neg (fun z => z h5)]
    rw [he] at C
    refine nx_if_ne C 9 d_Q_state_4 (by decide) (by omega) (fun z1 => ?_) (fun z1 => ?_)
    · refine qx_aload_n C d_Q_state_9 rfl rfl ?_
      refine qx_get C d_Q_state_10 fl_Q_11 (ch_Q J) rfl ?_
      refine qx_iload_n C d_Q_state_13 rfl rfl ?_
      refine cx_sv C J d_Q_state_14 rfl hs ?_
      refine nx_astore_n C d_Q_state_15 rfl (Nat.le_of_ble_eq_true rfl) (lo' := [_, _, _, some (.ref _)]) rfl ?_
      refine qx_iload_n C d_Q_state_16 rfl rfl ?_
      by_cases w0 : w = 0
      · subst w0
        refine qx_tabIn C d_Q_state_17 (off := 51) (tgt := 68) (by decide) (by decide) (by decide) (by decide) ?_
        refine qx_aload_n C d_Q_state_68 rfl rfl ?_
        refine qx_get C d_Q_state_69 fl_Q_51 (ch_S J hs) rfl ?_
        rw [a5]
        refine qx_iret C d_Q_state_72 (Nat.zero_le _) (Nat.zero_le _) ⟨_, rfl, ?_, rfl⟩
        rfl
      by_cases w1 : w = 1
      · subst w1
        refine qx_tabIn C d_Q_state_17 (off := 56) (tgt := 73) (by decide) (by decide) (by decide) (by decide) ?_
        refine qx_aload_n C d_Q_state_73 rfl rfl ?_
        refine qx_get C d_Q_state_74 fl_Q_61 (ch_S J hs) rfl ?_
        rw [a3]
        refine qx_iret C d_Q_state_77 (Nat.zero_le _) (Nat.zero_le _) ⟨_, rfl, ?_, rfl⟩
        rfl
      by_cases w2 : w = 2
      · subst w2
        refine qx_tabIn C d_Q_state_17 (off := 61) (tgt := 78) (by decide) (by decide) (by decide) (by decide) ?_
        refine qx_aload_n C d_Q_state_78 rfl rfl ?_
        refine qx_get C d_Q_state_79 fl_Q_220 (ch_S J hs) rfl ?_
        rw [a4]
        refine qx_iret C d_Q_state_82 (Nat.zero_le _) (Nat.zero_le _) ⟨_, rfl, ?_, rfl⟩
        rfl
      by_cases w3 : w = 3
      · subst w3
        refine qx_tabIn C d_Q_state_17 (off := 66) (tgt := 83) (by decide) (by decide) (by decide) (by decide) ?_
        refine qx_aload_n C d_Q_state_83 rfl rfl ?_
        refine qx_get C d_Q_state_84 fl_Q_133 (ch_S J hs) rfl ?_
        rw [a6]
        refine qx_iret C d_Q_state_87 (Nat.zero_le _) (Nat.zero_le _) ⟨_, rfl, ?_, rfl⟩
        rfl
      by_cases w4 : w = 4
      · subst w4
        refine qx_tabIn C d_Q_state_17 (off := 71) (tgt := 88) (by decide) (by decide) (by decide) (by decide) ?_
        refine qx_aload_n C d_Q_state_88 rfl rfl ?_
        refine qx_get C d_Q_state_89 fl_Q_85 (ch_S J hs) rfl ?_
        refine qx_get C d_Q_state_92 fl_Q_170 (ch_L J hs) rfl ?_
        refine qx_get C d_Q_state_95 fl_Q_174 hsn rfl ?_
        refine qx_iret C d_Q_state_98 (Nat.zero_le _) (Nat.zero_le _) ⟨_, rfl, ?_, rfl⟩
        rfl
      by_cases w5 : w = 5
      · subst w5
        refine qx_tabIn C d_Q_state_17 (off := 82) (tgt := 99) (by decide) (by decide) (by decide) (by decide) ?_
        refine qx_aload_n C d_Q_state_99 rfl rfl ?_
        refine qx_get C d_Q_state_100 fl_Q_85 (ch_S J hs) rfl ?_
        refine nx_call0 C (s_Q_state_103 (ch_L J hs)) (c_last l G b J hs hL hT.1 d) w_L_last rfl rfl (Nat.le_of_ble_eq_true rfl) (by omega) (by decide) ?_
        refine qx_iret C d_Q_state_106 (Nat.zero_le _) (Nat.zero_le _) ⟨_, rfl, ?_, rfl⟩
        rfl
      by_cases w6 : w = 6
      · subst w6
        refine qx_tabIn C d_Q_state_17 (off := 90) (tgt := 107) (by decide) (by decide) (by decide) (by decide) ?_
        refine qx_aload_n C d_Q_state_107 rfl rfl ?_
        refine qx_get C d_Q_state_108 fl_Q_85 (ch_S J hs) rfl ?_
        refine nx_call0 C (s_Q_state_111 (ch_L J hs)) (c_config l G b J hv.1.1 hs hL hT.1 d) w_L_configuration rfl rfl (Nat.le_of_ble_eq_true rfl) (by omega) (by decide) ?_
        refine qx_iret C d_Q_state_114 (Nat.zero_le _) (Nat.zero_le _) ⟨_, rfl, ?_, rfl⟩
        rfl
      by_cases w7 : w = 7
      · subst w7
        refine qx_tabIn C d_Q_state_17 (off := 98) (tgt := 115) (by decide) (by decide) (by decide) (by decide) ?_
        refine qx_aload_n C d_Q_state_115 rfl rfl ?_
        refine qx_get C d_Q_state_116 fl_Q_47 (ch_S J hs) rfl ?_
        rw [a2]
        refine nx_if_eq C 126 d_Q_state_119 (by decide) (by omega) (fun z2 => ?_) (fun z2 => ?_)
        · refine qx_iconst C d_Q_state_126 (v := iI (0)) rfl ?_
          refine qx_iret C d_Q_state_127 (Nat.zero_le _) (Nat.zero_le _) ⟨_, rfl, ?_, rfl⟩
          rw [if_neg w0, if_neg w1, if_neg w2, if_neg w3, if_neg w4, if_neg w5, if_neg w6, if_pos rfl, if_pos z2]
        · refine qx_iconst C d_Q_state_122 (v := iI (1)) rfl ?_
          refine qx_goto C d_Q_state_123 (tgt := 127) (by decide) ?_
          refine qx_iret C d_Q_state_127 (Nat.zero_le _) (Nat.zero_le _) ⟨_, rfl, ?_, rfl⟩
          rw [if_neg w0, if_neg w1, if_neg w2, if_neg w3, if_neg w4, if_neg w5, if_neg w6, if_pos rfl, if_neg z2]
      by_cases w8 : w = 8
      · subst w8
        refine qx_tabIn C d_Q_state_17 (off := 111) (tgt := 128) (by decide) (by decide) (by decide) (by decide) ?_
        refine qx_aload_n C d_Q_state_128 rfl rfl ?_
        refine qx_get C d_Q_state_129 fl_Q_167 (ch_S J hs) rfl ?_
        rw [a1]
        refine nx_if_eq C 139 d_Q_state_132 (by decide) (by omega) (fun z2 => ?_) (fun z2 => ?_)
        · refine qx_iconst C d_Q_state_139 (v := iI (0)) rfl ?_
          refine qx_iret C d_Q_state_140 (Nat.zero_le _) (Nat.zero_le _) ⟨_, rfl, ?_, rfl⟩
          rw [if_neg w0, if_neg w1, if_neg w2, if_neg w3, if_neg w4, if_neg w5, if_neg w6, if_neg w7, if_pos rfl, if_neg (by omega)]
        · refine qx_iconst C d_Q_state_135 (v := iI (1)) rfl ?_
          refine qx_goto C d_Q_state_136 (tgt := 140) (by decide) ?_
          refine qx_iret C d_Q_state_140 (Nat.zero_le _) (Nat.zero_le _) ⟨_, rfl, ?_, rfl⟩
          rw [if_neg w0, if_neg w1, if_neg w2, if_neg w3, if_neg w4, if_neg w5, if_neg w6, if_neg w7, if_pos rfl, if_pos (by omega)]
      refine qx_tabOut C d_Q_state_17 (tgt := 141) (by rw [iI_toInt (by omega)]; omega) (by decide) ?_
      refine qx_iconst C d_Q_state_141 (v := iI (-1)) rfl ?_
      refine qx_iret C d_Q_state_142 (Nat.zero_le _) (Nat.zero_le _) ⟨_, rfl, ?_, rfl⟩
      rw [if_neg w0, if_neg w1, if_neg w2, if_neg w3, if_neg w4, if_neg w5, if_neg w6, if_neg w7, if_neg w8]
    · exact absurd z1 (by omega)
  · rw [if_neg h5]
    refine nx_if_ne C 9 d_Q_state_4 (by decide) (by omega) (fun z1 => ?_) (fun z1 => ?_)
    · exact absurd z1 (by omega)
    · refine qx_iconst C d_Q_state_7 (v := iI (-1)) rfl ?_
      refine qx_iret C d_Q_state_8 (Nat.zero_le _) (Nat.zero_le _) ⟨_, rfl, ?_, rfl⟩
      unfold md_stt
      rw [if_pos h5]
