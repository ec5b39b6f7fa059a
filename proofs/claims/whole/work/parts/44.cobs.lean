/-! the class: what it tells -/
theorem iI_wrap (a : Int) : iI a = iI (a + 4294967296) := by
  apply Int32.toBitVec_inj.1
  show BitVec.ofInt 32 a = BitVec.ofInt 32 (a + 4294967296)
  apply BitVec.eq_of_toInt_eq
  simp [BitVec.toInt_ofInt]
  simp [Int.bmod]
set_option maxRecDepth 100000 in
theorem c_findR (l : Launch) (G : qh_G) (b : Nat) {ad : Nat → Nat} {iv : Nat → Option Nat} (J : cl_I ad iv) {g : qh_H} {I : md_A} {m : Nat → Nat} {E : cl_E} {N : Nat → Nat} {A : md_A} {s : Nat} (hs : s < 5) (hL : cr_L G iv g I E N A s) (hB : md_B A s) {i : Int} (hi : rng i) {r : Option Nat} (hr : r = if A 4 s < i ∧ i ≤ md_last A s then E (30 + s) (i - A 4 s - 1).toNat else none) (d : Nat) : qq l y_L_find c_L_find 3 (some (.object "QuorumLog$Entry")) d 0 0 G b [.ref (ad (20 + s)), .int (iI i)] (ch G ad iv g I m E N) r (ch G ad iv g I m E N) := by
  have hl : md_last A s = A 4 s + A 8 s := rfl
  obtain ⟨hct, hN, hE⟩ := hL
  obtain ⟨va, -, hsn, hva⟩ := cr_hsn (I := I) (m := m) (E := E) (N := N) J hN
  refine qx_of (lo := [some (.ref (ad (20 + s))), some (.int (iI i)), none]) (by decide) (fun w hw => List.mem_cons_of_mem _ hw) rfl (Nat.le_of_ble_eq_true rfl) rfl ?_
  intro X C
  refine qx_iload_n C d_L_find_0 rfl rfl ?_
  refine qx_aload_n C d_L_find_1 rfl rfl ?_
  refine qx_get C d_L_find_2 fl_L_17 (ch_L J hs) rfl ?_
  refine qx_get C d_L_find_5 fl_L_21 hsn rfl ?_
  refine nx_isub C d_L_find_8 ?_
  refine qx_iconst C d_L_find_9 (v := iI (1)) rfl ?_
  refine nx_isub C d_L_find_10 ?_
  refine nx_istore_n C d_L_find_11 rfl (Nat.le_of_ble_eq_true rfl) (lo' := [_, _, some (.int _)]) rfl ?_
  refine qx_iload_n C d_L_find_12 rfl rfl ?_
  by_cases hlo : -2147483648 ≤ i - A 4 s - 1
  · refine nx_if_lt C 33 d_L_find_13 (by decide) (by omega) (fun z1 => ?_) (fun z1 => ?_)
    · refine qx_null C d_L_find_33 ?_
      rw [if_neg (by omega)] at hr
      exact qx_aret C d_L_find_34 (Or.inl rfl) (Nat.zero_le _) (Nat.zero_le _) ⟨none, rfl, hr.symm, rfl⟩
    · refine qx_iload_n C d_L_find_16 rfl rfl ?_
      refine qx_aload_n C d_L_find_17 rfl rfl ?_
      refine qx_get C d_L_find_18 fl_L_27 (ch_L J hs) rfl ?_
      rw [hct]
      refine nx_icmp_ge C 33 d_L_find_21 (by decide) (by omega) (by omega) (fun z2 => ?_) (fun z2 => ?_)
      · refine qx_null C d_L_find_33 ?_
        rw [if_neg (by omega)] at hr
        exact qx_aret C d_L_find_34 (Or.inl rfl) (Nat.zero_le _) (Nat.zero_le _) ⟨none, rfl, hr.symm, rfl⟩
      · rw [if_pos (by omega)] at hr
        obtain ⟨a, ha, hae⟩ := cr_he (G := G) (I := I) (m := m) (E := E) (N := N) J (hE (i - A 4 s - 1).toNat (by omega))
        refine qx_aload_n C d_L_find_24 rfl rfl ?_
        refine qx_get C d_L_find_25 fl_L_11 (ch_L J hs) rfl ?_
        refine qx_iload_n C d_L_find_28 rfl rfl ?_
        refine cx_el C J hs d_L_find_29 (by omega) (by omega) ha ?_
        refine qx_goto C d_L_find_30 (tgt := 34) (by decide) ?_
        exact qx_aret C d_L_find_34 (Or.inr ⟨_, rfl⟩) (Nat.zero_le _) (Nat.zero_le _) ⟨some a, rfl, by rw [hr, ha], rfl⟩
  · rw [iI_wrap (i - A 4 s - 1)]
    rw [if_neg (by omega)] at hr
    refine nx_if_lt C 33 d_L_find_13 (by decide) (by omega) (fun z1 => ?_) (fun z1 => ?_)
    · exact absurd z1 (by omega)
    · refine qx_iload_n C d_L_find_16 rfl rfl ?_
      refine qx_aload_n C d_L_find_17 rfl rfl ?_
      refine qx_get C d_L_find_18 fl_L_27 (ch_L J hs) rfl ?_
      rw [hct]
      refine nx_icmp_ge C 33 d_L_find_21 (by decide) (by omega) (by omega) (fun z2 => ?_) (fun z2 => ?_)
      · refine qx_null C d_L_find_33 ?_
        exact qx_aret C d_L_find_34 (Or.inl rfl) (Nat.zero_le _) (Nat.zero_le _) ⟨none, rfl, hr.symm, rfl⟩
      · exact absurd z2 (by omega)
set_option maxRecDepth 100000 in
theorem c_outcome (l : Launch) (G : qh_G) (b : Nat) {ad : Nat → Nat} {iv : Nat → Option Nat} (J : cl_I ad iv) {g : qh_H} {I : md_A} {m : Nat → Nat} {E : cl_E} {N : Nat → Nat} {A : md_A} (h : cr G iv g I m E N A) (hv : md_V A) {x : Int} (hx : rng x) (d : Nat) : qj l y_Q_outcome c_Q_outcome 2 (some .int) (d + 1) 0 0 G b [.ref (ad 0), .int (iI x)] (ch G ad iv g I m E N) (if 0 ≤ x ∧ x < A 21 0 then A 25 x else -1) (ch G ad iv g I m E N) := by
  have hR := h.2.2.2.2.2
  refine qx_of (lo := [some (.ref (ad 0)), some (.int (iI x))]) (by decide) (fun w hw => List.mem_cons_of_mem _ hw) rfl (Nat.le_of_ble_eq_true rfl) rfl ?_
  intro X C
  refine qx_aload_n C d_Q_outcome_0 rfl rfl ?_
  refine qx_get C d_Q_outcome_1 fl_Q_18 (ch_Q J) rfl ?_
  refine qx_iload_n C d_Q_outcome_4 rfl rfl ?_
  refine nx_call0 C (s_Q_outcome_5 (ch_R J)) (c_rholds l G b J hR.1 (by omega) hx d) w_R_holds rfl rfl (Nat.le_of_ble_eq_true rfl) (by omega) (by decide) ?_
  by_cases hc : 0 ≤ x ∧ x < A 21 0
  · rw [if_pos hc]
    refine nx_if_eq C 23 d_Q_outcome_8 (by decide) (by omega) (fun z1 => ?_) (fun z1 => ?_)
    · exact absurd z1 (by omega)
    · refine qx_aload_n C d_Q_outcome_11 rfl rfl ?_
      refine qx_get C d_Q_outcome_12 fl_Q_18 (ch_Q J) rfl ?_
      refine qx_get C d_Q_outcome_15 fl_Q_160 (ch_R J) rfl ?_
      refine qx_iload_n C d_Q_outcome_18 rfl rfl ?_
      refine cx_ir C J d_Q_outcome_19 (by omega) (by omega) (by omega) ?_
      rw [(hR.2 x (by omega) (by omega)).2.2.2.1]
      refine qx_goto C d_Q_outcome_20 (tgt := 24) (by decide) ?_
      refine qx_iret C d_Q_outcome_24 (Nat.zero_le _) (Nat.zero_le _) ⟨_, rfl, ?_, rfl⟩
      rw [if_pos hc]
  · rw [if_neg hc]
    refine nx_if_eq C 23 d_Q_outcome_8 (by decide) (by omega) (fun z1 => ?_) (fun z1 => ?_)
    · refine qx_iconst C d_Q_outcome_23 (v := iI (-1)) rfl ?_
      refine qx_iret C d_Q_outcome_24 (Nat.zero_le _) (Nat.zero_le _) ⟨_, rfl, ?_, rfl⟩
      rw [if_neg hc]
    · exact absurd z1 (by omega)
set_option maxRecDepth 100000 in
theorem c_value (l : Launch) (G : qh_G) (b : Nat) {ad : Nat → Nat} {iv : Nat → Option Nat} (J : cl_I ad iv) {g : qh_H} {I : md_A} {m : Nat → Nat} {E : cl_E} {N : Nat → Nat} {A : md_A} (h : cr G iv g I m E N A) (hv : md_V A) {x : Int} (hx : rng x) (d : Nat) : qj l y_Q_value c_Q_value 2 (some .int) (d + 1) 0 0 G b [.ref (ad 0), .int (iI x)] (ch G ad iv g I m E N) (if 0 ≤ x ∧ x < A 21 0 then A 26 x else 0) (ch G ad iv g I m E N) := by
  have hR := h.2.2.2.2.2
  refine qx_of (lo := [some (.ref (ad 0)), some (.int (iI x))]) (by decide) (fun w hw => List.mem_cons_of_mem _ hw) rfl (Nat.le_of_ble_eq_true rfl) rfl ?_
  intro X C
  refine qx_aload_n C d_Q_value_0 rfl rfl ?_
  refine qx_get C d_Q_value_1 fl_Q_18 (ch_Q J) rfl ?_
  refine qx_iload_n C d_Q_value_4 rfl rfl ?_
  refine nx_call0 C (s_Q_value_5 (ch_R J)) (c_rholds l G b J hR.1 (by omega) hx d) w_R_holds rfl rfl (Nat.le_of_ble_eq_true rfl) (by omega) (by decide) ?_
  by_cases hc : 0 ≤ x ∧ x < A 21 0
  · rw [if_pos hc]
    refine nx_if_eq C 23 d_Q_value_8 (by decide) (by omega) (fun z1 => ?_) (fun z1 => ?_)
    · exact absurd z1 (by omega)
    · refine qx_aload_n C d_Q_value_11 rfl rfl ?_
      refine qx_get C d_Q_value_12 fl_Q_18 (ch_Q J) rfl ?_
      refine qx_get C d_Q_value_15 fl_Q_164 (ch_R J) rfl ?_
      refine qx_iload_n C d_Q_value_18 rfl rfl ?_
      refine cx_ir C J d_Q_value_19 (by omega) (by omega) (by omega) ?_
      rw [(hR.2 x (by omega) (by omega)).2.2.2.2]
      refine qx_goto C d_Q_value_20 (tgt := 24) (by decide) ?_
      refine qx_iret C d_Q_value_24 (Nat.zero_le _) (Nat.zero_le _) ⟨_, rfl, ?_, rfl⟩
      rw [if_pos hc]
  · rw [if_neg hc]
    refine nx_if_eq C 23 d_Q_value_8 (by decide) (by omega) (fun z1 => ?_) (fun z1 => ?_)
    · refine qx_iconst C d_Q_value_23 (v := iI (0)) rfl ?_
      refine qx_iret C d_Q_value_24 (Nat.zero_le _) (Nat.zero_le _) ⟨_, rfl, ?_, rfl⟩
      rw [if_neg hc]
    · exact absurd z1 (by omega)
theorem c_waiting (l : Launch) (G : qh_G) (b : Nat) {ad : Nat → Nat} {iv : Nat → Option Nat} (J : cl_I ad iv) {g : qh_H} {I : md_A} {m : Nat → Nat} {E : cl_E} {N : Nat → Nat} {A : md_A} (h : cr G iv g I m E N A) (d : Nat) : qj l y_Q_waiting c_Q_waiting 1 (some .int) d 0 0 G b [.ref (ad 0)] (ch G ad iv g I m E N) (A 27 0) (ch G ad iv g I m E N) := by
  refine qx_of (lo := [some (.ref (ad 0))]) (by decide) (fun w hw => List.mem_cons_of_mem _ hw) rfl (Nat.le_of_ble_eq_true rfl) rfl ?_
  intro X C
  refine qx_aload_n C d_Q_waiting_0 rfl rfl ?_
  refine qx_get C d_Q_waiting_1 fl_Q_35 (ch_Q J) rfl ?_
  refine qx_get C d_Q_waiting_4 fl_Q_204 (ch_W J) rfl ?_
  rw [h.2.2.1]
  refine qx_iret C d_Q_waiting_7 (Nat.zero_le _) (Nat.zero_le _) ⟨_, rfl, ?_, rfl⟩
  rfl
set_option maxRecDepth 100000 in
theorem c_stored' (l : Launch) (G : qh_G) (b : Nat) {ad : Nat → Nat} {iv : Nat → Option Nat} (J : cl_I ad iv) {g : qh_H} {I : md_A} {m : Nat → Nat} {E : cl_E} {N : Nat → Nat} {A : md_A} (h : cr G iv g I m E N A) (hS : md_S A) {x key : Int} (hx : rng x) (hk : rng key) (d : Nat) : qj l y_Q_stored c_Q_stored 3 (some .int) (d + 3) 0 0 G b [.ref (ad 0), .int (iI x), .int (iI key)] (ch G ad iv g I m E N) (md_stored A x key) (ch G ad iv g I m E N) := by
  obtain ⟨hv, hSs⟩ := hS
  refine qx_of (lo := [some (.ref (ad 0)), some (.int (iI x)), some (.int (iI key))]) (by decide) (fun w hw => List.mem_cons_of_mem _ hw) rfl (Nat.le_of_ble_eq_true rfl) rfl ?_
  intro X C
  have No : ¬ ((0 ≤ x ∧ x < 5) ∧ 0 ≤ key ∧ key < 4) → X 14 [some (.ref (ad 0)), some (.int (iI x)), some (.int (iI key))] [] (ch G ad iv g I m E N) 0 0 := by
    intro hc
    refine qx_iconst C d_Q_stored_14 (v := iI (0)) rfl ?_
    refine qx_iret C d_Q_stored_15 (Nat.zero_le _) (Nat.zero_le _) ⟨_, rfl, ?_, rfl⟩
    unfold md_stored
    rw [if_neg hc]
  refine qx_iload_n C d_Q_stored_0 rfl rfl ?_
  refine nx_call0 C s_Q_stored_1 (c_isServer l G b _ hx d) w_Q_isServer rfl rfl (Nat.le_of_ble_eq_true rfl) (by omega) (by decide) ?_
  by_cases h5 : 0 ≤ x ∧ x < 5
  · rw [if_pos h5]
    refine nx_if_eq C 14 d_Q_stored_4 (by decide) (by omega) (fun z1 => ?_) (fun z1 => ?_)
    · exact absurd z1 (by omega)
    · refine qx_iload_n C d_Q_stored_7 rfl rfl ?_
      refine nx_call0 C s_Q_stored_8 (c_isKey l G b _ hk d) w_Q_isKey rfl rfl (Nat.le_of_ble_eq_true rfl) (by omega) (by decide) ?_
      by_cases h4 : 0 ≤ key ∧ key < 4
      · rw [if_pos h4]
        obtain ⟨s, hs, rfl⟩ := k5_ex h5.1 h5.2
        obtain ⟨hT, -, -, -⟩ := hSs s hs
        refine nx_if_ne C 16 d_Q_stored_11 (by decide) (by omega) (fun z2 => ?_) (fun z2 => ?_)
        · refine qx_aload_n C d_Q_stored_16 rfl rfl ?_
          refine qx_get C d_Q_stored_17 fl_Q_11 (ch_Q J) rfl ?_
          refine qx_iload_n C d_Q_stored_20 rfl rfl ?_
          refine cx_sv C J d_Q_stored_21 rfl hs ?_
          refine qx_iload_n C d_Q_stored_22 rfl rfl ?_
          refine nx_call0 C (s_Q_stored_23 (ch_S J hs)) (c_storedNow l G b J hv.1.1 hs (h.1 s hs) (h.2.1 s hs) hT.1 hT.2.2.1 h4 d) w_S_storedNow rfl rfl (Nat.le_of_ble_eq_true rfl) (by omega) (by decide) ?_
          refine qx_iret C d_Q_stored_26 (Nat.zero_le _) (Nat.zero_le _) ⟨_, rfl, ?_, rfl⟩
          unfold md_stored md_gone
          rw [if_pos ⟨h5, h4⟩]
        · exact absurd z2 (by omega)
      · rw [if_neg h4]
        refine nx_if_ne C 16 d_Q_stored_11 (by decide) (by omega) (fun z2 => ?_) (fun z2 => ?_)
        · exact absurd z2 (by omega)
        · exact No (fun z => h4 z.2)
  · rw [if_neg h5]
    refine nx_if_eq C 14 d_Q_stored_4 (by decide) (by omega) (fun z1 => ?_) (fun z1 => ?_)
    · exact No (fun z => h5 z.1)
    · exact absurd z1 (by omega)
set_option maxRecDepth 100000 in
theorem c_entry (l : Launch) (G : qh_G) (b : Nat) {ad : Nat → Nat} {iv : Nat → Option Nat} (J : cl_I ad iv) {g : qh_H} {I : md_A} {m : Nat → Nat} {E : cl_E} {N : Nat → Nat} {A : md_A} (h : cr G iv g I m E N A) (hS : md_S A) {x i w : Int} (hx : rng x) (hi : rng i) (hw : rng w) (d : Nat) : qj l y_Q_entry c_Q_entry 5 (some .int) (d + 2) 0 0 G b [.ref (ad 0), .int (iI x), .int (iI i), .int (iI w)] (ch G ad iv g I m E N) (md_en A x i w) (ch G ad iv g I m E N) := by
  obtain ⟨hv, hSs⟩ := hS
  refine qx_of (lo := [some (.ref (ad 0)), some (.int (iI x)), some (.int (iI i)), some (.int (iI w)), none]) (by decide) (fun w hw => List.mem_cons_of_mem _ hw) rfl (Nat.le_of_ble_eq_true rfl) rfl ?_
  intro X C
  have Nn : ¬ ((0 ≤ x ∧ x < 5) ∧ 0 ≤ md_cell A x i) → X 24 [some (.ref (ad 0)), some (.int (iI x)), some (.int (iI i)), some (.int (iI w)), none] [.null] (ch G ad iv g I m E N) 0 0 := by
    intro hc
    refine nx_astoreN C d_Q_entry_24 (Nat.le_of_ble_eq_true rfl) (lo' := [_, _, _, _, some (.null)]) rfl ?_
    refine qx_aloadN C d_Q_entry_26 rfl ?_
    refine qx_ifnonnullN C d_Q_entry_28 ?_
    refine qx_iconst C d_Q_entry_31 (v := iI (-1)) rfl ?_
    refine qx_iret C d_Q_entry_32 (Nat.zero_le _) (Nat.zero_le _) ⟨_, rfl, ?_, rfl⟩
    unfold md_en
    rw [if_pos hc]
  refine qx_iload_n C d_Q_entry_0 rfl rfl ?_
  refine nx_call0 C s_Q_entry_1 (c_isServer l G b _ hx d) w_Q_isServer rfl rfl (Nat.le_of_ble_eq_true rfl) (by omega) (by decide) ?_
  by_cases h5 : 0 ≤ x ∧ x < 5
  · rw [if_pos h5]
    obtain ⟨s, hs, rfl⟩ := k5_ex h5.1 h5.2
    obtain ⟨hT, -, -, -⟩ := hSs s hs
    have hL := h.2.1 s hs
    have hl : md_last A s = A 4 s + A 8 s := rfl
    refine nx_if_eq C 23 d_Q_entry_4 (by decide) (by omega) (fun z1 => ?_) (fun z1 => ?_)
    · exact absurd z1 (by omega)
    · refine qx_aload_n C d_Q_entry_7 rfl rfl ?_
      refine qx_get C d_Q_entry_8 fl_Q_11 (ch_Q J) rfl ?_
      refine qx_iload_n C d_Q_entry_11 rfl rfl ?_
      refine cx_sv C J d_Q_entry_12 rfl hs ?_
      refine qx_get C d_Q_entry_13 fl_Q_85 (ch_S J hs) rfl ?_
      refine qx_iload_n C d_Q_entry_16 rfl rfl ?_
      refine nx_callq C (s_Q_entry_17 (ch_L J hs)) (c_findR l G b J hs hL hT.1 hi rfl d) w_L_find rfl rfl (Nat.le_of_ble_eq_true rfl) (by omega) (by decide) ?_
      by_cases hc : A 4 s < i ∧ i ≤ md_last A s
      · have hcl : md_cell A s i = 48 * s + (i - A 4 s - 1).toNat := by unfold md_cell; rw [if_pos hc]; omega
        obtain ⟨a, ha, hae⟩ := cr_he (G := G) (I := I) (m := m) (E := E) (N := N) J (hL.2.2 (i - A 4 s - 1).toNat (by omega))
        rw [if_pos hc, ha]
        show X _ _ (.ref a :: []) _ _ _
        have hen : md_en A s i w = if w = 0 then A 9 (48 * s + (i - A 4 s - 1).toNat) else if w = 1 then A 10 (48 * s + (i - A 4 s - 1).toNat) else if w = 2 then A 11 (48 * s + (i - A 4 s - 1).toNat) else if w = 3 then A 12 (48 * s + (i - A 4 s - 1).toNat) else -1 := by
          unfold md_en
          rw [if_neg (by omega), hcl]
        refine qx_goto C d_Q_entry_20 (tgt := 24) (by decide) ?_
        refine nx_astore C d_Q_entry_24 (Nat.le_of_ble_eq_true rfl) (lo' := [_, _, _, _, some (.ref _)]) rfl ?_
        refine qx_aload C d_Q_entry_26 rfl ?_
        refine qx_ifnonnull C d_Q_entry_28 (tgt := 33) (by decide) ?_
        refine qx_iload_n C d_Q_entry_33 rfl rfl ?_
        rw [hen] at C
        by_cases w0 : w = 0
        · subst w0
          refine qx_tabIn C d_Q_entry_34 (off := 30) (tgt := 64) (by decide) (by decide) (by decide) (by decide) ?_
          refine qx_aload C d_Q_entry_64 rfl ?_
          refine qx_get C d_Q_entry_66 fl_Q_227 hae rfl ?_
          refine qx_iret C d_Q_entry_69 (Nat.zero_le _) (Nat.zero_le _) ⟨_, rfl, ?_, rfl⟩
          rfl
        by_cases w1 : w = 1
        · subst w1
          refine qx_tabIn C d_Q_entry_34 (off := 36) (tgt := 70) (by decide) (by decide) (by decide) (by decide) ?_
          refine qx_aload C d_Q_entry_70 rfl ?_
          refine qx_get C d_Q_entry_72 fl_Q_228 hae rfl ?_
          refine qx_iret C d_Q_entry_75 (Nat.zero_le _) (Nat.zero_le _) ⟨_, rfl, ?_, rfl⟩
          rfl
        by_cases w2 : w = 2
        · subst w2
          refine qx_tabIn C d_Q_entry_34 (off := 42) (tgt := 76) (by decide) (by decide) (by decide) (by decide) ?_
          refine qx_aload C d_Q_entry_76 rfl ?_
          refine qx_get C d_Q_entry_78 fl_Q_231 hae rfl ?_
          refine qx_iret C d_Q_entry_81 (Nat.zero_le _) (Nat.zero_le _) ⟨_, rfl, ?_, rfl⟩
          rfl
        by_cases w3 : w = 3
        · subst w3
          refine qx_tabIn C d_Q_entry_34 (off := 48) (tgt := 82) (by decide) (by decide) (by decide) (by decide) ?_
          refine qx_aload C d_Q_entry_82 rfl ?_
          refine qx_get C d_Q_entry_84 fl_Q_234 hae rfl ?_
          refine qx_iret C d_Q_entry_87 (Nat.zero_le _) (Nat.zero_le _) ⟨_, rfl, ?_, rfl⟩
          rfl
        refine qx_tabOut C d_Q_entry_34 (tgt := 88) (by rw [iI_toInt (by omega)]; omega) (by decide) ?_
        refine qx_iconst C d_Q_entry_88 (v := iI (-1)) rfl ?_
        refine qx_iret C d_Q_entry_89 (Nat.zero_le _) (Nat.zero_le _) ⟨_, rfl, ?_, rfl⟩
        rw [if_neg w0, if_neg w1, if_neg w2, if_neg w3]
      · rw [if_neg hc]
        show X _ _ (.null :: []) _ _ _
        refine qx_goto C d_Q_entry_20 (tgt := 24) (by decide) ?_
        exact Nn (fun z => by have := z.2; unfold md_cell at this; rw [if_neg hc] at this; omega)
  · rw [if_neg h5]
    refine nx_if_eq C 23 d_Q_entry_4 (by decide) (by omega) (fun z1 => ?_) (fun z1 => ?_)
    · refine qx_null C d_Q_entry_23 ?_
      exact Nn (fun z => h5 z.1)
    · exact absurd z1 (by omega)
