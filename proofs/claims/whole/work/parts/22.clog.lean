/-! the class: a log's readers -/
theorem cr_hsn {G : qh_G} {ad : Nat → Nat} {iv : Nat → Option Nat} (J : cl_I ad iv) {g : qh_H} {I : md_A} {m : Nat → Nat} {E : cl_E} {N : Nat → Nat} {a : Nat} {ix t me : Int} {V : Int → Int} (h : cr_N G iv g a ix t me V) : ∃ va, iv va = none ∧ (ch G ad iv g I m E N) a = some (.inr (7, [.int (iI ix), .int (iI t), .int (iI me), .ref va])) ∧ (ch G ad iv g I m E N) va = some (.inl (G.2 0, 4, .inl (fun i => iI (V i)))) := by
  obtain ⟨h1, va, h2, h3, h4⟩ := h
  exact ⟨va, h2, (ch_g J h1).trans h3, (ch_g J h2).trans h4⟩
theorem cr_he {G : qh_G} {ad : Nat → Nat} {iv : Nat → Option Nat} (J : cl_I ad iv) {g : qh_H} {I : md_A} {m : Nat → Nat} {E : cl_E} {N : Nat → Nat} {r : Option Nat} {t so su va : Int} (h : cr_E iv g r t so su va) : ∃ a, r = some a ∧ (ch G ad iv g I m E N) a = some (.inr (1, [.int (iI t), .int (iI so), .int (iI su), .int (iI va)])) := by
  obtain ⟨a, h1, h2, h3⟩ := h
  exact ⟨a, h1, (ch_g J h2).trans h3⟩
set_option maxRecDepth 100000 in
theorem c_last (l : Launch) (G : qh_G) (b : Nat) {ad : Nat → Nat} {iv : Nat → Option Nat} (J : cl_I ad iv) {g : qh_H} {I : md_A} {m : Nat → Nat} {E : cl_E} {N : Nat → Nat} {A : md_A} {s : Nat} (hs : s < 5) (hL : cr_L G iv g I E N A s) (hB : md_B A s) (d : Nat) : qj l y_L_last c_L_last 1 (some .int) d 0 0 G b [.ref (ad (20 + s))] (ch G ad iv g I m E N) (md_last A s) (ch G ad iv g I m E N) := by
  obtain ⟨hct, hN, hE⟩ := hL
  obtain ⟨va, -, hsn, hva⟩ := cr_hsn (I := I) (m := m) (E := E) (N := N) J hN
  refine qx_of (lo := [some (.ref (ad (20 + s)))]) (by decide) (fun w hw => List.mem_cons_of_mem _ hw) rfl (Nat.le_of_ble_eq_true rfl) rfl ?_
  intro X C
  refine qx_aload_n C d_L_last_0 rfl rfl ?_
  refine qx_get C d_L_last_1 fl_L_17 (ch_L J hs) rfl ?_
  refine qx_get C d_L_last_4 fl_L_21 hsn rfl ?_
  refine qx_aload_n C d_L_last_7 rfl rfl ?_
  refine qx_get C d_L_last_8 fl_L_27 (ch_L J hs) rfl ?_
  rw [hct]
  refine nx_iadd C d_L_last_11 ?_
  refine qx_iret C d_L_last_12 (Nat.zero_le _) (Nat.zero_le _) ⟨_, rfl, ?_, rfl⟩
  rfl
set_option maxRecDepth 100000 in
theorem c_find (l : Launch) (G : qh_G) (b : Nat) {ad : Nat → Nat} {iv : Nat → Option Nat} (J : cl_I ad iv) {g : qh_H} {I : md_A} {m : Nat → Nat} {E : cl_E} {N : Nat → Nat} {A : md_A} {s : Nat} (hs : s < 5) (hL : cr_L G iv g I E N A s) (hB : md_B A s) {i : Int} (hi : -1000000 ≤ i ∧ i ≤ 4000000) {r : Option Nat} (hr : r = if A 4 s < i ∧ i ≤ md_last A s then E (30 + s) (i - A 4 s - 1).toNat else none) (d : Nat) : qq l y_L_find c_L_find 3 (some (.object "QuorumLog$Entry")) d 0 0 G b [.ref (ad (20 + s)), .int (iI i)] (ch G ad iv g I m E N) r (ch G ad iv g I m E N) := by
  have hl : md_last A s = A 4 s + A 8 s := rfl
  obtain ⟨hct, hN, hE⟩ := hL
  obtain ⟨va, -, hsn, hva⟩ := cr_hsn (I := I) (m := m) (E := E) (N := N) J hN
  refine qx_of (lo := [some (.ref (ad (20 + s))), some (.int (iI i)), none]) (by decide) (fun w hw => List.mem_cons_of_mem _ hw) rfl (Nat.le_of_ble_eq_true rfl) rfl ?_
  intro X C
  refine qx_iload_n C d_L_find_0 rfl rfl ?_
  refine qx_aload_n C d_L_find_1 rfl rfl ?_
  refine qx_get C d_L_find_2 fl_L_17 (ch_L J hs) rfl ?_
  refine qx_get C d_L_find_5 fl_L_21 hsn rfl ?_
  refine nx_isub C d_L_find_8 ?_
  refine qx_iconst C d_L_find_9 (v := iI (1)) rfl ?_
  refine nx_isub C d_L_find_10 ?_
  refine nx_istore_n C d_L_find_11 rfl (Nat.le_of_ble_eq_true rfl) (lo' := [_, _, some (.int _)]) rfl ?_
  refine qx_iload_n C d_L_find_12 rfl rfl ?_
  refine nx_if_lt C 33 d_L_find_13 (by decide) (by omega) (fun z1 => ?_) (fun z1 => ?_)
  · refine qx_null C d_L_find_33 ?_
    rw [if_neg (by omega)] at hr
    exact qx_aret C d_L_find_34 (Or.inl rfl) (Nat.zero_le _) (Nat.zero_le _) ⟨none, rfl, hr.symm, rfl⟩
  · refine qx_iload_n C d_L_find_16 rfl rfl ?_
    refine qx_aload_n C d_L_find_17 rfl rfl ?_
    refine qx_get C d_L_find_18 fl_L_27 (ch_L J hs) rfl ?_
    rw [hct]
    refine nx_icmp_ge C 33 d_L_find_21 (by decide) (by omega) (by omega) (fun z2 => ?_) (fun z2 => ?_)
    · refine qx_null C d_L_find_33 ?_
      rw [if_neg (by omega)] at hr
      exact qx_aret C d_L_find_34 (Or.inl rfl) (Nat.zero_le _) (Nat.zero_le _) ⟨none, rfl, hr.symm, rfl⟩
    · rw [if_pos (by omega)] at hr
      obtain ⟨a, ha, hae⟩ := cr_he (G := G) (I := I) (m := m) (E := E) (N := N) J (hE (i - A 4 s - 1).toNat (by omega))
      refine qx_aload_n C d_L_find_24 rfl rfl ?_
      refine qx_get C d_L_find_25 fl_L_11 (ch_L J hs) rfl ?_
      refine qx_iload_n C d_L_find_28 rfl rfl ?_
      refine cx_el C J hs d_L_find_29 (by omega) (by omega) ha ?_
      refine qx_goto C d_L_find_30 (tgt := 34) (by decide) ?_
      exact qx_aret C d_L_find_34 (Or.inr ⟨_, rfl⟩) (Nat.zero_le _) (Nat.zero_le _) ⟨some a, rfl, by rw [hr, ha], rfl⟩
set_option maxRecDepth 100000 in
theorem c_termAt (l : Launch) (G : qh_G) (b : Nat) {ad : Nat → Nat} {iv : Nat → Option Nat} (J : cl_I ad iv) {g : qh_H} {I : md_A} {m : Nat → Nat} {E : cl_E} {N : Nat → Nat} {A : md_A} {s : Nat} (hs : s < 5) (hL : cr_L G iv g I E N A s) (hB : md_B A s) {i : Int} (hi : -1000000 ≤ i ∧ i ≤ 4000000) (d : Nat) : qj l y_L_termAt c_L_termAt 3 (some .int) (d + 1) 0 0 G b [.ref (ad (20 + s)), .int (iI i)] (ch G ad iv g I m E N) (md_termAt A s i) (ch G ad iv g I m E N) := by
  have hl : md_last A s = A 4 s + A 8 s := rfl
  have hL2 := hL
  obtain ⟨hct, hN, hE⟩ := hL
  obtain ⟨va, -, hsn, hva⟩ := cr_hsn (I := I) (m := m) (E := E) (N := N) J hN
  refine qx_of (lo := [some (.ref (ad (20 + s))), some (.int (iI i)), none]) (by decide) (fun w hw => List.mem_cons_of_mem _ hw) rfl (Nat.le_of_ble_eq_true rfl) rfl ?_
  intro X C
  refine qx_iload_n C d_L_termAt_0 rfl rfl ?_
  refine qx_aload_n C d_L_termAt_1 rfl rfl ?_
  refine qx_get C d_L_termAt_2 fl_L_17 (ch_L J hs) rfl ?_
  refine qx_get C d_L_termAt_5 fl_L_21 hsn rfl ?_
  refine nx_icmp_ne C 19 d_L_termAt_8 (by decide) (by omega) (by omega) (fun z1 => ?_) (fun z1 => ?_)
  · refine qx_aload_n C d_L_termAt_19 rfl rfl ?_
    refine qx_iload_n C d_L_termAt_20 rfl rfl ?_
    refine nx_callq C (s_L_termAt_21 (ch_L J hs)) (c_find l G b J hs hL2 hB hi rfl d) w_L_find rfl rfl (Nat.le_of_ble_eq_true rfl) (by omega) (by decide) ?_
    by_cases h1 : A 4 s < i ∧ i ≤ md_last A s
    · rw [if_pos h1]
      obtain ⟨a, ha, hae⟩ := cr_he (G := G) (I := I) (m := m) (E := E) (N := N) J (hE (i - A 4 s - 1).toNat (by omega))
      rw [ha]
      show X _ _ (.ref a :: []) _ _ _
      refine nx_astore_n C d_L_termAt_24 rfl (Nat.le_of_ble_eq_true rfl) (lo' := [_, _, some (.ref _)]) rfl ?_
      refine qx_aload_n C d_L_termAt_25 rfl rfl ?_
      refine qx_ifnonnull C d_L_termAt_26 (tgt := 33) (by decide) ?_
      refine qx_aload_n C d_L_termAt_33 rfl rfl ?_
      refine qx_get C d_L_termAt_34 fl_L_45 hae rfl ?_
      refine qx_iret C d_L_termAt_37 (Nat.zero_le _) (Nat.zero_le _) ⟨_, rfl, ?_, rfl⟩
      have hcl : md_cell A s i = 48 * s + (i - A 4 s - 1).toNat := by unfold md_cell; rw [if_pos h1]; omega
      unfold md_termAt
      rw [if_neg z1, hcl, if_neg (by omega)]
    · rw [if_neg h1]
      show X _ _ (.null :: []) _ _ _
      refine nx_astore_nN C d_L_termAt_24 rfl (Nat.le_of_ble_eq_true rfl) (lo' := [_, _, some (.null)]) rfl ?_
      refine qx_aload_nN C d_L_termAt_25 rfl rfl ?_
      refine qx_ifnonnullN C d_L_termAt_26 ?_
      refine qx_iconst C d_L_termAt_29 (v := iI (-1)) rfl ?_
      refine qx_goto C d_L_termAt_30 (tgt := 37) (by decide) ?_
      refine qx_iret C d_L_termAt_37 (Nat.zero_le _) (Nat.zero_le _) ⟨_, rfl, ?_, rfl⟩
      have hcl : md_cell A s i = -1 := by unfold md_cell; rw [if_neg h1]
      unfold md_termAt
      rw [if_neg z1, hcl, if_pos (by decide)]
  · refine qx_aload_n C d_L_termAt_11 rfl rfl ?_
    refine qx_get C d_L_termAt_12 fl_L_17 (ch_L J hs) rfl ?_
    refine qx_get C d_L_termAt_15 fl_L_38 hsn rfl ?_
    refine qx_iret C d_L_termAt_18 (Nat.zero_le _) (Nat.zero_le _) ⟨_, rfl, ?_, rfl⟩
    unfold md_termAt
    rw [if_pos z1]
set_option maxRecDepth 100000 in
theorem c_lastTerm (l : Launch) (G : qh_G) (b : Nat) {ad : Nat → Nat} {iv : Nat → Option Nat} (J : cl_I ad iv) {g : qh_H} {I : md_A} {m : Nat → Nat} {E : cl_E} {N : Nat → Nat} {A : md_A} {s : Nat} (hs : s < 5) (hL : cr_L G iv g I E N A s) (hB : md_B A s) (d : Nat) : qj l y_L_lastTerm c_L_lastTerm 1 (some .int) (d + 2) 0 0 G b [.ref (ad (20 + s))] (ch G ad iv g I m E N) (md_termAt A s (md_last A s)) (ch G ad iv g I m E N) := by
  have hl : md_last A s = A 4 s + A 8 s := rfl
  refine qx_of (lo := [some (.ref (ad (20 + s)))]) (by decide) (fun w hw => List.mem_cons_of_mem _ hw) rfl (Nat.le_of_ble_eq_true rfl) rfl ?_
  intro X C
  refine qx_aload_n C d_L_lastTerm_0 rfl rfl ?_
  refine qx_aload_n C d_L_lastTerm_1 rfl rfl ?_
  refine nx_call0 C (s_L_lastTerm_2 (ch_L J hs)) (c_last l G b J hs hL hB d) w_L_last rfl rfl (Nat.le_of_ble_eq_true rfl) (by omega) (by decide) ?_
  refine nx_call0 C (s_L_lastTerm_5 (ch_L J hs)) (c_termAt l G b J hs hL hB (by omega) d) w_L_termAt rfl rfl (Nat.le_of_ble_eq_true rfl) (by omega) (by decide) ?_
  refine qx_iret C d_L_lastTerm_8 (Nat.zero_le _) (Nat.zero_le _) ⟨_, rfl, ?_, rfl⟩
  rfl
