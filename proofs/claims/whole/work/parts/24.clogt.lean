/-! the class: entries taken over, entries copied into a message -/
theorem md_termAt_le {A : md_A} {s i : Int} (h : A 4 s < i) (ht : 0 ≤ md_termAt A s i) : i ≤ md_last A s := by
  by_cases h1 : i ≤ md_last A s
  · exact h1
  · exfalso
    have hcl : md_cell A s i = -1 := by unfold md_cell; rw [if_neg (by omega)]
    unfold md_termAt at ht
    rw [if_neg (by omega), hcl, if_pos (by decide)] at ht
    omega
theorem c_hot (l : Launch) (G : qh_G) (b : Nat) {ad : Nat → Nat} {iv : Nat → Option Nat} (J : cl_I ad iv) {g : qh_H} {I : md_A} {m : Nat → Nat} {E : cl_E} {N : Nat → Nat} {A : md_A} (hA : md_r A) {s : Nat} (hs : s < 5) (hL : cr_L G iv g I E N A s) (hB : md_B A s) {i p : Int} (hi : A 4 s < i ∧ i ≤ 2000100) {q : Nat} (hq : cr_E iv g (some q) (A 29 p) (A 29 (p + 1)) (A 29 (p + 2)) (A 29 (p + 3))) (h9 : 0 ≤ A 29 p) (d : Nat) : qp l y_L_hasOrTakes c_L_hasOrTakes 3 (some .boolean) (d + 2) 0 0 G b [.ref (ad (20 + s)), .int (iI i), .ref q] (ch G ad iv g I m E N) (md_tkR A s i p) (fun h' => ∃ I' E', h' = ch G ad iv g I' m E' N ∧ cr_o s I E I' E' ∧ cr_L G iv g I' E' N (md_tk A s i p) s) := by
  have hl : md_last A s = A 4 s + A 8 s := rfl
  have hr := md_termAt_r hA s i
  have hr2 := hA 29 p
  obtain ⟨a, ha, hae⟩ := cr_he (G := G) (I := I) (m := m) (E := E) (N := N) J hq
  cases ha
  refine qx_of (lo := [some (.ref (ad (20 + s))), some (.int (iI i)), some (.ref q)]) (by decide) (fun w hw => List.mem_cons_of_mem _ hw) rfl (Nat.le_of_ble_eq_true rfl) rfl ?_
  intro X C
  refine qx_aload_n C d_L_hasOrTakes_0 rfl rfl ?_
  refine qx_iload_n C d_L_hasOrTakes_1 rfl rfl ?_
  refine nx_call0 C (s_L_hasOrTakes_2 (ch_L J hs)) (c_termAt l G b J hs hL hB (by omega) d) w_L_termAt rfl rfl (Nat.le_of_ble_eq_true rfl) (by omega) (by decide) ?_
  refine qx_aload_n C d_L_hasOrTakes_5 rfl rfl ?_
  refine qx_get C d_L_hasOrTakes_6 fl_L_45 hae rfl ?_
  refine nx_icmp_ne C 14 d_L_hasOrTakes_9 (by decide) (by omega) (by omega) (fun z1 => ?_) (fun z1 => ?_)
  · have c1 : ¬ (i ≤ A 4 s ∨ (i ≤ md_last A s ∧ md_termAt A s i = A 29 p)) := by omega
    refine qx_aload_n C d_L_hasOrTakes_14 rfl rfl ?_
    refine qx_iload_n C d_L_hasOrTakes_15 rfl rfl ?_
    refine nx_callv C (s_L_hasOrTakes_16 (ch_L J hs)) (c_cut l G b J hs hL hB (by omega) rfl d) w_L_cutFrom rfl rfl (Nat.le_of_ble_eq_true rfl) (by omega) (by decide) ?_
    refine qx_aload_n C d_L_hasOrTakes_19 rfl rfl ?_
    refine qx_aload_n C d_L_hasOrTakes_20 rfl rfl ?_
    by_cases h2 : i ≤ md_last A s
    · have e1 : md_cutx A s i = md_u A 8 s (i - A 4 s - 1) := by unfold md_cutx; rw [if_pos h2]
      have e8 : md_cutx A s i 8 s = i - A 4 s - 1 := by rw [e1, md_us]
      rw [if_pos ⟨hi.1, h2⟩]
      obtain ⟨a, ha, hae2⟩ := cr_he (G := G) (I := md_u I (20 + s) 2 (i - A 4 s - 1)) (m := m) (E := E) (N := N) J hq
      cases ha
      refine nx_call0 C (s_L_hasOrTakes_21 (ch_L J hs)) (c_addT l G b J hs hae2 md_us (by omega) (by omega) d) w_L_add rfl rfl (Nat.le_of_ble_eq_true rfl) (by omega) (by decide) ?_
      refine qx_zret C d_L_hasOrTakes_24 (by decide) (Nat.le_of_ble_eq_true rfl) (Nat.le_of_ble_eq_true rfl) ⟨_, rfl, ?_, ?_⟩
      · unfold md_tkR; rw [if_neg c1, e8, if_neg (by omega)]
      · have hp := cr_L_push (cr_L_cut hL (c := i - A 4 s - 1) (by omega)) (by rw [md_us]; omega) hq
        rw [md_us] at hp
        refine ⟨_, _, rfl, (((cr_o.rf s I E).u).u).e, ?_⟩
        unfold md_tk md_tkP
        rw [if_neg c1, e8, if_neg (by omega), e1]
        exact hp
    · have e1 : md_cutx A s i = A := by unfold md_cutx; rw [if_neg h2]
      rw [if_neg (fun z => h2 z.2)]
      by_cases h3 : A 8 s = 48
      · refine nx_call0 C (s_L_hasOrTakes_21 (ch_L J hs)) (c_addF l G b J hs (hL.1.trans h3) d) w_L_add rfl rfl (Nat.le_of_ble_eq_true rfl) (by omega) (by decide) ?_
        refine qx_zret C d_L_hasOrTakes_24 (by decide) (Nat.le_of_ble_eq_true rfl) (Nat.le_of_ble_eq_true rfl) ⟨_, rfl, ?_, ?_⟩
        · unfold md_tkR; rw [if_neg c1, e1, if_pos (by omega)]
        · refine ⟨_, _, rfl, cr_o.rf s I E, ?_⟩
          unfold md_tk
          rw [if_neg c1, e1, if_pos (by omega)]
          exact hL
      · refine nx_call0 C (s_L_hasOrTakes_21 (ch_L J hs)) (c_addT l G b J hs hae hL.1 (by omega) (by omega) d) w_L_add rfl rfl (Nat.le_of_ble_eq_true rfl) (by omega) (by decide) ?_
        refine qx_zret C d_L_hasOrTakes_24 (by decide) (Nat.le_of_ble_eq_true rfl) (Nat.le_of_ble_eq_true rfl) ⟨_, rfl, ?_, ?_⟩
        · unfold md_tkR; rw [if_neg c1, e1, if_neg (by omega)]
        · refine ⟨_, _, rfl, ((cr_o.rf s I E).u).e, ?_⟩
          unfold md_tk md_tkP
          rw [if_neg c1, e1, if_neg (by omega)]
          exact cr_L_push hL (by omega) hq
  · have h2 : i ≤ md_last A s := md_termAt_le hi.1 (by omega)
    refine qx_iconst C d_L_hasOrTakes_12 (v := iI (1)) rfl ?_
    refine qx_zret C d_L_hasOrTakes_13 (by decide) (Nat.le_of_ble_eq_true rfl) (Nat.le_of_ble_eq_true rfl) ⟨_, rfl, ?_, ?_⟩
    · unfold md_tkR; rw [if_pos (by omega)]
    · refine ⟨_, _, rfl, cr_o.rf s I E, ?_⟩
      unfold md_tk
      rw [if_pos (by omega)]
      exact hL
set_option maxRecDepth 100000 in
theorem c_take (l : Launch) (G : qh_G) (b : Nat) {ad : Nat → Nat} {iv : Nat → Option Nat} (J : cl_I ad iv) {g : qh_H} {I : md_A} {m : Nat → Nat} {E : cl_E} {N : Nat → Nat} {A : md_A} (hA : md_ww A) {s : Nat} (hs : s < 5) (hL : cr_L G iv g I E N A s) (hB : md_B A s) {x : Nat} (hx : x < 50) (e5 : I (100 + x) 5 = A 29 4) (e7 : I (100 + x) 7 = A 29 7) (hbf : -1000000 ≤ A 29 4 ∧ A 29 4 ≤ 2000000) (hsz : 0 ≤ A 29 7 ∧ A 29 7 ≤ 2) (hE0 : 0 < A 29 7 → cr_E iv g (E (200 + x) 0) (A 29 10) (A 29 (10 + 1)) (A 29 (10 + 2)) (A 29 (10 + 3)) ∧ 0 ≤ A 29 10) (hE1 : 1 < A 29 7 → cr_E iv g (E (200 + x) 1) (A 29 14) (A 29 (14 + 1)) (A 29 (14 + 2)) (A 29 (14 + 3)) ∧ 0 ≤ A 29 14) (d : Nat) : qp l y_L_takeOver c_L_takeOver 4 (some .int) (d + 3) 0 0 G b [.ref (ad (20 + s)), .ref (ad (100 + x))] (ch G ad iv g I m E N) (md_tks A s (A 29 4) (A 29 7)).2 (fun h' => ∃ I' E', h' = ch G ad iv g I' m E' N ∧ cr_o s I E I' E' ∧ cr_L G iv g I' E' N (md_tks A s (A 29 4) (A 29 7)).1 s) := by
  refine qx_of (lo := [some (.ref (ad (20 + s))), some (.ref (ad (100 + x))), none, none]) (by decide) (fun w hw => List.mem_cons_of_mem _ hw) rfl (Nat.le_of_ble_eq_true rfl) rfl ?_
  intro X C
  have Ed : ∀ (j : Int) (l3 : Option Value) (I1 : md_A) (E1 : cl_E) (A1 : md_A), j = A 29 7 → cr_o s I E I1 E1 → cr_L G iv g I1 E1 N A1 s → md_tks A s (A 29 4) (A 29 7) = (A1, A 29 4 + A 29 7) → X 2 [some (.ref (ad (20 + s))), some (.ref (ad (100 + x))), some (.int (iI j)), l3] [] (ch G ad iv g I1 m E1 N) 0 0 := by
    intro j l3 I1 E1 A1 hj ho h1 ht
    have f5 : I1 (100 + x) 5 = A 29 4 := by rw [ho.1 _ (by omega)]; exact e5
    have f7 : I1 (100 + x) 7 = A 29 7 := by rw [ho.1 _ (by omega)]; exact e7
    refine qx_iload_n C d_L_takeOver_2 rfl rfl ?_
    refine qx_aload_n C d_L_takeOver_3 rfl rfl ?_
    refine qx_get C d_L_takeOver_4 fl_L_77 (ch_M J hx) rfl ?_
    rw [f7]
    refine nx_icmp_ge C 54 d_L_takeOver_7 (by decide) (by omega) (by omega) (fun z1 => ?_) (fun z1 => ?_)
    · refine qx_aload_n C d_L_takeOver_54 rfl rfl ?_
      refine qx_get C d_L_takeOver_55 fl_L_76 (ch_M J hx) rfl ?_
      refine qx_aload_n C d_L_takeOver_58 rfl rfl ?_
      refine qx_get C d_L_takeOver_59 fl_L_77 (ch_M J hx) rfl ?_
      rw [f5, f7]
      refine nx_iadd C d_L_takeOver_62 ?_
      refine qx_iret C d_L_takeOver_63 (Nat.le_of_ble_eq_true rfl) (Nat.le_of_ble_eq_true rfl) ⟨_, rfl, ?_, ?_⟩
      · rw [ht]
      · exact ⟨_, _, rfl, ho, by rw [ht]; exact h1⟩
    · exact absurd z1 (by omega)
  have St : ∀ (j p : Int) (l3 : Option Value) (I1 : md_A) (E1 : cl_E) (A1 : md_A), 0 ≤ j → j < A 29 7 → cr_o s I E I1 E1 → cr_L G iv g I1 E1 N A1 s → md_B A1 s → md_r A1 → A1 4 s = A 4 s → A1 29 = A 29 → cr_E iv g (E (200 + x) j.toNat) (A 29 p) (A 29 (p + 1)) (A 29 (p + 2)) (A 29 (p + 3)) → 0 ≤ A 29 p → (md_tkR A1 s (A 29 4 + 1 + j) p = 0 → md_tks A s (A 29 4) (A 29 7) = (md_tk A1 s (A 29 4 + 1 + j) p, A 29 4 + j)) → (∀ (I2 : md_A) (E2 : cl_E), cr_o s I E I2 E2 → cr_L G iv g I2 E2 N (md_tk A1 s (A 29 4 + 1 + j) p) s → md_tkR A1 s (A 29 4 + 1 + j) p = 1 → X 2 [some (.ref (ad (20 + s))), some (.ref (ad (100 + x))), some (.int (iI (j + 1))), some (.int (iI (A 29 4 + 1 + j)))] [] (ch G ad iv g I2 m E2 N) 0 0) → X 2 [some (.ref (ad (20 + s))), some (.ref (ad (100 + x))), some (.int (iI j)), l3] [] (ch G ad iv g I1 m E1 N) 0 0 := by
    intro j p l3 I1 E1 A1 hj0 hj ho h1 hB1 hA1 h4 h29 hq hp k0 k1
    have f5 : I1 (100 + x) 5 = A 29 4 := by rw [ho.1 _ (by omega)]; exact e5
    have f7 : I1 (100 + x) 7 = A 29 7 := by rw [ho.1 _ (by omega)]; exact e7
    have hN := h1.2.1
    obtain ⟨va, -, hsn, hva⟩ := cr_hsn (I := I1) (m := m) (E := E1) (N := N) J hN
    refine qx_iload_n C d_L_takeOver_2 rfl rfl ?_
    refine qx_aload_n C d_L_takeOver_3 rfl rfl ?_
    refine qx_get C d_L_takeOver_4 fl_L_77 (ch_M J hx) rfl ?_
    rw [f7]
    refine nx_icmp_ge C 54 d_L_takeOver_7 (by decide) (by omega) (by omega) (fun z1 => ?_) (fun z1 => ?_)
    · exact absurd z1 (by omega)
    · refine qx_aload_n C d_L_takeOver_10 rfl rfl ?_
      refine qx_get C d_L_takeOver_11 fl_L_76 (ch_M J hx) rfl ?_
      rw [f5]
      refine qx_iconst C d_L_takeOver_14 (v := iI (1)) rfl ?_
      refine nx_iadd C d_L_takeOver_15 ?_
      refine qx_iload_n C d_L_takeOver_16 rfl rfl ?_
      refine nx_iadd C d_L_takeOver_17 ?_
      refine nx_istore_n C d_L_takeOver_18 rfl (Nat.le_of_ble_eq_true rfl) (lo' := [_, _, _, some (.int _)]) rfl ?_
      refine qx_iload_n C d_L_takeOver_19 rfl rfl ?_
      refine qx_aload_n C d_L_takeOver_20 rfl rfl ?_
      refine qx_get C d_L_takeOver_21 fl_L_17 (ch_L J hs) rfl ?_
      refine qx_get C d_L_takeOver_24 fl_L_21 hsn rfl ?_
      refine nx_icmp_le C 48 d_L_takeOver_27 (by decide) (by omega) (by omega) (fun z2 => ?_) (fun z2 => ?_)
      · refine nx_iinc C d_L_takeOver_48 rfl (lo' := [_, _, some (.int _), _]) rfl ?_
        refine qx_goto C d_L_takeOver_51 (tgt := 2) (by decide) ?_
        refine k1 I1 E1 ho ?_ ?_
        · unfold md_tk; rw [if_pos (Or.inl z2)]; exact h1
        · unfold md_tkR; rw [if_pos (Or.inl z2)]
      · refine qx_aload_n C d_L_takeOver_30 rfl rfl ?_
        refine qx_iload_n C d_L_takeOver_31 rfl rfl ?_
        refine qx_aload_n C d_L_takeOver_32 rfl rfl ?_
        refine qx_get C d_L_takeOver_33 fl_L_80 (ch_M J hx) rfl ?_
        refine qx_iload_n C d_L_takeOver_36 rfl rfl ?_
        have hE2 : E1 (200 + x) = E (200 + x) := ho.2 _ (by omega)
        have hq2 := hq
        obtain ⟨a, ha, -, -⟩ := hq
        refine cx_em C J hx d_L_takeOver_37 hj0 (by omega) (hE2 ▸ ha) ?_
        rw [ha] at hq2
        rw [← h29] at hq2 hp
        refine nx_callp C (s_L_takeOver_38 (ch_L J hs)) (c_hot l G b J hA1 hs h1 hB1 (by omega) hq2 hp d) w_L_hasOrTakes rfl rfl (Nat.le_of_ble_eq_true rfl) (by omega) (by decide) (fun hh hP => ?_)
        obtain ⟨I2, E2, rfl, ho2, h2⟩ := hP
        rcases md_tkR_01 A1 s (A 29 4 + 1 + j) p with hr | hr
        · rw [hr]
          refine nx_if_ne C 48 d_L_takeOver_41 (by decide) (by omega) (fun z3 => ?_) (fun z3 => ?_)
          · exact absurd z3 (by omega)
          · refine qx_iload_n C d_L_takeOver_44 rfl rfl ?_
            refine qx_iconst C d_L_takeOver_45 (v := iI (1)) rfl ?_
            refine nx_isub C d_L_takeOver_46 ?_
            refine qx_iret C d_L_takeOver_47 (Nat.le_of_ble_eq_true rfl) (Nat.le_of_ble_eq_true rfl) ⟨_, rfl, ?_, ?_⟩
            · rw [k0 hr]
              congr 1
              dsimp only
              omega
            · exact ⟨_, _, rfl, ho.tr ho2, by rw [k0 hr]; exact h2⟩
        · rw [hr]
          refine nx_if_ne C 48 d_L_takeOver_41 (by decide) (by omega) (fun z3 => ?_) (fun z3 => ?_)
          · refine nx_iinc C d_L_takeOver_48 rfl (lo' := [_, _, some (.int _), _]) rfl ?_
            refine qx_goto C d_L_takeOver_51 (tgt := 2) (by decide) ?_
            exact k1 I2 E2 (ho.tr ho2) h2 hr
          · exact absurd z3 (by omega)
  refine qx_iconst C d_L_takeOver_0 (v := iI (0)) rfl ?_
  refine nx_istore_n C d_L_takeOver_1 rfl (Nat.le_of_ble_eq_true rfl) (lo' := [_, _, some (.int _), _]) rfl ?_
  by_cases h0 : A 29 7 ≤ 0
  · exact Ed _ _ I E A (by omega) (cr_o.rf s I E) hL (by unfold md_tks; rw [if_pos h0]; congr 1; omega)
  · obtain ⟨q0, p0⟩ := hE0 (by omega)
    refine St 0 10 _ I E A (by omega) (by omega) (cr_o.rf s I E) hL hB hA.1 rfl rfl q0 p0 (fun hr => ?_) (fun I1 E1 ho1 h1 hr1 => ?_)
    · rw [show A 29 4 + 1 + 0 = A 29 4 + 1 by omega] at hr ⊢
      unfold md_tks
      rw [if_neg h0, if_pos hr]
      congr 1
      omega
    · rw [show A 29 4 + 1 + 0 = A 29 4 + 1 by omega] at h1 hr1 ⊢
      by_cases h2 : A 29 7 ≤ 1
      · exact Ed _ _ I1 E1 _ (by omega) ho1 h1 (by unfold md_tks; rw [if_neg h0, if_neg (by omega), if_pos h2]; congr 1; omega)
      · obtain ⟨q1, p1⟩ := hE1 (by omega)
        refine St _ 14 _ I1 E1 (md_tk A s (A 29 4 + 1) 10) (by omega) (by omega) ho1 h1 (md_tk_B hB) (md_tk_ww hB hA).1 (md_tk_k (by decide)) (by funext z; exact md_tk_k (by decide)) q1 p1 (fun hr => ?_) (fun I2 E2 ho2 h2' hr2 => ?_)
        · rw [show A 29 4 + 1 + (0 + 1) = A 29 4 + 1 + 1 by omega] at hr ⊢
          unfold md_tks
          rw [if_neg h0, if_neg (by omega), if_neg h2, if_pos hr]
          congr 1
        · rw [show A 29 4 + 1 + (0 + 1) = A 29 4 + 1 + 1 by omega] at h2' hr2 ⊢
          exact Ed _ _ I2 E2 _ (by omega) ho2 h2' (by unfold md_tks; rw [if_neg h0, if_neg (by omega), if_neg h2, if_neg (by omega)]; congr 1; omega)
