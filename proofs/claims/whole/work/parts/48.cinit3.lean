/-! the class: a server's constructor -/
theorem hc_lg {h : qh_H} {q lg en : Nat} {x L0 L1 E1 : va_E} {P : List (Nat × va_E)} (h1 : lg ≠ q) (h2 : en ≠ q) (h3 : en ≠ lg) : va_up (va_up (hc h q x ((lg, L0) :: P)) en (some E1)) lg (some L1) = hc h q x ((lg, L1) :: (en, E1) :: P) := by
  funext z
  unfold va_up hc
  by_cases hz : z = lg
  · subst hz
    rw [if_pos rfl, if_neg h1]
    simp
  · rw [if_neg hz]
    have e1 : (lg == z) = false := by simp; exact fun e => hz e.symm
    by_cases hy : z = en
    · subst hy
      rw [if_pos rfl, if_neg h2]
      simp [List.find?_cons, e1]
    · rw [if_neg hy]
      have e2 : (en == z) = false := by simp; exact fun e => hy e.symm
      by_cases hq : z = q
      · rw [if_pos hq, if_pos hq]
      · rw [if_neg hq, if_neg hq]
        simp [List.find?_cons, e1, e2]
theorem hc_at {h : qh_H} {q a : Nat} {x y : va_E} {P : List (Nat × va_E)} (ha : a ≠ q) : hc h q x ((a, y) :: P) a = some y := by
  unfold hc
  rw [if_neg ha]
  simp
theorem hk_lg {h : qh_H} {q lg en : Nat} {x x' L0 L1 E1 : va_E} {P : List (Nat × va_E)} (hP : hk h q P) (n1 : hc h q x P lg = none) (n2 : hc h q x' ((lg, L0) :: P) en = none) : hk h q ((lg, L1) :: (en, E1) :: P) := by
  obtain ⟨a1, a2, a3⟩ := hc_none n1
  obtain ⟨b1, b2, b3⟩ := hc_none n2
  have b4 : en ≠ lg ∧ en ∉ P.map (·.1) := by
    simp only [List.map_cons, List.mem_cons, not_or] at b2
    exact b2
  refine ⟨?_, fun p hp => ?_⟩
  · refine List.nodup_cons.mpr ⟨?_, List.nodup_cons.mpr ⟨b4.2, hP.1⟩⟩
    simp only [List.map_cons, List.mem_cons, not_or]
    exact ⟨Ne.symm b4.1, a2⟩
  · rcases List.mem_cons.mp hp with rfl | hp
    · exact ⟨a1, a3⟩
    · rcases List.mem_cons.mp hp with rfl | hp
      · exact ⟨b1, b3⟩
      · exact hP.2 p hp
set_option maxRecDepth 100000 in
theorem c_Sinit (l : Launch) (G : qh_G) (b : Nat) {h : qh_H} {q sn : Nat} {num : Int} (hq : h q = some (.inr (6, [.int 0, .null, .null, .null, .null, .int 0, .int 0, .int 0, .int 0, .int 0, .int 0, .int 0, .int 0]))) (d : Nat) : qpv l y_S_init c_S_init 3 none (d + 2) 5 66 G b [.ref q, .int (iI num), .ref sn] h (fun h' => ∃ lg en a0 a1 a2 : Nat, h' = hc h q (.inr (6, [.int (iI num), .ref lg, .ref a0, .ref a1, .ref a2, .int (iI 1), .int 0, .int 0, .int (iI (-1)), .int (iI 0), .int 0, .int 0, .int 0])) [(lg, .inr (2, [.ref sn, .ref en, .int 0])), (en, cE G 4 48 (fun _ => none)), (a2, cA G md_p0 60 5), (a1, cA G md_p0 50 5), (a0, cA G md_p0 40 5)] ∧ hk h q [(lg, .inr (2, [.ref sn, .ref en, .int 0])), (en, cE G 4 48 (fun _ => none)), (a2, cA G md_p0 60 5), (a1, cA G md_p0 50 5), (a0, cA G md_p0 40 5)]) := by
  refine qx_of (lo := [some (.ref q), some (.int (iI num)), some (.ref sn)]) (by decide) (fun w hw => List.mem_cons_of_mem _ hw) rfl (Nat.le_of_ble_eq_true rfl) rfl ?_
  intro X C
  refine qx_aload_n C d_S_init_0 rfl rfl ?_
  refine qx_objI C d_S_init_1 oi_S_3 oi_1 oi_2 rfl (by show 1 ≤ d + 2; omega) (by show 0 + 12 ≤ 32 * (d + 2); omega) ?_
  rw [← hc_nil hq]
  refine qx_aload_n C d_S_init_4 rfl rfl ?_
  refine qx_iconst C d_S_init_5 (v := iI (5)) rfl ?_
  refine qx_newa C d_S_init_6 rfl (t := 0) rfl ac_int (N := 5) (a0 := (5, .inl (fun _ => iI 0))) (fun _ => rfl) (by decide) (by decide) (by decide) (Nat.le_of_ble_eq_true rfl) (Nat.le_of_ble_eq_true rfl) (fun a0 n0 => ?_)
  have k0 := hk_c (y := cA G md_p0 40 5) (hk_nil h q) n0
  rw [hc_new (hc_none n0).1]
  refine qx_putF C d_S_init_8 rfl fp_S_9 hc_q (Nat.le_of_ble_eq_true rfl) rfl rfl ?_
  rw [hc_put]
  refine qx_aload_n C d_S_init_11 rfl rfl ?_
  refine qx_iconst C d_S_init_12 (v := iI (5)) rfl ?_
  refine qx_newa C d_S_init_13 rfl (t := 0) rfl ac_int (N := 5) (a0 := (5, .inl (fun _ => iI 0))) (fun _ => rfl) (by decide) (by decide) (by decide) (Nat.le_of_ble_eq_true rfl) (Nat.le_of_ble_eq_true rfl) (fun a1 n1 => ?_)
  have k1 := hk_c (y := cA G md_p0 50 5) k0 n1
  rw [hc_new (hc_none n1).1]
  refine qx_putF C d_S_init_15 rfl fp_S_15 hc_q (Nat.le_of_ble_eq_true rfl) rfl rfl ?_
  rw [hc_put]
  refine qx_aload_n C d_S_init_18 rfl rfl ?_
  refine qx_iconst C d_S_init_19 (v := iI (5)) rfl ?_
  refine qx_newa C d_S_init_20 rfl (t := 0) rfl ac_int (N := 5) (a0 := (5, .inl (fun _ => iI 0))) (fun _ => rfl) (by decide) (by decide) (by decide) (Nat.le_of_ble_eq_true rfl) (Nat.le_of_ble_eq_true rfl) (fun a2 n2 => ?_)
  have k2 := hk_c (y := cA G md_p0 60 5) k1 n2
  rw [hc_new (hc_none n2).1]
  refine qx_putF C d_S_init_22 rfl fp_S_18 hc_q (Nat.le_of_ble_eq_true rfl) rfl rfl ?_
  rw [hc_put]
  refine qx_aload_n C d_S_init_25 rfl rfl ?_
  refine qx_iconst C d_S_init_26 (v := iI (1)) rfl ?_
  refine qx_put C d_S_init_27 fp_S_21 hc_q (Nat.le_of_ble_eq_true rfl) rfl (by decide) ?_
  rw [hc_put]
  refine qx_aload_n C d_S_init_30 rfl rfl ?_
  refine qx_iconst C d_S_init_31 (v := iI (-1)) rfl ?_
  refine qx_put C d_S_init_32 fp_S_25 hc_q (Nat.le_of_ble_eq_true rfl) rfl rfl ?_
  rw [hc_put]
  refine qx_aload_n C d_S_init_35 rfl rfl ?_
  refine qx_iconst C d_S_init_36 (v := iI (0)) rfl ?_
  refine qx_put C d_S_init_37 fp_S_29 hc_q (Nat.le_of_ble_eq_true rfl) rfl rfl ?_
  rw [hc_put]
  refine qx_aload_n C d_S_init_40 rfl rfl ?_
  refine qx_iload_n C d_S_init_41 rfl rfl ?_
  refine qx_putF C d_S_init_42 rfl fp_S_32 hc_q (Nat.le_of_ble_eq_true rfl) rfl rfl ?_
  rw [hc_put]
  refine qx_aload_n C d_S_init_45 rfl rfl ?_
  refine qx_new C d_S_init_46 nw_S_35 (Nat.le_of_ble_eq_true rfl) (Nat.le_of_ble_eq_true rfl) (fun lg nl => ?_)
  rw [hc_new (hc_none nl).1]
  refine qx_dup C d_S_init_49 rfl ?_
  refine qx_aload_n C d_S_init_50 rfl rfl ?_
  refine nx_callpv C s_S_init_51 (c_Linit l G b (hc_at (hc_none nl).1) d) w_L_init rfl rfl (Nat.le_of_ble_eq_true rfl) (by omega) (by decide) (fun hh hP => ?_)
  obtain ⟨en, ne, rfl⟩ := hP
  have hne := hc_none ne
  have hel : en ≠ lg := fun e => hne.2.1 (by rw [e]; simp)
  rw [hc_lg (hc_none nl).1 hne.1 hel]
  refine qx_putF C d_S_init_54 rfl fp_S_40 hc_q (Nat.le_of_ble_eq_true rfl) rfl rfl ?_
  rw [hc_put]
  exact qx_vret C d_S_init_57 (Nat.le_of_ble_eq_true rfl) (Nat.le_of_ble_eq_true rfl) ⟨rfl, lg, en, a0, a1, a2, rfl, hk_lg k2 nl ne⟩
