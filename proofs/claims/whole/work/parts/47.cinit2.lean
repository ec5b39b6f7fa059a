/-! the class: new cells over a heap, told by a list; the reads' constructor -/
def hc (h : qh_H) (q : Nat) (x : va_E) (P : List (Nat × va_E)) : qh_H := fun a => if a = q then some x else match P.find? (fun p => p.1 == a) with
  | some p => some p.2
  | none => h a
theorem hc_q {h : qh_H} {q : Nat} {x : va_E} {P : List (Nat × va_E)} : hc h q x P q = some x := if_pos rfl
theorem hc_put {h : qh_H} {q : Nat} {x y : va_E} {P : List (Nat × va_E)} : va_up (hc h q x P) q (some y) = hc h q y P := by
  funext a
  unfold va_up hc
  by_cases ha : a = q
  · rw [if_pos ha, if_pos ha]
  · rw [if_neg ha, if_neg ha, if_neg ha]
theorem hc_none {h : qh_H} {q a : Nat} {x : va_E} {P : List (Nat × va_E)} (hn : hc h q x P a = none) : a ≠ q ∧ a ∉ P.map (·.1) ∧ h a = none := by
  unfold hc at hn
  by_cases ha : a = q
  · rw [if_pos ha] at hn; cases hn
  · rw [if_neg ha] at hn
    refine ⟨ha, fun hm => ?_, ?_⟩
    · obtain ⟨p, hp, e⟩ := List.mem_map.mp hm
      cases hf : P.find? (fun p => p.1 == a) with
      | some r => rw [hf] at hn; cases hn
      | none =>
        have := List.find?_eq_none.mp hf p hp
        simp [e] at this
    · cases hf : P.find? (fun p => p.1 == a) with
      | some r => rw [hf] at hn; cases hn
      | none => rw [hf] at hn; exact hn
theorem hc_new {h : qh_H} {q a : Nat} {x y : va_E} {P : List (Nat × va_E)} (ha : a ≠ q) : va_up (hc h q x P) a (some y) = hc h q x ((a, y) :: P) := by
  funext z
  unfold va_up hc
  by_cases hz : z = a
  · subst hz
    rw [if_pos rfl, if_neg ha]
    simp
  · rw [if_neg hz]
    by_cases hq : z = q
    · rw [if_pos hq, if_pos hq]
    · rw [if_neg hq, if_neg hq]
      have : (a == z) = false := by simp; exact fun e => hz e.symm
      simp [List.find?_cons, this]
theorem hc_nil {h : qh_H} {q : Nat} {x : va_E} (hq : h q = some x) : hc h q x [] = h := by
  funext a
  unfold hc
  by_cases ha : a = q
  · rw [if_pos ha, ha, hq]
  · rw [if_neg ha]
    rfl
/-- new addresses, apart -/
def hk (h : qh_H) (q : Nat) (P : List (Nat × va_E)) : Prop := (P.map (·.1)).Nodup ∧ ∀ p ∈ P, p.1 ≠ q ∧ h p.1 = none
theorem hk_nil (h : qh_H) (q : Nat) : hk h q [] := ⟨List.nodup_nil, fun p hp => absurd hp List.not_mem_nil⟩
theorem hk_c {h : qh_H} {q a : Nat} {x y : va_E} {P : List (Nat × va_E)} (hP : hk h q P) (hn : hc h q x P a = none) : hk h q ((a, y) :: P) := by
  obtain ⟨h1, h2, h3⟩ := hc_none hn
  refine ⟨List.nodup_cons.mpr ⟨h2, hP.1⟩, fun p hp => ?_⟩
  rcases List.mem_cons.mp hp with rfl | hp
  · exact ⟨h1, h3⟩
  · exact hP.2 p hp
set_option maxRecDepth 100000 in
theorem c_Rinit (l : Launch) (G : qh_G) (b : Nat) {h : qh_H} {q : Nat} (hq : h q = some (.inr (4, [.null, .null, .null, .null, .null, .int 0]))) (d : Nat) : qpv l y_R_init c_R_init 1 none (d + 1) 5 300 G b [.ref q] h (fun h' => ∃ a0 a1 a2 a3 a4 : Nat, h' = hc h q (.inr (4, [.ref a0, .ref a1, .ref a2, .ref a3, .ref a4, .int 0])) [(a4, cA G md_p0 9 60), (a3, cA G md_p0 8 60), (a2, cA G md_p0 7 60), (a1, cA G md_p0 6 60), (a0, cA G md_p0 5 60)] ∧ hk h q [(a4, cA G md_p0 9 60), (a3, cA G md_p0 8 60), (a2, cA G md_p0 7 60), (a1, cA G md_p0 6 60), (a0, cA G md_p0 5 60)]) := by
  refine qx_of (lo := [some (.ref q)]) (by decide) (fun w hw => List.mem_cons_of_mem _ hw) rfl (Nat.le_of_ble_eq_true rfl) rfl ?_
  intro X C
  refine qx_aload_n C d_R_init_0 rfl rfl ?_
  refine qx_objI C d_R_init_1 oi_R_3 oi_1 oi_2 rfl (Nat.le_add_left 1 d) (by show 0 + 12 ≤ 32 * (d + 1); omega) ?_
  rw [← hc_nil hq]
  refine qx_aload_n C d_R_init_4 rfl rfl ?_
  refine qx_bipush C d_R_init_5 (v := iI (60)) (by decide) ?_
  refine qx_newa C d_R_init_7 rfl (t := 0) rfl ac_int (N := 60) (a0 := (60, .inl (fun _ => iI 0))) (fun _ => rfl) (by decide) (by decide) (by decide) (Nat.le_of_ble_eq_true rfl) (Nat.le_of_ble_eq_true rfl) (fun a0 n0 => ?_)
  have k0 := hk_c (y := cA G md_p0 5 60) (hk_nil h q) n0
  rw [hc_new (hc_none n0).1]
  refine qx_putF C d_R_init_9 rfl fp_R_9 hc_q (Nat.le_of_ble_eq_true rfl) rfl rfl ?_
  rw [hc_put]
  refine qx_aload_n C d_R_init_12 rfl rfl ?_
  refine qx_bipush C d_R_init_13 (v := iI (60)) (by decide) ?_
  refine qx_newa C d_R_init_15 rfl (t := 0) rfl ac_int (N := 60) (a0 := (60, .inl (fun _ => iI 0))) (fun _ => rfl) (by decide) (by decide) (by decide) (Nat.le_of_ble_eq_true rfl) (Nat.le_of_ble_eq_true rfl) (fun a1 n1 => ?_)
  have k1 := hk_c (y := cA G md_p0 6 60) k0 n1
  rw [hc_new (hc_none n1).1]
  refine qx_putF C d_R_init_17 rfl fp_R_15 hc_q (Nat.le_of_ble_eq_true rfl) rfl rfl ?_
  rw [hc_put]
  refine qx_aload_n C d_R_init_20 rfl rfl ?_
  refine qx_bipush C d_R_init_21 (v := iI (60)) (by decide) ?_
  refine qx_newa C d_R_init_23 rfl (t := 0) rfl ac_int (N := 60) (a0 := (60, .inl (fun _ => iI 0))) (fun _ => rfl) (by decide) (by decide) (by decide) (Nat.le_of_ble_eq_true rfl) (Nat.le_of_ble_eq_true rfl) (fun a2 n2 => ?_)
  have k2 := hk_c (y := cA G md_p0 7 60) k1 n2
  rw [hc_new (hc_none n2).1]
  refine qx_putF C d_R_init_25 rfl fp_R_18 hc_q (Nat.le_of_ble_eq_true rfl) rfl rfl ?_
  rw [hc_put]
  refine qx_aload_n C d_R_init_28 rfl rfl ?_
  refine qx_bipush C d_R_init_29 (v := iI (60)) (by decide) ?_
  refine qx_newa C d_R_init_31 rfl (t := 0) rfl ac_int (N := 60) (a0 := (60, .inl (fun _ => iI 0))) (fun _ => rfl) (by decide) (by decide) (by decide) (Nat.le_of_ble_eq_true rfl) (Nat.le_of_ble_eq_true rfl) (fun a3 n3 => ?_)
  have k3 := hk_c (y := cA G md_p0 8 60) k2 n3
  rw [hc_new (hc_none n3).1]
  refine qx_putF C d_R_init_33 rfl fp_R_21 hc_q (Nat.le_of_ble_eq_true rfl) rfl rfl ?_
  rw [hc_put]
  refine qx_aload_n C d_R_init_36 rfl rfl ?_
  refine qx_bipush C d_R_init_37 (v := iI (60)) (by decide) ?_
  refine qx_newa C d_R_init_39 rfl (t := 0) rfl ac_int (N := 60) (a0 := (60, .inl (fun _ => iI 0))) (fun _ => rfl) (by decide) (by decide) (by decide) (Nat.le_of_ble_eq_true rfl) (Nat.le_of_ble_eq_true rfl) (fun a4 n4 => ?_)
  have k4 := hk_c (y := cA G md_p0 9 60) k3 n4
  rw [hc_new (hc_none n4).1]
  refine qx_putF C d_R_init_41 rfl fp_R_24 hc_q (Nat.le_of_ble_eq_true rfl) rfl rfl ?_
  rw [hc_put]
  exact qx_vret C d_R_init_44 (Nat.le_of_ble_eq_true rfl) (Nat.le_of_ble_eq_true rfl) ⟨rfl, a0, a1, a2, a3, a4, rfl, k4⟩
