/-! the class: constructors of logs and messages -/
set_option maxRecDepth 100000 in
theorem c_Linit (l : Launch) (G : qh_G) (b : Nat) {h : qh_H} {q sn : Nat} {w0 w1 w2 : Value} (hq : h q = some (.inr (2, [w0, w1, w2]))) (d : Nat) : qpv l y_L_init c_L_init 2 none (d + 1) 1 48 G b [.ref q, .ref sn] h (fun h' => ∃ en, h en = none ∧ h' = va_up (va_up h en (some (cE G 4 48 (fun _ => none)))) q (some (.inr (2, [.ref sn, .ref en, w2])))) := by
  refine qx_of (lo := [some (.ref q), some (.ref sn)]) (by decide) (fun w hw => List.mem_cons_of_mem _ hw) rfl (Nat.le_of_ble_eq_true rfl) rfl ?_
  intro X C
  refine qx_aload_n C d_L_init_0 rfl rfl ?_
  refine qx_objI C d_L_init_1 oi_L_3 oi_1 oi_2 rfl (Nat.le_add_left 1 d) (by show 0 + 12 ≤ 32 * (d + 1); omega) ?_
  refine qx_aload_n C d_L_init_4 rfl rfl ?_
  refine qx_bipush C d_L_init_5 (v := iI (48)) (by decide) ?_
  refine qx_newq C d_L_init_7 (t := 4) rfl cl_L_9 (by decide) (by decide) (N := 48) (by decide) (by decide) (Nat.le_of_ble_eq_true rfl) (Nat.le_of_ble_eq_true rfl) (fun en hen => ?_)
  have hne : q ≠ en := fun e => by rw [← e, hq] at hen; cases hen
  refine qx_putF C d_L_init_10 rfl fp_L_11 ((va_up_o h _ hne).trans hq) (Nat.le_of_ble_eq_true rfl) rfl rfl ?_
  refine qx_aload_n C d_L_init_13 rfl rfl ?_
  refine qx_aload_n C d_L_init_14 rfl rfl ?_
  refine qx_put C d_L_init_15 fp_L_17 (va_up_self _ _ _) (Nat.le_of_ble_eq_true rfl) rfl rfl ?_
  rw [va_up_up]
  exact qx_vret C d_L_init_18 (Nat.le_of_ble_eq_true rfl) (Nat.le_of_ble_eq_true rfl) ⟨rfl, en, hen, rfl⟩
set_option maxRecDepth 100000 in
theorem c_Minit (l : Launch) (G : qh_G) (b : Nat) {h : qh_H} {q sn : Nat} (hq : h q = some (.inr (3, [.null, .int 0, .int 0, .int 0, .int 0, .int 0, .int 0, .int 0, .int 0, .int 0, .int 0, .null]))) (d : Nat) : qpv l y_M_init c_M_init 2 none (d + 1) 1 2 G b [.ref q, .ref sn] h (fun h' => ∃ en, h en = none ∧ h' = va_up (va_up h en (some (cE G 4 2 (fun _ => none)))) q (some (.inr (3, [.ref en, .int 0, .int 0, .int 0, .int 0, .int 0, .int 0, .int 0, .int 0, .int 0, .int 0, .ref sn])))) := by
  refine qx_of (lo := [some (.ref q), some (.ref sn)]) (by decide) (fun w hw => List.mem_cons_of_mem _ hw) rfl (Nat.le_of_ble_eq_true rfl) rfl ?_
  intro X C
  refine qx_aload_n C d_M_init_0 rfl rfl ?_
  refine qx_objI C d_M_init_1 oi_M_3 oi_1 oi_2 rfl (Nat.le_add_left 1 d) (by show 0 + 12 ≤ 32 * (d + 1); omega) ?_
  refine qx_aload_n C d_M_init_4 rfl rfl ?_
  refine qx_iconst C d_M_init_5 (v := iI (2)) rfl ?_
  refine qx_newq C d_M_init_6 (t := 4) rfl cl_M_9 (by decide) (by decide) (N := 2) (by decide) (by decide) (Nat.le_of_ble_eq_true rfl) (Nat.le_of_ble_eq_true rfl) (fun en hen => ?_)
  have hne : q ≠ en := fun e => by rw [← e, hq] at hen; cases hen
  refine qx_putF C d_M_init_9 rfl fp_M_11 ((va_up_o h _ hne).trans hq) (Nat.le_of_ble_eq_true rfl) rfl rfl ?_
  refine qx_aload_n C d_M_init_12 rfl rfl ?_
  refine qx_aload_n C d_M_init_13 rfl rfl ?_
  refine qx_put C d_M_init_14 fp_M_17 (va_up_self _ _ _) (Nat.le_of_ble_eq_true rfl) rfl rfl ?_
  rw [va_up_up]
  exact qx_vret C d_M_init_17 (Nat.le_of_ble_eq_true rfl) (Nat.le_of_ble_eq_true rfl) ⟨rfl, en, hen, rfl⟩
