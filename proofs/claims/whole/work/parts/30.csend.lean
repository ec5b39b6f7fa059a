/-! the class: what it sends -/
/-- the end of a call: A stands, and the message taken last is left alone -/
def cr_P (G : qh_G) (ad : Nat → Nat) (iv : Nat → Option Nat) (g : qh_H) (I : md_A) (m : Nat → Nat) (E : cl_E) (N : Nat → Nat) (A : md_A) (h' : qh_H) : Prop := ∃ g' I' E' N', h' = ch G ad iv g' I' m E' N' ∧ cr_g g g' ∧ cr G iv g' I' m E' N' A ∧ I' (100 + m 49) = I (100 + m 49) ∧ E' (200 + m 49) = E (200 + m 49) ∧ N' (100 + m 49) = N (100 + m 49)
section SN
variable {I : md_A} {m : Nat → Nat} {kind fr to t : Int} {A : md_A}
theorem cm_s_o {j x : Nat} (hx : m (I 2 2).toNat = x) (h1 : j ≠ 100 + x) (h2 : j ≠ 2) : cm_s I m kind fr to t j = I j := by
  unfold cm_s
  rw [hx]
  split
  · rw [cl_uI _ _ _ h2, cm_b_o h1]
  · exact cm_b_o h1
theorem cm_s_2 : cm_s I m kind fr to t 2 2 = if I 2 2 < 48 then I 2 2 + 1 else I 2 2 := by
  unfold cm_s
  split
  · exact md_us
  · rw [cm_b_o (by omega)]
theorem cm_s_x {x : Nat} (hx : m (I 2 2).toNat = x) : cm_s I m kind fr to t (100 + x) = cm_b I x kind fr to t (100 + x) := by
  unfold cm_s
  rw [hx]
  split
  · rw [cl_uI _ _ _ (by omega)]
  · rfl
theorem cm_b_v (x : Nat) : cm_b I x kind fr to t (100 + x) 1 = kind ∧ cm_b I x kind fr to t (100 + x) 2 = fr ∧ cm_b I x kind fr to t (100 + x) 3 = to ∧ cm_b I x kind fr to t (100 + x) 4 = t ∧ cm_b I x kind fr to t (100 + x) 5 = 0 ∧ cm_b I x kind fr to t (100 + x) 6 = 0 ∧ cm_b I x kind fr to t (100 + x) 7 = 0 ∧ cm_b I x kind fr to t (100 + x) 8 = 0 ∧ cm_b I x kind fr to t (100 + x) 9 = 0 ∧ cm_b I x kind fr to t (100 + x) 10 = 0 := by
  refine ⟨?_, ?_, ?_, ?_, ?_, ?_, ?_, ?_, ?_, ?_⟩ <;> simp [cm_b, md_u]
theorem md_bg : md_begin A kind fr to t 29 0 = kind ∧ md_begin A kind fr to t 29 1 = fr ∧ md_begin A kind fr to t 29 2 = to ∧ md_begin A kind fr to t 29 3 = t ∧ md_begin A kind fr to t 29 4 = 0 ∧ md_begin A kind fr to t 29 6 = 0 ∧ md_begin A kind fr to t 29 7 = 0 ∧ md_begin A kind fr to t 29 9 = 0 := by
  refine ⟨?_, ?_, ?_, ?_, ?_, ?_, ?_, ?_⟩ <;> simp [md_begin, md_u, md_w]
theorem md_begin_kk {k : Nat} (h : k ≠ 29) : md_begin A kind fr to t k = A k := by
  funext i
  exact md_begin_k h
theorem md_u_kk {k j : Nat} {i v : Int} (h : j ≠ k) : md_u A k i v j = A j := by
  funext x
  exact md_uk h
end SN
/-- the taken message is none of the row's -/
theorem cr_ne {G : qh_G} {iv : Nat → Option Nat} {g : qh_H} {I : md_A} {m : Nat → Nat} {E : cl_E} {N : Nat → Nat} {A : md_A} (h : cr G iv g I m E N A) (hw : 0 ≤ A 27 0 ∧ A 27 0 ≤ 48) : m 49 ≠ m (A 27 0).toNat ∧ m (A 27 0).toNat < 50 ∧ m 49 < 50 := by
  obtain ⟨h1, h2, h3, h4, h5, h6⟩ := h
  refine ⟨fun e => ?_, h4.1 _ (by omega), h4.1 _ (by omega)⟩
  have := h4.2 49 (A 27 0).toNat (by omega) (by omega) e
  omega
set_option maxRecDepth 100000 in
theorem c_result (l : Launch) (G : qh_G) (b : Nat) {ad : Nat → Nat} {iv : Nat → Option Nat} (J : cl_I ad iv) {g : qh_H} {I : md_A} {m : Nat → Nat} {E : cl_E} {N : Nat → Nat} {A : md_A} (h : cr G iv g I m E N A) (hw : 0 ≤ A 27 0 ∧ A 27 0 ≤ 48) {s : Nat} (hs : s < 5) {to yes i r : Int} (hy : yes = 0 ∨ yes = 1) (d : Nat) : qpv l y_Q_sendResult c_Q_sendResult 7 none (d + 2) 0 0 G b [.ref (ad 0), .ref (ad (10 + s)), .int (iI to), .int (iI yes), .int (iI i), .int (iI r)] (ch G ad iv g I m E N) (cr_P G ad iv g I m E N (md_result A s to yes i r)) := by
  obtain ⟨n1, n2, n3⟩ := cr_ne h hw
  have hI2 := h.2.2.1
  have hS := h.1 s hs
  have hxw : m (I 2 2).toNat = m (A 27 0).toNat := by rw [hI2]
  have hwn : I 2 2 = ((A 27 0).toNat : Nat) := by rw [hI2]; omega
  generalize hx : m (A 27 0).toNat = x at n1 n2 hxw
  refine qx_of (lo := [some (.ref (ad 0)), some (.ref (ad (10 + s))), some (.int (iI to)), some (.int (iI yes)), some (.int (iI i)), some (.int (iI r)), none]) (by decide) (fun w hw => List.mem_cons_of_mem _ hw) rfl (Nat.le_of_ble_eq_true rfl) rfl ?_
  intro X C
  refine qx_aload_n C d_Q_sendResult_0 rfl rfl ?_
  refine qx_get C d_Q_sendResult_1 fl_Q_35 (ch_Q J) rfl ?_
  refine qx_iconst C d_Q_sendResult_4 (v := iI (5)) rfl ?_
  refine qx_aload_n C d_Q_sendResult_5 rfl rfl ?_
  refine qx_get C d_Q_sendResult_6 fl_Q_55 (ch_S J hs) rfl ?_
  refine qx_iload_n C d_Q_sendResult_9 rfl rfl ?_
  refine qx_aload_n C d_Q_sendResult_10 rfl rfl ?_
  refine qx_get C d_Q_sendResult_11 fl_Q_61 (ch_S J hs) rfl ?_
  rw [hS.1.2.2.1]
  refine nx_callq C (s_Q_sendResult_14 (ch_W J)) (c_send l G b J hwn (by omega) hx n2 d) w_W_send rfl rfl (Nat.le_of_ble_eq_true rfl) (by omega) (by decide) ?_
  show X _ _ (.ref (ad (100 + x)) :: []) _ _ _
  refine nx_astore C d_Q_sendResult_17 (Nat.le_of_ble_eq_true rfl) (lo' := [_, _, _, _, _, _, some (.ref _)]) rfl ?_
  refine qx_aload C d_Q_sendResult_19 rfl ?_
  refine qx_iload_n C d_Q_sendResult_21 rfl rfl ?_
  refine cx_pMz C J n2 d_Q_sendResult_22 fp_Q_217 (by decide) (by omega) ?_
  refine qx_aload C d_Q_sendResult_25 rfl ?_
  refine qx_iload C d_Q_sendResult_27 rfl ?_
  refine cx_pM C J n2 d_Q_sendResult_29 fp_Q_213 (by decide) ?_
  refine qx_aload C d_Q_sendResult_32 rfl ?_
  refine qx_iload C d_Q_sendResult_34 rfl ?_
  refine cx_pM C J n2 d_Q_sendResult_36 fp_Q_219 (by decide) ?_
  refine qx_vret C d_Q_sendResult_39 (Nat.zero_le _) (Nat.zero_le _) ⟨rfl, g, _, E, N, rfl, cr_g.rf g, cr.post h hw hx ?_ ?_ ?_ (fun _ _ => rfl) (fun _ _ => rfl) ?_, ?_, rfl, rfl⟩
  · intro k hk
    rw [md_u_kk hk, md_u_kk hk, md_u_kk hk, md_begin_kk hk]
  · intro j h1 h2
    rw [cl_uI _ _ _ h1, cl_uI _ _ _ h1, cl_uI _ _ _ h1, cm_s_o hxw h1 h2]
  · rw [md_uk (by omega), md_uk (by omega), md_uk (by omega), cm_s_2, hI2]
  · obtain ⟨v1, v2, v3, v4, v5, v6, v7, v8, v9, v10⟩ := cm_b_v (I := I) (kind := 5) (fr := s) (to := to) (t := A 2 s) x
    obtain ⟨w0, w1, w2, w3, w4, w6, w7, w9⟩ := md_bg (A := A) (kind := 5) (fr := s) (to := to) (t := A 2 s)
    have hyy : (if yes = 0 then 0 else 1) = yes := by rcases hy with rfl | rfl <;> rfl
    rw [hyy]
    refine ⟨⟨?_, ?_, ?_, ?_, ?_, ?_, ?_, ?_⟩, fun hk => ?_, fun hk => ?_, fun hk => ?_⟩
    · simp [md_u, cm_s_x hxw, v1, w0]
    · simp [md_u, cm_s_x hxw, v2, w1]
    · simp [md_u, cm_s_x hxw, v3, w2]
    · simp [md_u, cm_s_x hxw, v4, w3]
    · simp [md_u]
    · simp [md_u, cm_s_x hxw, v7, w7]
    · simp [md_u]
    · simp [md_u]
    · simp [md_u, w0] at hk
    · simp [md_u, w0] at hk
    · simp [md_u, w0] at hk
  · rw [cl_uI _ _ _ (by omega), cl_uI _ _ _ (by omega), cl_uI _ _ _ (by omega), cm_s_o hxw (by omega) (by omega)]
