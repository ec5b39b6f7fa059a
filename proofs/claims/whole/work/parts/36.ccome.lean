/-! the class: questions, answers, calls and votes come -/
theorem cr.reply {G : qh_G} {iv : Nat → Option Nat} {g : qh_H} {I : md_A} {m : Nat → Nat} {E : cl_E} {N : Nat → Nat} {A : md_A} (h : cr G iv g I m E N A) (hw : 0 ≤ A 27 0 ∧ A 27 0 ≤ 48) {x : Nat} (hx : m (A 27 0).toNat = x) {kind fr to yes t : Int} (hk : kind = 1 ∨ kind = 3) (hy : yes = 0 ∨ yes = 1) : cr G iv g (md_u (cm_s I m kind fr to t) (100 + x) 10 yes) m E N (md_reply A kind fr to yes t) := by
  have hI2 := h.2.2.1
  have hxw : m (I 2 2).toNat = x := by rw [hI2]; exact hx
  refine cr.post h hw hx ?_ ?_ ?_ (fun _ _ => rfl) (fun _ _ => rfl) ?_
  · intro k hk
    rw [md_u_kk hk, md_begin_kk hk]
  · intro j h1 h2
    rw [cl_uI _ _ _ h1, cm_s_o hxw h1 h2]
  · rw [md_uk (by omega), cm_s_2, hI2]
  · obtain ⟨v1, v2, v3, v4, v5, v6, v7, v8, v9, v10⟩ := cm_b_v (I := I) (kind := kind) (fr := fr) (to := to) (t := t) x
    obtain ⟨w0, w1, w2, w3, w4, w6, w7, w9⟩ := md_bg (A := A) (kind := kind) (fr := fr) (to := to) (t := t)
    have hyy : (if yes = 0 then 0 else 1) = yes := by rcases hy with rfl | rfl <;> rfl
    rw [hyy]
    refine ⟨⟨?_, ?_, ?_, ?_, ?_, ?_, ?_, ?_⟩, fun hk2 => ?_, fun hk2 => ?_, fun hk2 => ?_⟩
    · simp [md_u, cm_s_x hxw, v1, w0]
    · simp [md_u, cm_s_x hxw, v2, w1]
    · simp [md_u, cm_s_x hxw, v3, w2]
    · simp [md_u, cm_s_x hxw, v4, w3]
    · simp [md_u, cm_s_x hxw, v5, w4]
    · simp [md_u, cm_s_x hxw, v7, w7]
    · simp [md_u, cm_s_x hxw, v9, w9]
    · simp [md_u]
    · exfalso
      simp [md_u, w0] at hk2
      omega
    · exfalso
      simp [md_u, w0] at hk2
      omega
    · exfalso
      simp [md_u, w0] at hk2
      omega
set_option maxRecDepth 100000 in
theorem c_question (l : Launch) (G : qh_G) (b : Nat) {ad : Nat → Nat} {iv : Nat → Option Nat} (J : cl_I ad iv) {g : qh_H} {I : md_A} {m : Nat → Nat} {E : cl_E} {N : Nat → Nat} {A : md_A} (h : cr G iv g I m E N A) (hw : md_ww A) {s : Nat} (hs : s < 5) (hB : md_B A s) {y : Nat} (hy : m 49 = y) (hM : cr_M G iv g I E N y (A 29)) (h0 : A 29 0 = 0) (h15 : A 15 s = 0 ∨ A 15 s = 1) (d : Nat) : qpv l y_Q_questionComes c_Q_questionComes 5 none (d + 4) 0 0 G b [.ref (ad 0), .ref (ad (10 + s)), .ref (ad (100 + y))] (ch G ad iv g I m E N) (cr_P G ad iv g I m E N (md_ques A s (A 29 1) (A 29 3))) := by
  obtain ⟨n1, n2, n3⟩ := cr_ne h hw.2
  rw [hy] at n1 n3
  have hI2 := h.2.2.1
  have hS := h.1 s hs
  have hL := h.2.1 s hs
  have hwn : I 2 2 = ((A 27 0).toNat : Nat) := by rw [hI2]; omega
  have hxw : m (I 2 2).toNat = m (A 27 0).toNat := by rw [hI2]
  generalize hx : m (A 27 0).toNat = x at n1 n2 hxw
  have r2 := hw.1 2 s
  have r3 := hw.1 29 3
  have h6 := hM.2.1 (Or.inl h0)
  refine qx_of (lo := [some (.ref (ad 0)), some (.ref (ad (10 + s))), some (.ref (ad (100 + y))), none, none]) (by decide) (fun w hw => List.mem_cons_of_mem _ hw) rfl (Nat.le_of_ble_eq_true rfl) rfl ?_
  intro X C
  have Tl : ∀ yes : Int, (yes = 0 ∨ yes = 1) → yes = md_quesG A s (A 29 3) → X 34 [some (.ref (ad 0)), some (.ref (ad (10 + s))), some (.ref (ad (100 + y))), none, none] [.int (iI yes)] (ch G ad iv g I m E N) 0 0 := by
    intro yes h01 hq
    have Sd : ∀ t : Int, t = (if md_quesG A s (A 29 3) = 0 then A 2 s else A 29 3) → X 63 [some (.ref (ad 0)), some (.ref (ad (10 + s))), some (.ref (ad (100 + y))), some (.int (iI yes)), none] [.int (iI t), .int (iI (A 29 1)), .int (iI s), .int (iI 1), .ref (ad 2)] (ch G ad iv g I m E N) 0 0 := by
      intro t ht
      refine nx_callq C (s_Q_questionComes_63 (ch_W J)) (c_send l G b J hwn (by omega) hx n2 d) w_W_send rfl rfl (Nat.le_of_ble_eq_true rfl) (by omega) (by decide) ?_
      show X _ _ (.ref (ad (100 + x)) :: []) _ _ _
      refine nx_astore C d_Q_questionComes_66 (Nat.le_of_ble_eq_true rfl) (lo' := [_, _, _, _, some (.ref _)]) rfl ?_
      refine qx_aload C d_Q_questionComes_68 rfl ?_
      refine qx_iload_n C d_Q_questionComes_70 rfl rfl ?_
      refine cx_pMz C J n2 d_Q_questionComes_71 fp_Q_217 (by decide) (by omega) ?_
      refine qx_vret C d_Q_questionComes_74 (Nat.zero_le _) (Nat.zero_le _) ⟨rfl, g, _, E, N, rfl, cr_g.rf g, ?_, ?_, rfl, rfl⟩
      · unfold md_ques
        rw [← hq] at ht ⊢
        rw [← ht]
        exact h.reply hw.2 hx (Or.inl rfl) h01
      · rw [hy, cl_uI _ _ _ (by omega), cm_s_o hxw (by omega) (by omega)]
    refine nx_istore_n C d_Q_questionComes_34 rfl (Nat.le_of_ble_eq_true rfl) (lo' := [_, _, _, some (.int _), _]) rfl ?_
    refine qx_aload_n C d_Q_questionComes_35 rfl rfl ?_
    refine qx_get C d_Q_questionComes_36 fl_Q_35 (ch_Q J) rfl ?_
    refine qx_iconst C d_Q_questionComes_39 (v := iI (1)) rfl ?_
    refine qx_aload_n C d_Q_questionComes_40 rfl rfl ?_
    refine qx_get C d_Q_questionComes_41 fl_Q_55 (ch_S J hs) rfl ?_
    refine qx_aload_n C d_Q_questionComes_44 rfl rfl ?_
    refine qx_get C d_Q_questionComes_45 fl_Q_209 (ch_M J n3) rfl ?_
    rw [hM.1.2.1]
    refine qx_iload_n C d_Q_questionComes_48 rfl rfl ?_
    refine nx_if_eq C 59 d_Q_questionComes_49 (by decide) (by omega) (fun z1 => ?_) (fun z1 => ?_)
    · refine qx_aload_n C d_Q_questionComes_59 rfl rfl ?_
      refine qx_get C d_Q_questionComes_60 fl_Q_61 (ch_S J hs) rfl ?_
      rw [hS.1.2.2.1]
      exact Sd _ (by rw [if_pos (by omega)])
    · refine qx_aload_n C d_Q_questionComes_52 rfl rfl ?_
      refine qx_get C d_Q_questionComes_53 fl_Q_212 (ch_M J n3) rfl ?_
      rw [hM.1.2.2.2.1]
      refine qx_goto C d_Q_questionComes_56 (tgt := 63) (by decide) ?_
      exact Sd _ (by rw [if_neg (by omega)])
  refine qx_aload_n C d_Q_questionComes_0 rfl rfl ?_
  refine qx_get C d_Q_questionComes_1 fl_Q_47 (ch_S J hs) rfl ?_
  rw [hS.1.2.1]
  refine nx_if_ne C 33 d_Q_questionComes_4 (by decide) (by omega) (fun z1 => ?_) (fun z1 => ?_)
  · refine qx_iconst C d_Q_questionComes_33 (v := iI (0)) rfl ?_
    exact Tl 0 (Or.inl rfl) (by unfold md_quesG; rw [if_neg (by omega)])
  · refine qx_aload_n C d_Q_questionComes_7 rfl rfl ?_
    refine qx_get C d_Q_questionComes_8 fl_Q_212 (ch_M J n3) rfl ?_
    rw [hM.1.2.2.2.1]
    refine qx_aload_n C d_Q_questionComes_11 rfl rfl ?_
    refine qx_get C d_Q_questionComes_12 fl_Q_61 (ch_S J hs) rfl ?_
    rw [hS.1.2.2.1]
    refine nx_icmp_le C 33 d_Q_questionComes_15 (by decide) (by omega) (by omega) (fun z2 => ?_) (fun z2 => ?_)
    · refine qx_iconst C d_Q_questionComes_33 (v := iI (0)) rfl ?_
      exact Tl 0 (Or.inl rfl) (by unfold md_quesG; rw [if_neg (by omega)])
    · refine qx_aload_n C d_Q_questionComes_18 rfl rfl ?_
      refine qx_get C d_Q_questionComes_19 fl_Q_85 (ch_S J hs) rfl ?_
      refine qx_aload_n C d_Q_questionComes_22 rfl rfl ?_
      refine nx_call0 C (s_Q_questionComes_23 (ch_L J hs)) (c_behind l G b J hw.1 hs hL hB n3 (hw.1 29 4) (hw.1 29 5) hM.1.2.2.2.2.1 h6 d) w_L_isBehindOf rfl rfl (Nat.le_of_ble_eq_true rfl) (by omega) (by decide) ?_
      rcases md_lies_01 A (A 29 4) (A 29 5) s with hl | hl
      · rw [hl]
        refine nx_if_ne C 33 d_Q_questionComes_26 (by decide) (by omega) (fun z3 => ?_) (fun z3 => ?_)
        · exact absurd z3 (by omega)
        · refine qx_iconst C d_Q_questionComes_29 (v := iI (1)) rfl ?_
          refine qx_goto C d_Q_questionComes_30 (tgt := 34) (by decide) ?_
          exact Tl 1 (Or.inr rfl) (by unfold md_quesG; rw [if_pos (by omega)])
      · rw [hl]
        refine nx_if_ne C 33 d_Q_questionComes_26 (by decide) (by omega) (fun z3 => ?_) (fun z3 => ?_)
        · refine qx_iconst C d_Q_questionComes_33 (v := iI (0)) rfl ?_
          exact Tl 0 (Or.inl rfl) (by unfold md_quesG; rw [if_neg (by omega)])
        · exact absurd z3 (by omega)
/-- an answer, without the weighing -/
def md_ans0 (A : md_A) (s fr t : Int) : md_A := if A 29 6 = 1 then (if A 13 s = 1 ∧ t = A 2 s + 1 then md_u A 16 s (io (A 16 s) (one fr)) else A) else if A 2 s < t then md_newTerm A s t else A
def md_voted0 (A : md_A) (s fr t : Int) : md_A := if ¬ A 29 6 = 0 ∧ A 13 s = 2 ∧ t = A 2 s then md_u A 16 s (io (A 16 s) (one fr)) else A
set_option maxRecDepth 100000 in
theorem c_answer (l : Launch) (G : qh_G) (b : Nat) {ad : Nat → Nat} {iv : Nat → Option Nat} (J : cl_I ad iv) {g : qh_H} {I : md_A} {m : Nat → Nat} {E : cl_E} {N : Nat → Nat} {A : md_A} (h : cr G iv g I m E N A) (hv : md_V A) {s : Nat} (hs : s < 5) {y : Nat} (hy : m 49 = y) (hM : cr_M G iv g I E N y (A 29)) (h6 : A 29 6 = 0 ∨ A 29 6 = 1) (ht : rng (A 2 s + 1)) (hy5 : set5 (A 16 s)) (hf : 0 ≤ A 29 1 ∧ A 29 1 < 5) (d : Nat) : qpv l y_Q_answerComes c_Q_answerComes 3 none (d + 4) 0 0 G b [.ref (ad 0), .ref (ad (10 + s)), .ref (ad (100 + y))] (ch G ad iv g I m E N) (cr_P G ad iv g I m E N (md_ans0 A s (A 29 1) (A 29 3))) := by
  have n3 : y < 50 := by rw [← hy]; exact h.2.2.2.1.1 49 (by omega)
  have hS := h.1 s hs
  have r13 := hv.1.1 13 s
  have r2 := hv.1.1 2 s
  have r3 := hv.1.1 29 3
  have h1s := set5_one hf.1 hf.2
  have Ex : ∀ X : qw_T, qw_C l G b "QuorumLog" "answerComes" c_Q_answerComes 3 none [] (qr (d + 4) 0 0) (fun oc h' => oc = .returned none ∧ cr_P G ad iv g I m E N (md_ans0 A s (A 29 1) (A 29 3)) h') X → md_ans0 A s (A 29 1) (A 29 3) = A → X 66 [some (.ref (ad 0)), some (.ref (ad (10 + s))), some (.ref (ad (100 + y)))] [] (ch G ad iv g I m E N) 0 0 := by
    intro X C hc
    exact qx_vret C d_Q_answerComes_66 (Nat.zero_le _) (Nat.zero_le _) ⟨rfl, g, I, E, N, rfl, cr_g.rf g, by rw [hc]; exact h, rfl, rfl, rfl⟩
  refine qx_of (lo := [some (.ref (ad 0)), some (.ref (ad (10 + s))), some (.ref (ad (100 + y)))]) (by decide) (fun w hw => List.mem_cons_of_mem _ hw) rfl (Nat.le_of_ble_eq_true rfl) rfl ?_
  intro X C
  refine qx_aload_n C d_Q_answerComes_0 rfl rfl ?_
  refine qx_get C d_Q_answerComes_1 fl_Q_217 (ch_M J n3) rfl ?_
  rw [hM.1.2.2.2.2.2.2.2]
  refine nx_if_eq C 46 d_Q_answerComes_4 (by decide) (by omega) (fun z1 => ?_) (fun z1 => ?_)
  · refine qx_aload_n C d_Q_answerComes_46 rfl rfl ?_
    refine qx_get C d_Q_answerComes_47 fl_Q_212 (ch_M J n3) rfl ?_
    rw [hM.1.2.2.2.1]
    refine qx_aload_n C d_Q_answerComes_50 rfl rfl ?_
    refine qx_get C d_Q_answerComes_51 fl_Q_61 (ch_S J hs) rfl ?_
    rw [hS.1.2.2.1]
    refine nx_icmp_le C 66 d_Q_answerComes_54 (by decide) (by omega) (by omega) (fun z2 => ?_) (fun z2 => ?_)
    · exact Ex X C (by unfold md_ans0; rw [if_neg (by omega), if_neg (by omega)])
    · refine qx_aload_n C d_Q_answerComes_57 rfl rfl ?_
      refine qx_aload_n C d_Q_answerComes_58 rfl rfl ?_
      refine qx_aload_n C d_Q_answerComes_59 rfl rfl ?_
      refine qx_get C d_Q_answerComes_60 fl_Q_212 (ch_M J n3) rfl ?_
      rw [hM.1.2.2.2.1]
      refine nx_callpv C (s_Q_answerComes_63 (ch_Q J)) (c_enter l G b J h hv.1.1 hs hv.2 r3 d) w_Q_enterTerm rfl rfl (Nat.le_of_ble_eq_true rfl) (by omega) (by decide) (fun hh hP => ?_)
      obtain ⟨g2, I2, E2, N2, rfl, hg2, h2, j1, j2, j3⟩ := hP
      exact qx_vret C d_Q_answerComes_66 (Nat.zero_le _) (Nat.zero_le _) ⟨rfl, g2, I2, E2, N2, rfl, hg2, by unfold md_ans0; rw [if_neg (by omega), if_pos (by omega)]; exact h2, j1, j2, j3⟩
  · refine qx_aload_n C d_Q_answerComes_7 rfl rfl ?_
    refine qx_get C d_Q_answerComes_8 fl_Q_51 (ch_S J hs) rfl ?_
    rw [hS.1.2.2.2.2.1]
    refine qx_iconst C d_Q_answerComes_11 (v := iI (1)) rfl ?_
    refine nx_icmp_ne C 66 d_Q_answerComes_12 (by decide) (by omega) (by omega) (fun z2 => ?_) (fun z2 => ?_)
    · exact Ex X C (by unfold md_ans0; rw [if_pos (by omega), if_neg (by omega)])
    · refine qx_aload_n C d_Q_answerComes_15 rfl rfl ?_
      refine qx_get C d_Q_answerComes_16 fl_Q_212 (ch_M J n3) rfl ?_
      rw [hM.1.2.2.2.1]
      refine qx_aload_n C d_Q_answerComes_19 rfl rfl ?_
      refine qx_get C d_Q_answerComes_20 fl_Q_61 (ch_S J hs) rfl ?_
      rw [hS.1.2.2.1]
      refine qx_iconst C d_Q_answerComes_23 (v := iI (1)) rfl ?_
      refine nx_iadd C d_Q_answerComes_24 ?_
      refine nx_icmp_ne C 66 d_Q_answerComes_25 (by decide) (by omega) (by omega) (fun z3 => ?_) (fun z3 => ?_)
      · exact Ex X C (by unfold md_ans0; rw [if_pos (by omega), if_neg (by omega)])
      · refine qx_aload_n C d_Q_answerComes_28 rfl rfl ?_
        refine qx_dup C d_Q_answerComes_29 rfl ?_
        refine qx_get C d_Q_answerComes_30 fl_Q_58 (ch_S J hs) rfl ?_
        rw [hS.1.2.2.2.2.2.2.2]
        refine qx_iconst C d_Q_answerComes_33 (v := iI (1)) rfl ?_
        refine qx_aload_n C d_Q_answerComes_34 rfl rfl ?_
        refine qx_get C d_Q_answerComes_35 fl_Q_209 (ch_M J n3) rfl ?_
        rw [hM.1.2.1]
        refine nx_ishl1 C d_Q_answerComes_38 (by omega) ?_
        refine nx_ior C d_Q_answerComes_39 (by omega) (by omega) ?_
        refine cx_pS C J hs (kz := 12) d_Q_answerComes_40 fp_Q_58 (by decide) rfl ?_
        refine qx_goto C d_Q_answerComes_43 (tgt := 66) (by decide) ?_
        exact qx_vret C d_Q_answerComes_66 (Nat.zero_le _) (Nat.zero_le _) ⟨rfl, g, _, E, N, rfl, cr_g.rf g, by unfold md_ans0; rw [if_pos (by omega), if_pos (by omega)]; exact h.u hs (by unfold cr_F; omega), cl_uI _ _ _ (by omega), rfl, rfl⟩
set_option maxRecDepth 100000 in
theorem c_vote (l : Launch) (G : qh_G) (b : Nat) {ad : Nat → Nat} {iv : Nat → Option Nat} (J : cl_I ad iv) {g : qh_H} {I : md_A} {m : Nat → Nat} {E : cl_E} {N : Nat → Nat} {A : md_A} (h : cr G iv g I m E N A) (hv : md_V A) {s : Nat} (hs : s < 5) {y : Nat} (hy : m 49 = y) (hM : cr_M G iv g I E N y (A 29)) (hy5 : set5 (A 16 s)) (hf : 0 ≤ A 29 1 ∧ A 29 1 < 5) (d : Nat) : qpv l y_Q_voteComes c_Q_voteComes 3 none (d + 4) 0 0 G b [.ref (ad 0), .ref (ad (10 + s)), .ref (ad (100 + y))] (ch G ad iv g I m E N) (cr_P G ad iv g I m E N (md_voted0 A s (A 29 1) (A 29 3))) := by
  have n3 : y < 50 := by rw [← hy]; exact h.2.2.2.1.1 49 (by omega)
  have hS := h.1 s hs
  have r13 := hv.1.1 13 s
  have r2 := hv.1.1 2 s
  have r3 := hv.1.1 29 3
  have r6 := hv.1.1 29 6
  have h1s := set5_one hf.1 hf.2
  have Ex : ∀ X : qw_T, qw_C l G b "QuorumLog" "voteComes" c_Q_voteComes 3 none [] (qr (d + 4) 0 0) (fun oc h' => oc = .returned none ∧ cr_P G ad iv g I m E N (md_voted0 A s (A 29 1) (A 29 3)) h') X → md_voted0 A s (A 29 1) (A 29 3) = A → X 41 [some (.ref (ad 0)), some (.ref (ad (10 + s))), some (.ref (ad (100 + y)))] [] (ch G ad iv g I m E N) 0 0 := by
    intro X C hc
    exact qx_vret C d_Q_voteComes_41 (Nat.zero_le _) (Nat.zero_le _) ⟨rfl, g, I, E, N, rfl, cr_g.rf g, by rw [hc]; exact h, rfl, rfl, rfl⟩
  refine qx_of (lo := [some (.ref (ad 0)), some (.ref (ad (10 + s))), some (.ref (ad (100 + y)))]) (by decide) (fun w hw => List.mem_cons_of_mem _ hw) rfl (Nat.le_of_ble_eq_true rfl) rfl ?_
  intro X C
  refine qx_aload_n C d_Q_voteComes_0 rfl rfl ?_
  refine qx_get C d_Q_voteComes_1 fl_Q_217 (ch_M J n3) rfl ?_
  rw [hM.1.2.2.2.2.2.2.2]
  refine nx_if_eq C 41 d_Q_voteComes_4 (by decide) (by omega) (fun z1 => ?_) (fun z1 => ?_)
  · exact Ex X C (by unfold md_voted0; rw [if_neg (by omega)])
  · refine qx_aload_n C d_Q_voteComes_7 rfl rfl ?_
    refine qx_get C d_Q_voteComes_8 fl_Q_51 (ch_S J hs) rfl ?_
    rw [hS.1.2.2.2.2.1]
    refine qx_iconst C d_Q_voteComes_11 (v := iI (2)) rfl ?_
    refine nx_icmp_ne C 41 d_Q_voteComes_12 (by decide) (by omega) (by omega) (fun z2 => ?_) (fun z2 => ?_)
    · exact Ex X C (by unfold md_voted0; rw [if_neg (by omega)])
    · refine qx_aload_n C d_Q_voteComes_15 rfl rfl ?_
      refine qx_get C d_Q_voteComes_16 fl_Q_212 (ch_M J n3) rfl ?_
      rw [hM.1.2.2.2.1]
      refine qx_aload_n C d_Q_voteComes_19 rfl rfl ?_
      refine qx_get C d_Q_voteComes_20 fl_Q_61 (ch_S J hs) rfl ?_
      rw [hS.1.2.2.1]
      refine nx_icmp_ne C 41 d_Q_voteComes_23 (by decide) (by omega) (by omega) (fun z3 => ?_) (fun z3 => ?_)
      · exact Ex X C (by unfold md_voted0; rw [if_neg (by omega)])
      · refine qx_aload_n C d_Q_voteComes_26 rfl rfl ?_
        refine qx_dup C d_Q_voteComes_27 rfl ?_
        refine qx_get C d_Q_voteComes_28 fl_Q_58 (ch_S J hs) rfl ?_
        rw [hS.1.2.2.2.2.2.2.2]
        refine qx_iconst C d_Q_voteComes_31 (v := iI (1)) rfl ?_
        refine qx_aload_n C d_Q_voteComes_32 rfl rfl ?_
        refine qx_get C d_Q_voteComes_33 fl_Q_209 (ch_M J n3) rfl ?_
        rw [hM.1.2.1]
        refine nx_ishl1 C d_Q_voteComes_36 (by omega) ?_
        refine nx_ior C d_Q_voteComes_37 (by omega) (by omega) ?_
        refine cx_pS C J hs (kz := 12) d_Q_voteComes_38 fp_Q_58 (by decide) rfl ?_
        exact qx_vret C d_Q_voteComes_41 (Nat.zero_le _) (Nat.zero_le _) ⟨rfl, g, _, E, N, rfl, cr_g.rf g, by unfold md_voted0; rw [if_pos (by omega)]; exact h.u hs (by unfold cr_F; omega), cl_uI _ _ _ (by omega), rfl, rfl⟩
set_option maxRecDepth 100000 in
theorem c_call (l : Launch) (G : qh_G) (b : Nat) {ad : Nat → Nat} {iv : Nat → Option Nat} (J : cl_I ad iv) {g : qh_H} {I : md_A} {m : Nat → Nat} {E : cl_E} {N : Nat → Nat} {A : md_A} (h : cr G iv g I m E N A) (hw : md_ww A) {s : Nat} (hs : s < 5) (hB : md_B A s) {y : Nat} (hy : m 49 = y) (hM : cr_M G iv g I E N y (A 29)) (h0 : A 29 0 = 2) (d : Nat) : qpv l y_Q_callComes c_Q_callComes 6 none (d + 4) 0 0 G b [.ref (ad 0), .ref (ad (10 + s)), .ref (ad (100 + y))] (ch G ad iv g I m E N) (cr_P G ad iv g I m E N (md_called A s (A 29 1) (A 29 3))) := by
  obtain ⟨n1, n2, n3⟩ := cr_ne h hw.2
  rw [hy] at n1 n3
  have hI2 := h.2.2.1
  have hS := h.1 s hs
  have hL := h.2.1 s hs
  have hwn : I 2 2 = ((A 27 0).toNat : Nat) := by rw [hI2]; omega
  generalize hx : m (A 27 0).toNat = x at n1 n2
  have r2 := hw.1 2 s
  have r1 := hw.1 29 1
  have r3 := hw.1 29 3
  have rv := hw.1 3 s
  have h6 := hM.2.1 (Or.inr (Or.inl h0))
  refine qx_of (lo := [some (.ref (ad 0)), some (.ref (ad (10 + s))), some (.ref (ad (100 + y))), none, none, none]) (by decide) (fun w hw => List.mem_cons_of_mem _ hw) rfl (Nat.le_of_ble_eq_true rfl) rfl ?_
  intro X C
  have Sd : ∀ (yes fr : Int) (I1 : md_A), (yes = 0 ∨ yes = 1) → yes = md_callG A s (A 29 1) (A 29 3) → cr G iv g I1 m E N (md_callA A s (A 29 1) (A 29 3)) → (∀ j, j ≠ 10 + s → I1 j = I j) → I1 (10 + s) 7 = A 2 s → X 71 [some (.ref (ad 0)), some (.ref (ad (10 + s))), some (.ref (ad (100 + y))), some (.int (iI fr)), some (.int (iI yes)), none] [] (ch G ad iv g I1 m E N) 0 0 := by
    intro yes fr I1 h01 hq h1 hI1 hI7
    have e27 : md_callA A s (A 29 1) (A 29 3) 27 0 = A 27 0 := by unfold md_callA; split; rfl; exact md_uk (by decide)
    have hwn1 : I1 2 2 = ((A 27 0).toNat : Nat) := by rw [hI1 _ (by omega)]; exact hwn
    have hxw : m (I1 2 2).toNat = x := by rw [hwn1, Int.toNat_natCast]; exact hx
    have hMs : I1 (100 + y) 2 = A 29 1 := by rw [hI1 _ (by omega)]; exact hM.1.2.1
    refine qx_aload_n C d_Q_callComes_71 rfl rfl ?_
    refine qx_get C d_Q_callComes_72 fl_Q_35 (ch_Q J) rfl ?_
    refine qx_iconst C d_Q_callComes_75 (v := iI (3)) rfl ?_
    refine qx_aload_n C d_Q_callComes_76 rfl rfl ?_
    refine qx_get C d_Q_callComes_77 fl_Q_55 (ch_S J hs) rfl ?_
    refine qx_aload_n C d_Q_callComes_80 rfl rfl ?_
    refine qx_get C d_Q_callComes_81 fl_Q_209 (ch_M J n3) rfl ?_
    rw [hMs]
    refine qx_aload_n C d_Q_callComes_84 rfl rfl ?_
    refine qx_get C d_Q_callComes_85 fl_Q_61 (ch_S J hs) rfl ?_
    rw [hI7]
    refine nx_callq C (s_Q_callComes_88 (ch_W J)) (c_send l G b J hwn1 (by omega) hx n2 d) w_W_send rfl rfl (Nat.le_of_ble_eq_true rfl) (by omega) (by decide) ?_
    show X _ _ (.ref (ad (100 + x)) :: []) _ _ _
    refine nx_astore C d_Q_callComes_91 (Nat.le_of_ble_eq_true rfl) (lo' := [_, _, _, _, _, some (.ref _)]) rfl ?_
    refine qx_aload C d_Q_callComes_93 rfl ?_
    refine qx_iload C d_Q_callComes_95 rfl ?_
    refine cx_pMz C J n2 d_Q_callComes_97 fp_Q_217 (by decide) (by omega) ?_
    refine qx_vret C d_Q_callComes_100 (Nat.zero_le _) (Nat.zero_le _) ⟨rfl, g, _, E, N, rfl, cr_g.rf g, ?_, ?_, rfl, rfl⟩
    · unfold md_called
      rw [← hq]
      exact h1.reply (by rw [e27]; exact hw.2) (by rw [e27]; exact hx) (Or.inr rfl) h01
    · rw [hy, cl_uI _ _ _ (by omega), cm_s_o hxw (by omega) (by omega), hI1 _ (by omega)]
  have Tl : ∀ (yes fr : Int), (yes = 0 ∨ yes = 1) → yes = md_callG A s (A 29 1) (A 29 3) → X 56 [some (.ref (ad 0)), some (.ref (ad (10 + s))), some (.ref (ad (100 + y))), some (.int (iI fr)), none, none] [.int (iI yes)] (ch G ad iv g I m E N) 0 0 := by
    intro yes fr h01 hq
    refine nx_istore C d_Q_callComes_56 (Nat.le_of_ble_eq_true rfl) (lo' := [_, _, _, _, some (.int _), _]) rfl ?_
    refine qx_iload C d_Q_callComes_58 rfl ?_
    refine nx_if_eq C 71 d_Q_callComes_60 (by decide) (by omega) (fun z1 => ?_) (fun z1 => ?_)
    · exact Sd yes fr I h01 hq (by unfold md_callA; rw [if_pos (by omega)]; exact h) (fun _ _ => rfl) hS.1.2.2.1
    · refine qx_aload_n C d_Q_callComes_63 rfl rfl ?_
      refine qx_aload_n C d_Q_callComes_64 rfl rfl ?_
      refine qx_get C d_Q_callComes_65 fl_Q_209 (ch_M J n3) rfl ?_
      rw [hM.1.2.1]
      refine cx_pS C J hs (kz := 8) d_Q_callComes_68 fp_Q_220 (by decide) rfl ?_
      exact Sd yes fr _ h01 hq (by unfold md_callA; rw [if_neg (by omega)]; exact h.u hs (by unfold cr_F; omega)) (fun j hj => cl_uI _ _ _ hj) (by rw [md_ui (by decide)]; exact hS.1.2.2.1)
  have Fr : ∀ fr : Int, (fr = 0 ∨ fr = 1) → (fr = 1 ↔ (A 3 s = -1 ∨ A 3 s = A 29 1)) → X 24 [some (.ref (ad 0)), some (.ref (ad (10 + s))), some (.ref (ad (100 + y))), none, none, none] [.int (iI fr)] (ch G ad iv g I m E N) 0 0 := by
    intro fr h01 hfr
    refine nx_istore_n C d_Q_callComes_24 rfl (Nat.le_of_ble_eq_true rfl) (lo' := [_, _, _, some (.int _), _, _]) rfl ?_
    refine qx_aload_n C d_Q_callComes_25 rfl rfl ?_
    refine qx_get C d_Q_callComes_26 fl_Q_212 (ch_M J n3) rfl ?_
    rw [hM.1.2.2.2.1]
    refine qx_aload_n C d_Q_callComes_29 rfl rfl ?_
    refine qx_get C d_Q_callComes_30 fl_Q_61 (ch_S J hs) rfl ?_
    rw [hS.1.2.2.1]
    refine nx_icmp_ne C 55 d_Q_callComes_33 (by decide) (by omega) (by omega) (fun z1 => ?_) (fun z1 => ?_)
    · refine qx_iconst C d_Q_callComes_55 (v := iI (0)) rfl ?_
      exact Tl 0 fr (Or.inl rfl) (by unfold md_callG; rw [if_neg (by omega)])
    · refine qx_iload_n C d_Q_callComes_36 rfl rfl ?_
      refine nx_if_eq C 55 d_Q_callComes_37 (by decide) (by omega) (fun z2 => ?_) (fun z2 => ?_)
      · refine qx_iconst C d_Q_callComes_55 (v := iI (0)) rfl ?_
        exact Tl 0 fr (Or.inl rfl) (by unfold md_callG; rw [if_neg (by omega)])
      · refine qx_aload_n C d_Q_callComes_40 rfl rfl ?_
        refine qx_get C d_Q_callComes_41 fl_Q_85 (ch_S J hs) rfl ?_
        refine qx_aload_n C d_Q_callComes_44 rfl rfl ?_
        refine nx_call0 C (s_Q_callComes_45 (ch_L J hs)) (c_behind l G b J hw.1 hs hL hB n3 (hw.1 29 4) (hw.1 29 5) hM.1.2.2.2.2.1 h6 d) w_L_isBehindOf rfl rfl (Nat.le_of_ble_eq_true rfl) (by omega) (by decide) ?_
        rcases md_lies_01 A (A 29 4) (A 29 5) s with hl | hl
        · rw [hl]
          refine nx_if_ne C 55 d_Q_callComes_48 (by decide) (by omega) (fun z3 => ?_) (fun z3 => ?_)
          · exact absurd z3 (by omega)
          · refine qx_iconst C d_Q_callComes_51 (v := iI (1)) rfl ?_
            refine qx_goto C d_Q_callComes_52 (tgt := 56) (by decide) ?_
            exact Tl 1 fr (Or.inr rfl) (by unfold md_callG; rw [if_pos (by omega)])
        · rw [hl]
          refine nx_if_ne C 55 d_Q_callComes_48 (by decide) (by omega) (fun z3 => ?_) (fun z3 => ?_)
          · refine qx_iconst C d_Q_callComes_55 (v := iI (0)) rfl ?_
            exact Tl 0 fr (Or.inl rfl) (by unfold md_callG; rw [if_neg (by omega)])
          · exact absurd z3 (by omega)
  refine qx_aload_n C d_Q_callComes_0 rfl rfl ?_
  refine qx_get C d_Q_callComes_1 fl_Q_220 (ch_S J hs) rfl ?_
  rw [hS.1.2.2.2.1]
  refine qx_iconst C d_Q_callComes_4 (v := iI (-1)) rfl ?_
  refine nx_icmp_eq C 19 d_Q_callComes_5 (by decide) (by omega) (by omega) (fun z1 => ?_) (fun z1 => ?_)
  · refine qx_iconst C d_Q_callComes_19 (v := iI (1)) rfl ?_
    refine qx_goto C d_Q_callComes_20 (tgt := 24) (by decide) ?_
    exact Fr 1 (Or.inr rfl) (by omega)
  · refine qx_aload_n C d_Q_callComes_8 rfl rfl ?_
    refine qx_get C d_Q_callComes_9 fl_Q_220 (ch_S J hs) rfl ?_
    rw [hS.1.2.2.2.1]
    refine qx_aload_n C d_Q_callComes_12 rfl rfl ?_
    refine qx_get C d_Q_callComes_13 fl_Q_209 (ch_M J n3) rfl ?_
    rw [hM.1.2.1]
    refine nx_icmp_ne C 23 d_Q_callComes_16 (by decide) (by omega) (by omega) (fun z2 => ?_) (fun z2 => ?_)
    · refine qx_iconst C d_Q_callComes_23 (v := iI (0)) rfl ?_
      exact Fr 0 (Or.inl rfl) (by omega)
    · refine qx_iconst C d_Q_callComes_19 (v := iI (1)) rfl ?_
      refine qx_goto C d_Q_callComes_20 (tgt := 24) (by decide) ?_
      exact Fr 1 (Or.inr rfl) (by omega)
