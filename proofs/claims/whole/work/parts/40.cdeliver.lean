/-! the class: a message comes, is delivered, is lost -/
noncomputable def md_come0 (A : md_A) (s kind : Int) : md_A := if kind = 0 then md_ques A s (A 29 1) (A 29 3) else if kind = 1 then md_ans0 A s (A 29 1) (A 29 3) else if kind = 2 then md_called A s (A 29 1) (A 29 3) else if kind = 3 then md_voted0 A s (A 29 1) (A 29 3) else if kind = 4 then md_app A s (A 29 1) else if kind = 5 then md_res A s (A 29 1) else md_ins A s (A 29 1)
/-- what is asked of a message's words -/
def md_MW (c : Int → Int) : Prop := (0 ≤ c 0 ∧ c 0 ≤ 6) ∧ (0 ≤ c 1 ∧ c 1 < 5) ∧ (c 6 = 0 ∨ c 6 = 1) ∧ (0 < c 7 → 0 ≤ c 10) ∧ (1 < c 7 → 0 ≤ c 14)
set_option maxRecDepth 100000 in
set_option maxHeartbeats 1000000 in
theorem c_come (l : Launch) (G : qh_G) (b : Nat) {ad : Nat → Nat} {iv : Nat → Option Nat} (J : cl_I ad iv) {g : qh_H} {I : md_A} {m : Nat → Nat} {E : cl_E} {N : Nat → Nat} {A : md_A} (h : cr G iv g I m E N A) (hv : md_V A) {s : Nat} (hs : s < 5) (h2s : A 29 2 = s) (hBa : ∀ s' : Nat, s' < 5 → md_B A s') {y : Nat} (hy : m 49 = y) (hM : cr_M G iv g I E N y (A 29)) (hW : md_MW (A 29)) (h15 : A 15 s = 0 ∨ A 15 s = 1) (hD : md_DQ (md_in A) s) (d : Nat) : qpv l y_Q_come c_Q_come 3 none (d + 5) 0 0 G b [.ref (ad 0), .ref (ad (10 + s)), .ref (ad (100 + y))] (ch G ad iv g I m E N) (cr_P G ad iv g I m E N (md_come0 (md_in A) s (A 29 0))) := by
  have n3 : y < 50 := by rw [← hy]; exact h.2.2.2.1.1 49 (by omega)
  have hS := h.1 s hs
  obtain ⟨hk, hf, h6, he0, he1⟩ := hW
  obtain ⟨dV, dT, dn, dk, dz, d4, d7, d5, d18⟩ := hD
  have r2 := hv.1.1 2 s
  have r3 := hv.1.1 29 3
  have e29 : md_in A 29 = A 29 := by funext z; exact md_in_k (by decide)
  have e15 : md_in A 15 s = A 15 s := md_in_k (by decide)
  have hlg : md_lg A (md_in A) := fun k k1 k2 => by funext z; exact md_in_k (by omega)
  have hBi : ∀ s' : Nat, s' < 5 → md_B (md_in A) s' := fun s' hs' => hlg.B (hBa s' hs')
  refine qx_of (lo := [some (.ref (ad 0)), some (.ref (ad (10 + s))), some (.ref (ad (100 + y)))]) (by decide) (fun w hw => List.mem_cons_of_mem _ hw) rfl (Nat.le_of_ble_eq_true rfl) rfl ?_
  intro X C
  have Sw : ∀ (g1 : qh_H) (I1 : md_A) (E1 : cl_E) (N1 : Nat → Nat), cr G iv g1 I1 m E1 N1 (md_in A) → cr_M G iv g1 I1 E1 N1 y (md_in A 29) → cr_g g g1 → I1 (100 + m 49) = I (100 + m 49) → E1 (200 + m 49) = E (200 + m 49) → N1 (100 + m 49) = N (100 + m 49) → X 35 [some (.ref (ad 0)), some (.ref (ad (10 + s))), some (.ref (ad (100 + y)))] [] (ch G ad iv g1 I1 m E1 N1) 0 0 := by
    intro g1 I1 E1 N1 h1 hM1 hg1 j1 j2 j3
    have Fin : ∀ hh : qh_H, cr_P G ad iv g1 I1 m E1 N1 (md_come0 (md_in A) s (A 29 0)) hh → X 143 [some (.ref (ad 0)), some (.ref (ad (10 + s))), some (.ref (ad (100 + y)))] [] hh 0 0 := by
      intro hh hP
      obtain ⟨g5, I5, E5, N5, rfl, hg5, h5, p1, p2, p3⟩ := hP
      exact qx_vret C d_Q_come_143 (Nat.zero_le _) (Nat.zero_le _) ⟨rfl, g5, I5, E5, N5, rfl, hg1.tr hg5, h5, p1.trans j1, p2.trans j2, p3.trans j3⟩
    refine qx_aload_n C d_Q_come_35 rfl rfl ?_
    refine qx_get C d_Q_come_36 fl_Q_201 (ch_M J n3) rfl ?_
    rw [hM1.1.1, e29]
    have hcase : A 29 0 = 0 ∨ A 29 0 = 1 ∨ A 29 0 = 2 ∨ A 29 0 = 3 ∨ A 29 0 = 4 ∨ A 29 0 = 5 ∨ A 29 0 = 6 := by omega
    rcases hcase with e | e | e | e | e | e | e
    · rw [e] at Fin ⊢
      refine qx_tabIn C d_Q_come_39 (off := 41) (tgt := 80) (by decide) (by decide) (by decide) (by decide) ?_
      refine qx_aload_n C d_Q_come_80 rfl rfl ?_
      refine qx_aload_n C d_Q_come_81 rfl rfl ?_
      refine qx_aload_n C d_Q_come_82 rfl rfl ?_
      refine nx_callpv C (s_Q_come_83 (ch_Q J)) (c_question l G b J h1 dV.1 hs (hBi s hs) hy hM1 (by rw [e29]; exact e) (by rw [e15]; exact h15) d) w_Q_questionComes rfl rfl (Nat.le_of_ble_eq_true rfl) (by omega) (by decide) (fun hh hP => ?_)
      refine qx_goto C d_Q_come_86 (tgt := 143) (by decide) ?_
      exact Fin hh (by unfold md_come0; rw [if_pos (by omega)]; exact hP)
    · rw [e] at Fin ⊢
      refine qx_tabIn C d_Q_come_39 (off := 50) (tgt := 89) (by decide) (by decide) (by decide) (by decide) ?_
      refine qx_aload_n C d_Q_come_89 rfl rfl ?_
      refine qx_aload_n C d_Q_come_90 rfl rfl ?_
      refine qx_aload_n C d_Q_come_91 rfl rfl ?_
      refine nx_callpv C (s_Q_come_92 (ch_Q J)) (c_answer l G b J h1 dV hs hy hM1 (by rw [e29]; exact h6) (by omega) dT.2.2.2.2 (by rw [e29]; exact hf) d) w_Q_answerComes rfl rfl (Nat.le_of_ble_eq_true rfl) (by omega) (by decide) (fun hh hP => ?_)
      refine qx_goto C d_Q_come_95 (tgt := 143) (by decide) ?_
      exact Fin hh (by unfold md_come0; rw [if_neg (by omega), if_pos (by omega)]; exact hP)
    · rw [e] at Fin ⊢
      refine qx_tabIn C d_Q_come_39 (off := 59) (tgt := 98) (by decide) (by decide) (by decide) (by decide) ?_
      refine qx_aload_n C d_Q_come_98 rfl rfl ?_
      refine qx_aload_n C d_Q_come_99 rfl rfl ?_
      refine qx_aload_n C d_Q_come_100 rfl rfl ?_
      refine nx_callpv C (s_Q_come_101 (ch_Q J)) (c_call l G b J h1 dV.1 hs (hBi s hs) hy hM1 (by rw [e29]; exact e) d) w_Q_callComes rfl rfl (Nat.le_of_ble_eq_true rfl) (by omega) (by decide) (fun hh hP => ?_)
      refine qx_goto C d_Q_come_104 (tgt := 143) (by decide) ?_
      exact Fin hh (by unfold md_come0; rw [if_neg (by omega), if_neg (by omega), if_pos (by omega)]; exact hP)
    · rw [e] at Fin ⊢
      refine qx_tabIn C d_Q_come_39 (off := 68) (tgt := 107) (by decide) (by decide) (by decide) (by decide) ?_
      refine qx_aload_n C d_Q_come_107 rfl rfl ?_
      refine qx_aload_n C d_Q_come_108 rfl rfl ?_
      refine qx_aload_n C d_Q_come_109 rfl rfl ?_
      refine nx_callpv C (s_Q_come_110 (ch_Q J)) (c_vote l G b J h1 dV hs hy hM1 dT.2.2.2.2 (by rw [e29]; exact hf) d) w_Q_voteComes rfl rfl (Nat.le_of_ble_eq_true rfl) (by omega) (by decide) (fun hh hP => ?_)
      refine qx_goto C d_Q_come_113 (tgt := 143) (by decide) ?_
      exact Fin hh (by unfold md_come0; rw [if_neg (by omega), if_neg (by omega), if_neg (by omega), if_pos (by omega)]; exact hP)
    · rw [e] at Fin ⊢
      refine qx_tabIn C d_Q_come_39 (off := 77) (tgt := 116) (by decide) (by decide) (by decide) (by decide) ?_
      refine qx_aload_n C d_Q_come_116 rfl rfl ?_
      refine qx_aload_n C d_Q_come_117 rfl rfl ?_
      refine qx_aload_n C d_Q_come_118 rfl rfl ?_
      refine nx_callpv C (s_Q_come_119 (ch_Q J)) (c_appCome l G b J h1 dV hs hBi hy hM1 (by rw [e29]; exact e) d4 d7 (by rw [e29]; exact he0) (by rw [e29]; exact he1) d) w_Q_appendComes rfl rfl (Nat.le_of_ble_eq_true rfl) (by omega) (by decide) (fun hh hP => ?_)
      refine qx_goto C d_Q_come_122 (tgt := 143) (by decide) ?_
      exact Fin hh (by unfold md_come0; rw [if_neg (by omega), if_neg (by omega), if_neg (by omega), if_neg (by omega), if_pos (by omega)]; exact hP)
    · rw [e] at Fin ⊢
      refine qx_tabIn C d_Q_come_39 (off := 86) (tgt := 125) (by decide) (by decide) (by decide) (by decide) ?_
      refine qx_aload_n C d_Q_come_125 rfl rfl ?_
      refine qx_aload_n C d_Q_come_126 rfl rfl ?_
      refine qx_aload_n C d_Q_come_127 rfl rfl ?_
      refine nx_callpv C (s_Q_come_128 (ch_Q J)) (c_resCome l G b J h1 dV hs dT dn dk hy hM1 (by rw [e29]; exact h6) (by rw [e29]; exact hf) d4 d18 d) w_Q_resultComes rfl rfl (Nat.le_of_ble_eq_true rfl) (by omega) (by decide) (fun hh hP => ?_)
      refine qx_goto C d_Q_come_131 (tgt := 143) (by decide) ?_
      exact Fin hh (by unfold md_come0; rw [if_neg (by omega), if_neg (by omega), if_neg (by omega), if_neg (by omega), if_neg (by omega), if_pos (by omega)]; exact hP)
    · rw [e] at Fin ⊢
      refine qx_tabIn C d_Q_come_39 (off := 95) (tgt := 134) (by decide) (by decide) (by decide) (by decide) ?_
      refine qx_aload_n C d_Q_come_134 rfl rfl ?_
      refine qx_aload_n C d_Q_come_135 rfl rfl ?_
      refine qx_aload_n C d_Q_come_136 rfl rfl ?_
      refine nx_callpv C (s_Q_come_137 (ch_Q J)) (c_instCome l G b J h1 dV hs hBi hy hM1 (by rw [e29]; exact e) d4 d5 d) w_Q_installComes rfl rfl (Nat.le_of_ble_eq_true rfl) (by omega) (by decide) (fun hh hP => ?_)
      refine qx_goto C d_Q_come_140 (tgt := 143) (by decide) ?_
      exact Fin hh (by unfold md_come0; rw [if_neg (by omega), if_neg (by omega), if_neg (by omega), if_neg (by omega), if_neg (by omega), if_neg (by omega)]; exact hP)
  have No : ¬ (1 < A 29 0 ∧ A 2 s < A 29 3) → X 35 [some (.ref (ad 0)), some (.ref (ad (10 + s))), some (.ref (ad (100 + y)))] [] (ch G ad iv g I m E N) 0 0 := by
    intro hc
    have ei : md_in A = A := by unfold md_in; rw [h2s, if_neg hc]
    exact Sw g I E N (by rw [ei]; exact h) (by rw [e29]; exact hM) (cr_g.rf g) rfl rfl rfl
  refine qx_aload_n C d_Q_come_0 rfl rfl ?_
  refine qx_get C d_Q_come_1 fl_Q_201 (ch_M J n3) rfl ?_
  rw [hM.1.1]
  refine nx_if_eq C 35 d_Q_come_4 (by decide) (by omega) (fun z1 => ?_) (fun z1 => ?_)
  · exact No (by omega)
  · refine qx_aload_n C d_Q_come_7 rfl rfl ?_
    refine qx_get C d_Q_come_8 fl_Q_201 (ch_M J n3) rfl ?_
    rw [hM.1.1]
    refine qx_iconst C d_Q_come_11 (v := iI (1)) rfl ?_
    refine nx_icmp_eq C 35 d_Q_come_12 (by decide) (by omega) (by omega) (fun z2 => ?_) (fun z2 => ?_)
    · exact No (by omega)
    · refine qx_aload_n C d_Q_come_15 rfl rfl ?_
      refine qx_get C d_Q_come_16 fl_Q_212 (ch_M J n3) rfl ?_
      rw [hM.1.2.2.2.1]
      refine qx_aload_n C d_Q_come_19 rfl rfl ?_
      refine qx_get C d_Q_come_20 fl_Q_61 (ch_S J hs) rfl ?_
      rw [hS.1.2.2.1]
      refine nx_icmp_le C 35 d_Q_come_23 (by decide) (by omega) (by omega) (fun z3 => ?_) (fun z3 => ?_)
      · exact No (by omega)
      · refine qx_aload_n C d_Q_come_26 rfl rfl ?_
        refine qx_aload_n C d_Q_come_27 rfl rfl ?_
        refine qx_aload_n C d_Q_come_28 rfl rfl ?_
        refine qx_get C d_Q_come_29 fl_Q_212 (ch_M J n3) rfl ?_
        rw [hM.1.2.2.2.1]
        refine nx_callpv C (s_Q_come_32 (ch_Q J)) (c_enter l G b J h hv.1.1 hs hv.2 r3 d) w_Q_enterTerm rfl rfl (Nat.le_of_ble_eq_true rfl) (by omega) (by decide) (fun hh hP => ?_)
        obtain ⟨g5, I5, E5, N5, rfl, hg5, h5, p1, p2, p3⟩ := hP
        have ei : md_in A = md_newTerm A s (A 29 3) := by unfold md_in; rw [h2s, if_pos (by omega)]
        exact Sw g5 I5 E5 N5 (by rw [ei]; exact h5) (by rw [e29]; exact hM.kp hy hg5 p1 p2 p3) hg5 p1 p2 p3
/-- where the message at a place was -/
def cm_q (k w i : Nat) : Nat := if i = w - 1 then 49 else if i = 49 then k else if k ≤ i ∧ i < w - 1 then i + 1 else i
theorem cm_t_q (m : Nat → Nat) {k w i : Nat} : cm_t m k w i = m (cm_q k w i) := by
  unfold cm_t cm_q va_up cm_l
  split
  · rfl
  · split
    · rfl
    · split
      · rfl
      · rfl
theorem cm_q_in {k w i j : Nat} (hk : k < w) (hw : w ≤ 48) (hi : i < 50) (hj : j < 50) : cm_q k w i < 50 ∧ (cm_q k w i = cm_q k w j → i = j) := by
  unfold cm_q
  constructor
  · split
    · omega
    · split
      · omega
      · split <;> omega
  · split <;> split <;> (try split) <;> (try split) <;> (try split) <;> (try split) <;> omega
theorem cr.take {G : qh_G} {iv : Nat → Option Nat} {g : qh_H} {I : md_A} {m : Nat → Nat} {E : cl_E} {N : Nat → Nat} {A : md_A} (h : cr G iv g I m E N A) {k w : Nat} (hw : A 27 0 = w) (hw8 : w ≤ 48) (hk : k < w) : cr G iv g (md_u I 2 2 (w - 1)) (cm_t m k w) E N (md_take A k) ∧ cr_M G iv g (md_u I 2 2 (w - 1)) E N (cm_t m k w 49) (fun x => A 28 (20 * k + x)) := by
  obtain ⟨h1, h2, h3, h4, h5, h6⟩ := h
  have hkk : ∀ j : Nat, j ≠ 27 → j ≠ 28 → md_take A k j = A j := fun j j1 j2 => by
    funext x
    unfold md_take
    rw [md_uk j1, md_wk j2]
  have hq49 : cm_t m k w 49 = m k := by rw [cm_t_q]; unfold cm_q; rw [if_neg (by omega), if_pos rfl]
  refine ⟨⟨fun s hs => ?_, fun s hs => ?_, ?_, ⟨fun i hi => ?_, fun i j hi hj he => ?_⟩, fun p hp => ?_, ?_, fun i' h0 h60 => ?_⟩, ?_⟩
  · exact (h1 s hs).cg (cl_uI _ _ _ (by omega)) (cl_uI _ _ _ (by omega)) (cl_uI _ _ _ (by omega)) (cl_uI _ _ _ (by omega)) (fun j hj => by rw [hkk j (by omega) (by omega)]) (fun j hj o _ _ => by rw [hkk j (by omega) (by omega)])
  · exact (h2 s hs).cg (by rw [cl_uI _ _ _ (by omega)]) rfl rfl (fun j j1 j2 => hkk j (by omega) (by omega))
  · rw [md_us]; unfold md_take; rw [md_us, hw]
  · rw [cm_t_q]; exact h4.1 _ (cm_q_in hk hw8 hi hi).1
  · rw [cm_t_q, cm_t_q] at he
    exact (cm_q_in hk hw8 hi hj).2 (h4.2 _ _ (cm_q_in hk hw8 hi hi).1 (cm_q_in hk hw8 hj hj).1 he)
  · have hp2 : (p : Int) < w - 1 := by unfold md_take at hp; rw [md_us, hw] at hp; exact hp
    rw [cm_t_q]
    by_cases hpk : k ≤ p
    · have eq : cm_q k w p = p + 1 := by unfold cm_q; rw [if_neg (by omega), if_neg (by omega), if_pos (by omega)]
      rw [eq]
      have := h4.1 (p + 1) (by omega)
      refine (h5 (p + 1) (by omega)).cg (cl_uI _ _ _ (by omega)) rfl rfl (fun z z0 z20 => ?_)
      unfold md_take
      rw [md_uk (by decide), md_wi (by omega)]
      congr 1
      omega
    · have eq : cm_q k w p = p := by unfold cm_q; rw [if_neg (by omega), if_neg (by omega), if_neg (by omega)]
      rw [eq]
      have := h4.1 p (by omega)
      refine (h5 p (by omega)).cg (cl_uI _ _ _ (by omega)) rfl rfl (fun z z0 z20 => ?_)
      unfold md_take
      rw [md_uk (by decide), md_wo (by omega)]
  · rw [md_uk (by decide), hkk 21 (by decide) (by decide)]; exact h6.1
  · rw [md_uk (by decide), md_uk (by decide), md_uk (by decide), md_uk (by decide), md_uk (by decide), hkk 22 (by decide) (by decide), hkk 23 (by decide) (by decide), hkk 24 (by decide) (by decide), hkk 25 (by decide) (by decide), hkk 26 (by decide) (by decide)]
    exact h6.2 i' h0 h60
  · rw [hq49]
    exact (h5 k (by omega)).cg (cl_uI _ _ _ (by omega)) rfl rfl (fun _ _ _ => rfl)
