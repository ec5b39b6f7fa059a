/-! the class: it appends, stands, leads -/
theorem cr.log {G : qh_G} {iv : Nat → Option Nat} {g : qh_H} {I I' : md_A} {m : Nat → Nat} {E E' : cl_E} {N N' : Nat → Nat} {A A' : md_A} (h : cr G iv g I m E N A) {s : Nat} (hs : s < 5) (hBa : ∀ s' : Nat, s' < 5 → md_B A s') (ho : cr_o s I E I' E') (hN : ∀ j, j ≠ 20 + s → N' j = N j) (hL : cr_L G iv g I' E' N' A' s) (hA : ∀ k : Nat, (k < 4 ∨ 12 < k) → A' k = A k) (hA2 : ∀ s' : Nat, s' < 5 → s' ≠ s → (∀ k : Nat, (k = 4 ∨ k = 5 ∨ k = 6 ∨ k = 8) → A' k s' = A k s') ∧ (∀ z : Int, 0 ≤ z → z < 4 → A' 7 (4 * s' + z) = A 7 (4 * s' + z)) ∧ ∀ (k i : Nat), (k = 9 ∨ k = 10 ∨ k = 11 ∨ k = 12) → i < 48 → A' k (48 * s' + i) = A k (48 * s' + i)) : cr G iv g I' m E' N' A' := by
  obtain ⟨h1, h2, h3, h4, h5, h6⟩ := h
  refine ⟨fun s' hs' => ?_, fun s' hs' => ?_, ?_, h4, fun w hw => ?_, ?_, fun i' h0 h60 => ?_⟩
  · exact (h1 s' hs').cg (ho.1 _ (by omega)) (ho.1 _ (by omega)) (ho.1 _ (by omega)) (ho.1 _ (by omega)) (fun k' hk' => by rw [hA k' (by omega)]) (fun k' hk' o _ _ => by rw [hA k' (by omega)])
  · by_cases e : s' = s
    · subst e
      exact hL
    · obtain ⟨q1, q2, q3⟩ := hA2 s' hs' e
      obtain ⟨l1, l2, l3⟩ := h2 s' hs'
      have hb := hBa s' hs'
      refine ⟨?_, ?_, fun i hi => ?_⟩
      · rw [ho.1 _ (by omega), q1 8 (by omega)]; exact l1
      · rw [hN _ (by omega), q1 4 (by omega), q1 5 (by omega), q1 6 (by omega)]
        exact l2.cg (fun z h0 h4 => q2 z h0 h4)
      · rw [q1 8 (by omega)] at hi
        rw [ho.2 _ (by omega), q3 9 i (by omega) (by omega), q3 10 i (by omega) (by omega), q3 11 i (by omega) (by omega), q3 12 i (by omega) (by omega)]
        exact l3 i hi
  · rw [ho.1 _ (by omega), hA 27 (by omega)]; exact h3
  · rw [hA 27 (by omega)] at hw
    rw [hA 28 (by omega)]
    have := h4.1 w
    exact (h5 w hw).cg (ho.1 _ (by omega)) (ho.2 _ (by omega)) (hN _ (by omega)) (fun _ _ _ => rfl)
  · rw [ho.1 _ (by omega), hA 21 (by omega)]; exact h6.1
  · rw [ho.1 _ (by omega), ho.1 _ (by omega), ho.1 _ (by omega), ho.1 _ (by omega), ho.1 _ (by omega), hA 22 (by omega), hA 23 (by omega), hA 24 (by omega), hA 25 (by omega), hA 26 (by omega)]
    exact h6.2 i' h0 h60
theorem cr.push {G : qh_G} {iv : Nat → Option Nat} {g : qh_H} {I : md_A} {m : Nat → Nat} {E : cl_E} {N : Nat → Nat} {A : md_A} (h : cr G iv g I m E N A) {s : Nat} (hs : s < 5) (hBa : ∀ s' : Nat, s' < 5 → md_B A s') (h8 : A 8 s < 48) {q : Option Nat} {t so su va : Int} (hq : cr_E iv g q t so su va) : cr G iv g (md_u I (20 + s) 2 (A 8 s + 1)) m (cl_uE E (30 + s) (A 8 s).toNat q) N (md_push A s t so su va) := by
  have hb := hBa s hs
  refine cr.log h hs hBa ((cr_o.rf s I E).u).e (fun _ _ => rfl) (cr_L_push (h.2.1 s hs) (by omega) hq) (fun k hk => ?_) (fun s' hs' hne => ⟨fun k hk => ?_, fun z h0 h4 => md_push_k (by decide), fun k i hk hi => ?_⟩)
  · funext x
    exact md_push_k (by omega)
  · unfold md_push
    rw [md_ui (by omega), md_uk (by omega), md_uk (by omega), md_uk (by omega), md_uk (by omega)]
  · unfold md_push
    rw [md_uk (by omega), md_ui (by omega), md_ui (by omega), md_ui (by omega), md_ui (by omega)]
set_option maxRecDepth 100000 in
theorem c_append (l : Launch) (G : qh_G) (b : Nat) {ad : Nat → Nat} {iv : Nat → Option Nat} (J : cl_I ad iv) {g : qh_H} {I : md_A} {m : Nat → Nat} {E : cl_E} {N : Nat → Nat} {A : md_A} (h : cr G iv g I m E N A) (hw : md_ww A) {s : Nat} (hs : s < 5) (hBa : ∀ s' : Nat, s' < 5 → md_B A s') (hz : A 8 s < 48) {so ke va : Int} (hcf : set5 (md_config (md_push A s (A 2 s) so ke va) s)) (hcm : 0 ≤ A 14 s ∧ A 14 s ≤ md_last A s) (hrd : 0 ≤ A 21 0 ∧ A 21 0 ≤ 60) (hn : md_nx A s) (h2 : rng so) (h3 : rng ke) (h4 : rng va) {q : Nat} (hq : cr_E iv g (some q) (A 2 s) so ke va) (d : Nat) : qp l y_Q_append c_Q_append 3 (some .int) (d + 5) 0 0 G b [.ref (ad 0), .ref (ad (10 + s)), .ref q] (ch G ad iv g I m E N) (md_last A s + 1) (cr_P G ad iv g I m E N (md_append A s so ke va)) := by
  have hl : md_last A s = A 4 s + A 8 s := rfl
  have n49 : m 49 < 50 := h.2.2.2.1.1 49 (by omega)
  have hB := hBa s hs
  have hL := h.2.1 s hs
  obtain ⟨a, ha, hae⟩ := cr_he (G := G) (I := I) (m := m) (E := E) (N := N) J hq
  cases ha
  have h1 := h.push hs hBa hz hq
  have hw1 : md_ww (md_push A s (A 2 s) so ke va) := md_push_ww hw (by omega) (hw.1 _ _) h2 h3 h4
  have hB1 : md_B (md_push A s (A 2 s) so ke va) s := md_push_B hB hz
  have e4 : md_push A s (A 2 s) so ke va 4 s = A 4 s := md_push_k (by decide)
  have e8 : md_push A s (A 2 s) so ke va 8 s = A 8 s + 1 := md_push_8
  have e14 : md_push A s (A 2 s) so ke va 14 s = A 14 s := md_push_k (by decide)
  have e21 : md_push A s (A 2 s) so ke va 21 0 = A 21 0 := md_push_k (by decide)
  have hl1 : md_last (md_push A s (A 2 s) so ke va) s = md_last A s + 1 := by unfold md_last; omega
  refine qx_of (lo := [some (.ref (ad 0)), some (.ref (ad (10 + s))), some (.ref q)]) (by decide) (fun w hw => List.mem_cons_of_mem _ hw) rfl (Nat.le_of_ble_eq_true rfl) rfl ?_
  intro X C
  refine qx_aload_n C d_Q_append_0 rfl rfl ?_
  refine qx_get C d_Q_append_1 fl_Q_85 (ch_S J hs) rfl ?_
  refine qx_aload_n C d_Q_append_4 rfl rfl ?_
  refine nx_call0 C (s_Q_append_5 (ch_L J hs)) (c_addT l G b J hs hae hL.1 (by omega) (by omega) d) w_L_add rfl rfl (Nat.le_of_ble_eq_true rfl) (by omega) (by decide) ?_
  refine qx_pop C d_Q_append_8 rfl ?_
  refine qx_aload_n C d_Q_append_9 rfl rfl ?_
  refine qx_aload_n C d_Q_append_10 rfl rfl ?_
  refine nx_callpv C (s_Q_append_11 (ch_Q J)) (c_lookCommit l G b J h1 hw1 hs hB1 hcf (by omega) (by omega) d) w_Q_lookAtCommit rfl rfl (Nat.le_of_ble_eq_true rfl) (by omega) (by decide) (fun hh hP => ?_)
  obtain ⟨g2, I2, E2, N2, rfl, hg2, h2, j1, j2, j3⟩ := hP
  have hlg := md_look_lg (md_push A s (A 2 s) so ke va) s
  have hw2 := md_look_ww hw1 hB1 (by omega)
  refine qx_aload_n C d_Q_append_14 rfl rfl ?_
  refine qx_aload_n C d_Q_append_15 rfl rfl ?_
  refine nx_callpv C (s_Q_append_16 (ch_Q J)) (c_sendAll l G b J h2 hw2 hs (hlg.B hB1) (by rw [hlg.config]; exact hcf) (fun i => by rw [md_look_k (by decide), md_push_k (by decide)]; exact hn i) d) w_Q_sendToAll rfl rfl (Nat.le_of_ble_eq_true rfl) (by omega) (by decide) (fun hh hP => ?_)
  obtain ⟨g3, I3, E3, N3, rfl, hg3, h3, p1, p2, p3⟩ := hP
  have hlg3 := md_all_lg (md_look (md_push A s (A 2 s) so ke va) s) s 5
  refine qx_aload_n C d_Q_append_19 rfl rfl ?_
  refine qx_get C d_Q_append_20 fl_Q_85 (ch_S J hs) rfl ?_
  refine nx_call0 C (s_Q_append_23 (ch_L J hs)) (c_last l G b J hs (h3.2.1 s hs) (hlg3.B (hlg.B hB1)) d) w_L_last rfl rfl (Nat.le_of_ble_eq_true rfl) (by omega) (by decide) ?_
  refine qx_iret C d_Q_append_26 (Nat.le_of_ble_eq_true rfl) (Nat.le_of_ble_eq_true rfl) ⟨_, rfl, ?_, ?_⟩
  · rw [hlg3.last, hlg.last, hl1]
  · exact ⟨g3, I3, E3, N3, rfl, hg2.tr hg3, h3, p1.trans (j1.trans (cl_uI _ _ _ (by omega))), p2.trans (j2.trans (cl_uEk _ _ _ (by omega))), p3.trans j3⟩
set_option maxRecDepth 100000 in
theorem c_stand (l : Launch) (G : qh_G) (b : Nat) {ad : Nat → Nat} {iv : Nat → Option Nat} (J : cl_I ad iv) {g : qh_H} {I : md_A} {m : Nat → Nat} {E : cl_E} {N : Nat → Nat} {A : md_A} (h : cr G iv g I m E N A) (hw : md_ww A) {s : Nat} (hs : s < 5) (hB : md_B A s) (hcf : set5 (md_config A s)) (hy : set5 (A 16 s)) (ht : rng (A 2 s + 1)) (d : Nat) : qpv l y_Q_standIfMostSaidYes c_Q_standIfMostSaidYes 2 none (d + 4) 0 0 G b [.ref (ad 0), .ref (ad (10 + s))] (ch G ad iv g I m E N) (cr_P G ad iv g I m E N (md_stand A s)) := by
  have n49 : m 49 < 50 := h.2.2.2.1.1 49 (by omega)
  have hS := h.1 s hs
  have h13 := hw.1 13 s
  have Ex : ∀ X : qw_T, qw_C l G b "QuorumLog" "standIfMostSaidYes" c_Q_standIfMostSaidYes 2 none [] (qr (d + 4) 0 0) (fun oc h' => oc = .returned none ∧ cr_P G ad iv g I m E N (md_stand A s) h') X → ¬ (A 13 s = 1 ∧ md_most A s (A 16 s) = 1) → X 25 [some (.ref (ad 0)), some (.ref (ad (10 + s)))] [] (ch G ad iv g I m E N) 0 0 := by
    intro X C hc
    refine qx_vret C d_Q_standIfMostSaidYes_25 (Nat.zero_le _) (Nat.zero_le _) ⟨rfl, g, I, E, N, rfl, cr_g.rf g, ?_, rfl, rfl, rfl⟩
    unfold md_stand
    rw [if_neg hc]
    exact h
  refine qx_of (lo := [some (.ref (ad 0)), some (.ref (ad (10 + s)))]) (by decide) (fun w hw => List.mem_cons_of_mem _ hw) rfl (Nat.le_of_ble_eq_true rfl) rfl ?_
  intro X C
  refine qx_aload_n C d_Q_standIfMostSaidYes_0 rfl rfl ?_
  refine qx_get C d_Q_standIfMostSaidYes_1 fl_Q_51 (ch_S J hs) rfl ?_
  rw [hS.1.2.2.2.2.1]
  refine qx_iconst C d_Q_standIfMostSaidYes_4 (v := iI (1)) rfl ?_
  refine nx_icmp_ne C 25 d_Q_standIfMostSaidYes_5 (by decide) (by omega) (by omega) (fun z1 => ?_) (fun z1 => ?_)
  · exact Ex X C (fun z => z1 z.1)
  · refine qx_aload_n C d_Q_standIfMostSaidYes_8 rfl rfl ?_
    refine qx_get C d_Q_standIfMostSaidYes_9 fl_Q_58 (ch_S J hs) rfl ?_
    rw [hS.1.2.2.2.2.2.2.2]
    refine qx_aload_n C d_Q_standIfMostSaidYes_12 rfl rfl ?_
    refine qx_get C d_Q_standIfMostSaidYes_13 fl_Q_85 (ch_S J hs) rfl ?_
    refine nx_call0 C (s_Q_standIfMostSaidYes_16 (ch_L J hs)) (c_config l G b J hw.1 hs (h.2.1 s hs) hB d) w_L_configuration rfl rfl (Nat.le_of_ble_eq_true rfl) (by omega) (by decide) ?_
    refine nx_call0 C s_Q_standIfMostSaidYes_19 (c_areMost l G b _ hy hcf d) w_Q_areMost rfl rfl (Nat.le_of_ble_eq_true rfl) (by omega) (by decide) ?_
    by_cases c2 : md_cnt (md_config A s) < 2 * md_cnt (ia (md_config A s) (A 16 s))
    · rw [if_pos c2]
      refine nx_if_ne C 26 d_Q_standIfMostSaidYes_22 (by decide) (by omega) (fun z2 => ?_) (fun z2 => ?_)
      · refine qx_aload_n C d_Q_standIfMostSaidYes_26 rfl rfl ?_
        refine qx_iconst C d_Q_standIfMostSaidYes_27 (v := iI (2)) rfl ?_
        refine cx_pS C J hs (kz := 9) d_Q_standIfMostSaidYes_28 fp_Q_51 (by decide) rfl ?_
        refine qx_aload_n C d_Q_standIfMostSaidYes_31 rfl rfl ?_
        refine qx_dup C d_Q_standIfMostSaidYes_32 rfl ?_
        refine qx_get C d_Q_standIfMostSaidYes_33 fl_Q_61 (ch_S J hs) rfl ?_
        rw [md_ui (by decide), hS.1.2.2.1]
        refine qx_iconst C d_Q_standIfMostSaidYes_36 (v := iI (1)) rfl ?_
        refine nx_iadd C d_Q_standIfMostSaidYes_37 ?_
        refine cx_pS C J hs (kz := 7) d_Q_standIfMostSaidYes_38 fp_Q_61 (by decide) rfl ?_
        refine qx_aload_n C d_Q_standIfMostSaidYes_41 rfl rfl ?_
        refine qx_aload_n C d_Q_standIfMostSaidYes_42 rfl rfl ?_
        refine qx_get C d_Q_standIfMostSaidYes_43 fl_Q_55 (ch_S J hs) rfl ?_
        refine cx_pS C J hs (kz := 8) d_Q_standIfMostSaidYes_46 fp_Q_220 (by decide) rfl ?_
        refine qx_aload_n C d_Q_standIfMostSaidYes_49 rfl rfl ?_
        refine qx_iconst C d_Q_standIfMostSaidYes_50 (v := iI (1)) rfl ?_
        refine qx_aload_n C d_Q_standIfMostSaidYes_51 rfl rfl ?_
        refine qx_get C d_Q_standIfMostSaidYes_52 fl_Q_55 (ch_S J hs) rfl ?_
        refine nx_ishl1 C d_Q_standIfMostSaidYes_55 (by omega) ?_
        refine cx_pS C J hs (kz := 12) d_Q_standIfMostSaidYes_56 fp_Q_58 (by decide) rfl ?_
        refine qx_aload_n C d_Q_standIfMostSaidYes_59 rfl rfl ?_
        refine qx_aload_n C d_Q_standIfMostSaidYes_60 rfl rfl ?_
        refine qx_iconst C d_Q_standIfMostSaidYes_61 (v := iI (2)) rfl ?_
        refine qx_aload_n C d_Q_standIfMostSaidYes_62 rfl rfl ?_
        refine qx_get C d_Q_standIfMostSaidYes_63 fl_Q_61 (ch_S J hs) rfl ?_
        rw [md_ui (by decide), md_ui (by decide), md_us]
        have h4 : cr G iv g _ m E N (md_cand A s) := (((h.u hs (k := 9) (ka := 13) (v := 2) (va := 2) (by unfold cr_F; omega)).u hs (k := 7) (ka := 2) (v := A 2 s + 1) (va := A 2 s + 1) (by unfold cr_F; omega)).u hs (k := 8) (ka := 3) (v := s) (va := s) (by unfold cr_F; omega)).u hs (k := 12) (ka := 16) (v := one s) (va := one s) (by unfold cr_F; omega)
        have hlg := md_cand_lg A s
        refine nx_callpv C (s_Q_standIfMostSaidYes_66 (ch_Q J)) (c_askAll l G b J h4 (md_cand_ww hw (by omega) ht) hs (hlg.B hB) (by rw [hlg.config]; exact hcf) (Or.inr rfl) ht d) w_Q_askAll rfl rfl (Nat.le_of_ble_eq_true rfl) (by omega) (by decide) (fun hh hP => ?_)
        obtain ⟨g2, I2, E2, N2, rfl, hg2, h2, j1, j2, j3⟩ := hP
        refine qx_vret C d_Q_standIfMostSaidYes_69 (Nat.zero_le _) (Nat.zero_le _) ⟨rfl, g2, I2, E2, N2, rfl, hg2, ?_, ?_, j2, j3⟩
        · unfold md_stand
          rw [if_pos ⟨z1, by unfold md_most; rw [if_pos c2]⟩]
          exact h2
        · rw [j1, cl_uI _ _ _ (by omega), cl_uI _ _ _ (by omega), cl_uI _ _ _ (by omega), cl_uI _ _ _ (by omega)]
      · exact absurd z2 (by omega)
    · rw [if_neg c2]
      refine nx_if_ne C 26 d_Q_standIfMostSaidYes_22 (by decide) (by omega) (fun z2 => ?_) (fun z2 => ?_)
      · exact absurd z2 (by omega)
      · exact Ex X C (fun z => by have := z.2; unfold md_most at this; rw [if_neg c2] at this; omega)
theorem cr.nx {G : qh_G} {iv : Nat → Option Nat} {g : qh_H} {I : md_A} {m : Nat → Nat} {E : cl_E} {N : Nat → Nat} {A : md_A} (h : cr G iv g I m E N A) {s : Nat} (hs : s < 5) {j k : Nat} (hjk : (j = 40 + s ∧ k = 17) ∨ (j = 50 + s ∧ k = 18) ∨ (j = 60 + s ∧ k = 19)) {o : Int} (ho : 0 ≤ o ∧ o < 5) (v : Int) : cr G iv g (md_u I j o v) m E N (md_u A k (5 * s + o) v) := by
  obtain ⟨h1, h2, h3, h4, h5, h6⟩ := h
  refine ⟨fun s' hs' => ?_, fun s' hs' => ?_, ?_, h4, fun w hw => ?_, ?_, fun i' h0 h60 => ?_⟩
  · by_cases e : s' = s
    · subst e
      obtain ⟨f1, f2⟩ := h1 s' hs'
      refine ⟨?_, fun o' h0 h5' => ?_⟩
      · rw [cl_uI _ _ _ (by omega)]
        rw [md_uk (by omega), md_uk (by omega), md_uk (by omega), md_uk (by omega), md_uk (by omega), md_uk (by omega), md_uk (by omega), md_uk (by omega)]
        exact f1
      · obtain ⟨p1, p2, p3⟩ := f2 o' h0 h5'
        by_cases eo : o' = o
        · subst eo
          rcases hjk with ⟨rfl, rfl⟩ | ⟨rfl, rfl⟩ | ⟨rfl, rfl⟩ <;> simp [md_u, p1, p2, p3]
        · rw [md_ui eo, md_ui eo, md_ui eo, md_ui (by omega), md_ui (by omega), md_ui (by omega)]
          exact ⟨p1, p2, p3⟩
    · exact (h1 s' hs').cg (cl_uI _ _ _ (by omega)) (cl_uI _ _ _ (by omega)) (cl_uI _ _ _ (by omega)) (cl_uI _ _ _ (by omega)) (fun k' hk' => md_uk (by omega)) (fun k' hk' o' h0 h5' => md_ui (by omega))
  · exact (h2 s' hs').cg (by rw [cl_uI _ _ _ (by omega)]) rfl rfl ((md_lg.rf A).u (by omega))
  · rw [md_uk (by omega), md_uk (by omega)]; exact h3
  · rw [md_uk (by omega)] at hw
    exact (h5 w hw).cg (cl_uI _ _ _ (by omega)) rfl rfl (fun k _ _ => md_uk (by omega))
  · rw [md_uk (by omega), md_uk (by omega)]; exact h6.1
  · rw [md_uk (by omega), md_uk (by omega), md_uk (by omega), md_uk (by omega), md_uk (by omega), md_uk (by omega), md_uk (by omega), md_uk (by omega), md_uk (by omega), md_uk (by omega)]
    exact h6.2 i' h0 h60
/-- leading, if most said yes -/
def md_ldif (A : md_A) (s : Int) : md_A := if A 13 s = 2 ∧ md_most A s (A 16 s) = 1 then md_lead A s else A
set_option maxRecDepth 100000 in
theorem c_lead (l : Launch) (G : qh_G) (b : Nat) {ad : Nat → Nat} {iv : Nat → Option Nat} (J : cl_I ad iv) {g : qh_H} {I : md_A} {m : Nat → Nat} {E : cl_E} {N : Nat → Nat} {A : md_A} (h : cr G iv g I m E N A) (hw : md_ww A) {s : Nat} (hs : s < 5) (hBa : ∀ s' : Nat, s' < 5 → md_B A s') (hz : A 13 s = 2 → A 8 s < 48) (hcf : set5 (md_config A s)) (hy : set5 (A 16 s)) (hcm : 0 ≤ A 14 s ∧ A 14 s ≤ md_last A s) (hrd : 0 ≤ A 21 0 ∧ A 21 0 ≤ 60) (hn : md_nx A s) (d : Nat) : qpv l y_Q_leadIfMostSaidYes c_Q_leadIfMostSaidYes 3 none (d + 6) 1 4 G b [.ref (ad 0), .ref (ad (10 + s))] (ch G ad iv g I m E N) (cr_P G ad iv g I m E N (md_ldif A s)) := by
  have hl : md_last A s = A 4 s + A 8 s := rfl
  have n49 : m 49 < 50 := h.2.2.2.1.1 49 (by omega)
  have hS := h.1 s hs
  have hB := hBa s hs
  have h13 := hw.1 13 s
  have Ex : ∀ X : qw_T, qw_C l G b "QuorumLog" "leadIfMostSaidYes" c_Q_leadIfMostSaidYes 3 none [] (qr (d + 6) 1 4) (fun oc h' => oc = .returned none ∧ cr_P G ad iv g I m E N (md_ldif A s) h') X → ¬ (A 13 s = 2 ∧ md_most A s (A 16 s) = 1) → ∀ l2 : Option Value, X 25 [some (.ref (ad 0)), some (.ref (ad (10 + s))), l2] [] (ch G ad iv g I m E N) 0 0 := by
    intro X C hc l2
    refine qx_vret C d_Q_leadIfMostSaidYes_25 (Nat.zero_le _) (Nat.zero_le _) ⟨rfl, g, I, E, N, rfl, cr_g.rf g, ?_, rfl, rfl, rfl⟩
    unfold md_ldif
    rw [if_neg hc]
    exact h
  refine qx_of (lo := [some (.ref (ad 0)), some (.ref (ad (10 + s))), none]) (by decide) (fun w hw => List.mem_cons_of_mem _ hw) rfl (Nat.le_of_ble_eq_true rfl) rfl ?_
  intro X C
  refine qx_aload_n C d_Q_leadIfMostSaidYes_0 rfl rfl ?_
  refine qx_get C d_Q_leadIfMostSaidYes_1 fl_Q_51 (ch_S J hs) rfl ?_
  rw [hS.1.2.2.2.2.1]
  refine qx_iconst C d_Q_leadIfMostSaidYes_4 (v := iI (2)) rfl ?_
  refine nx_icmp_ne C 25 d_Q_leadIfMostSaidYes_5 (by decide) (by omega) (by omega) (fun z1 => ?_) (fun z1 => ?_)
  · exact Ex X C (fun z => z1 z.1) _
  · refine qx_aload_n C d_Q_leadIfMostSaidYes_8 rfl rfl ?_
    refine qx_get C d_Q_leadIfMostSaidYes_9 fl_Q_58 (ch_S J hs) rfl ?_
    rw [hS.1.2.2.2.2.2.2.2]
    refine qx_aload_n C d_Q_leadIfMostSaidYes_12 rfl rfl ?_
    refine qx_get C d_Q_leadIfMostSaidYes_13 fl_Q_85 (ch_S J hs) rfl ?_
    refine nx_call0 C (s_Q_leadIfMostSaidYes_16 (ch_L J hs)) (c_config l G b J hw.1 hs (h.2.1 s hs) hB d) w_L_configuration rfl rfl (Nat.le_of_ble_eq_true rfl) (by omega) (by decide) ?_
    refine nx_call0 C s_Q_leadIfMostSaidYes_19 (c_areMost l G b _ hy hcf d) w_Q_areMost rfl rfl (Nat.le_of_ble_eq_true rfl) (by omega) (by decide) ?_
    by_cases c2 : md_cnt (md_config A s) < 2 * md_cnt (ia (md_config A s) (A 16 s))
    · rw [if_pos c2]
      have hz1 := hz z1
      have Lp : ∀ (f o : Nat) (I1 : md_A), o + f = 5 → cr G iv g I1 m E N (md_ld A s o) → I1 (100 + m 49) = I (100 + m 49) → X 38 [some (.ref (ad 0)), some (.ref (ad (10 + s))), some (.int (iI o))] [] (ch G ad iv g I1 m E N) 0 0 := by
        intro f
        induction f with
        | zero =>
          intro o I1 ho h1 k1
          rw [show o = 5 by omega] at h1
          have hlg := md_ld_lg A s 5
          have hw1 := md_ld_ww hw hB 5
          have f2 : md_ld A s 5 2 s = A 2 s := md_ld_k (by decide) 5
          have f8 : md_ld A s 5 8 s = A 8 s := md_ld_k (by decide) 5
          have f14 : md_ld A s 5 14 s = A 14 s := md_ld_k (by decide) 5
          have f21 : md_ld A s 5 21 0 = A 21 0 := md_ld_k (by decide) 5
          refine qx_iload_n C d_Q_leadIfMostSaidYes_38 rfl rfl ?_
          refine qx_iconst C d_Q_leadIfMostSaidYes_39 (v := iI (5)) rfl ?_
          refine nx_icmp_ge C 78 d_Q_leadIfMostSaidYes_40 (by decide) (by omega) (by omega) (fun z3 => ?_) (fun z3 => ?_)
          · refine qx_aload_n C d_Q_leadIfMostSaidYes_78 rfl rfl ?_
            refine qx_aload_n C d_Q_leadIfMostSaidYes_79 rfl rfl ?_
            refine qx_new C d_Q_leadIfMostSaidYes_80 nw_Q_101 (Nat.le_of_ble_eq_true rfl) (Nat.le_of_ble_eq_true rfl) (fun q hq => ?_)
            obtain ⟨i1, g1⟩ := ch_none hq
            rw [ch_newq i1]
            refine qx_dup C d_Q_leadIfMostSaidYes_83 rfl ?_
            refine qx_aload_n C d_Q_leadIfMostSaidYes_84 rfl rfl ?_
            refine qx_get C d_Q_leadIfMostSaidYes_85 fl_Q_61 (ch_S J hs) rfl ?_
            rw [(h1.1 s hs).1.2.2.1]
            refine qx_iconst C d_Q_leadIfMostSaidYes_88 (v := iI (0)) rfl ?_
            refine qx_iconst C d_Q_leadIfMostSaidYes_89 (v := iI (0)) rfl ?_
            refine qx_iconst C d_Q_leadIfMostSaidYes_90 (v := iI (0)) rfl ?_
            refine nx_callv C s_Q_leadIfMostSaidYes_91 (c_Einit l G b ((ch_g J i1).trans (va_up_self _ _ _)) d) w_E_init rfl rfl (Nat.le_of_ble_eq_true rfl) (by omega) (by decide) ?_
            rw [ch_newq i1, va_up_up]
            have gg : ∀ y : Option va_E, cr_g g (va_up g q y) := fun y => (cr_g.rf g).new g1
            refine nx_callp C (s_Q_leadIfMostSaidYes_94 (ch_Q J)) (c_append l G b J (h1.gr (gg _)) hw1 hs (fun s' hs' => hlg.B (hBa s' hs')) (by omega) (by rw [md_push_config (hlg.B hB), if_neg (by decide), hlg.config]; exact hcf) (by rw [f14, hlg.last]; exact hcm) (by omega) (fun i => by have := hn i; rcases md_ld_17 (A := A) (s := s) 5 (5 * s + i) with e | e <;> rw [e] <;> omega) (by omega) (by omega) (by omega) ⟨q, rfl, i1, va_up_self _ _ _⟩ d) w_Q_append rfl rfl (Nat.le_of_ble_eq_true rfl) (by omega) (by decide) (fun hh hP => ?_)
            obtain ⟨g2, I2, E2, N2, rfl, hg2, h2, j1, j2, j3⟩ := hP
            refine qx_pop C d_Q_leadIfMostSaidYes_97 rfl ?_
            refine qx_vret C d_Q_leadIfMostSaidYes_98 (Nat.le_of_ble_eq_true rfl) (Nat.le_of_ble_eq_true rfl) ⟨rfl, g2, I2, E2, N2, rfl, (gg _).tr hg2, ?_, j1.trans k1, j2, j3⟩
            unfold md_ldif md_lead
            rw [if_pos ⟨z1, by unfold md_most; rw [if_pos c2]⟩]
            exact h2
          · exact absurd z3 (by omega)
        | succ f ih =>
          intro o I1 ho h1 k1
          have hlg := md_ld_lg A s o
          refine qx_iload_n C d_Q_leadIfMostSaidYes_38 rfl rfl ?_
          refine qx_iconst C d_Q_leadIfMostSaidYes_39 (v := iI (5)) rfl ?_
          refine nx_icmp_ge C 78 d_Q_leadIfMostSaidYes_40 (by decide) (by omega) (by omega) (fun z3 => ?_) (fun z3 => ?_)
          · exact absurd z3 (by omega)
          · refine qx_aload_n C d_Q_leadIfMostSaidYes_43 rfl rfl ?_
            refine qx_get C d_Q_leadIfMostSaidYes_44 fl_Q_267 (ch_S J hs) rfl ?_
            refine qx_iload_n C d_Q_leadIfMostSaidYes_47 rfl rfl ?_
            refine qx_aload_n C d_Q_leadIfMostSaidYes_48 rfl rfl ?_
            refine qx_get C d_Q_leadIfMostSaidYes_49 fl_Q_85 (ch_S J hs) rfl ?_
            refine nx_call0 C (s_Q_leadIfMostSaidYes_52 (ch_L J hs)) (c_last l G b J hs (h1.2.1 s hs) (hlg.B hB) d) w_L_last rfl rfl (Nat.le_of_ble_eq_true rfl) (by omega) (by decide) ?_
            rw [hlg.last]
            refine qx_iconst C d_Q_leadIfMostSaidYes_55 (v := iI (1)) rfl ?_
            refine nx_iadd C d_Q_leadIfMostSaidYes_56 ?_
            refine cx_is C J d_Q_leadIfMostSaidYes_57 (by omega) (by omega) (by omega) ?_
            refine qx_aload_n C d_Q_leadIfMostSaidYes_58 rfl rfl ?_
            refine qx_get C d_Q_leadIfMostSaidYes_59 fl_Q_270 (ch_S J hs) rfl ?_
            refine qx_iload_n C d_Q_leadIfMostSaidYes_62 rfl rfl ?_
            refine qx_iconst C d_Q_leadIfMostSaidYes_63 (v := iI (0)) rfl ?_
            refine cx_is C J d_Q_leadIfMostSaidYes_64 (by omega) (by omega) (by omega) ?_
            refine qx_aload_n C d_Q_leadIfMostSaidYes_65 rfl rfl ?_
            refine qx_get C d_Q_leadIfMostSaidYes_66 fl_Q_273 (ch_S J hs) rfl ?_
            refine qx_iload_n C d_Q_leadIfMostSaidYes_69 rfl rfl ?_
            refine qx_iconst C d_Q_leadIfMostSaidYes_70 (v := iI (0)) rfl ?_
            refine cx_is C J d_Q_leadIfMostSaidYes_71 (by omega) (by omega) (by omega) ?_
            refine nx_iinc C d_Q_leadIfMostSaidYes_72 rfl (lo' := [_, _, some (.int _)]) rfl ?_
            refine qx_goto C d_Q_leadIfMostSaidYes_75 (tgt := 38) (by decide) ?_
            refine ih (o + 1) _ (by omega) ?_ ?_
            · rw [md_ld_s]
              exact ((h1.nx hs (j := 40 + s) (by omega) (by omega) _).nx hs (j := 50 + s) (by omega) (by omega) _).nx hs (j := 60 + s) (by omega) (by omega) _
            · rw [cl_uI _ _ _ (by omega), cl_uI _ _ _ (by omega), cl_uI _ _ _ (by omega)]
              exact k1
      refine nx_if_ne C 26 d_Q_leadIfMostSaidYes_22 (by decide) (by omega) (fun z2 => ?_) (fun z2 => ?_)
      · refine qx_aload_n C d_Q_leadIfMostSaidYes_26 rfl rfl ?_
        refine qx_iconst C d_Q_leadIfMostSaidYes_27 (v := iI (3)) rfl ?_
        refine cx_pS C J hs (kz := 9) d_Q_leadIfMostSaidYes_28 fp_Q_51 (by decide) rfl ?_
        refine qx_aload_n C d_Q_leadIfMostSaidYes_31 rfl rfl ?_
        refine qx_iconst C d_Q_leadIfMostSaidYes_32 (v := iI (0)) rfl ?_
        refine cx_pS C J hs (kz := 11) d_Q_leadIfMostSaidYes_33 fp_Q_147 (by decide) rfl ?_
        refine qx_iconst C d_Q_leadIfMostSaidYes_36 (v := iI (0)) rfl ?_
        refine nx_istore_n C d_Q_leadIfMostSaidYes_37 rfl (Nat.le_of_ble_eq_true rfl) (lo' := [_, _, some (.int _)]) rfl ?_
        exact Lp 5 0 _ (by omega) ((h.u hs (k := 9) (ka := 13) (v := 3) (va := 3) (by unfold cr_F; omega)).u hs (k := 11) (ka := 20) (v := 0) (va := 0) (by unfold cr_F; omega)) ((cl_uI _ _ _ (by omega)).trans (cl_uI _ _ _ (by omega)))
      · exact absurd z2 (by omega)
    · rw [if_neg c2]
      refine nx_if_ne C 26 d_Q_leadIfMostSaidYes_22 (by decide) (by omega) (fun z2 => ?_) (fun z2 => ?_)
      · exact absurd z2 (by omega)
      · exact Ex X C (fun z => by have := z.2; unfold md_most at this; rw [if_neg c2] at this; omega) _
