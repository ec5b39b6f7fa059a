/-! the class: lose, deliver, timer, beat, crash, restart -/
/-- the end of a call from outside -/
def cr_T (G : qh_G) (ad : Nat → Nat) (iv : Nat → Option Nat) (g : qh_H) (A : md_A) (h' : qh_H) : Prop := ∃ g' I' m' E' N', h' = ch G ad iv g' I' m' E' N' ∧ cr_g g g' ∧ cr G iv g' I' m' E' N' A
theorem cr_T.of {G : qh_G} {ad : Nat → Nat} {iv : Nat → Option Nat} {g g' : qh_H} {I' : md_A} {m' : Nat → Nat} {E' : cl_E} {N' : Nat → Nat} {A : md_A} (hg : cr_g g g') (h : cr G iv g' I' m' E' N' A) : cr_T G ad iv g A (ch G ad iv g' I' m' E' N') := ⟨g', I', m', E', N', rfl, hg, h⟩
/-- what is asked of a state -/
def md_S (A : md_A) : Prop := md_V A ∧ ∀ s : Nat, s < 5 → md_T A s ∧ md_nx A s ∧ (A 1 s = 0 ∨ A 1 s = 1) ∧ (A 15 s = 0 ∨ A 15 s = 1)
set_option maxRecDepth 100000 in
theorem c_lose (l : Launch) (G : qh_G) (b : Nat) {ad : Nat → Nat} {iv : Nat → Option Nat} (J : cl_I ad iv) {g : qh_H} {I : md_A} {m : Nat → Nat} {E : cl_E} {N : Nat → Nat} {A : md_A} (h : cr G iv g I m E N A) (hv : md_V A) {k : Int} (hk : rng k) {r : Int} {A2 : md_A} (hr : (0 ≤ k ∧ k < A 27 0 → r = 1 ∧ A2 = md_take A k) ∧ (¬ (0 ≤ k ∧ k < A 27 0) → r = 0 ∧ A2 = A)) (d : Nat) : qp l y_Q_lose c_Q_lose 2 (some .boolean) (d + 1) 0 0 G b [.ref (ad 0), .int (iI k)] (ch G ad iv g I m E N) r (cr_T G ad iv g A2) := by
  have hI2 := h.2.2.1
  refine qx_of (lo := [some (.ref (ad 0)), some (.int (iI k))]) (by decide) (fun w hw => List.mem_cons_of_mem _ hw) rfl (Nat.le_of_ble_eq_true rfl) rfl ?_
  intro X C
  refine qx_aload_n C d_Q_lose_0 rfl rfl ?_
  refine qx_get C d_Q_lose_1 fl_Q_35 (ch_Q J) rfl ?_
  refine qx_iload_n C d_Q_lose_4 rfl rfl ?_
  refine nx_call0 C (s_Q_lose_5 (ch_W J)) (c_wholds l G b J hI2 (by omega) hk d) w_W_holds rfl rfl (Nat.le_of_ble_eq_true rfl) (by omega) (by decide) ?_
  by_cases hc : 0 ≤ k ∧ k < A 27 0
  · obtain ⟨rfl, rfl⟩ := hr.1 hc
    obtain ⟨kn, rfl⟩ := Int.eq_ofNat_of_zero_le hc.1
    have hwn : I 2 2 = ((A 27 0).toNat : Nat) := by rw [hI2]; omega
    rw [if_pos hc]
    refine nx_if_ne C 13 d_Q_lose_8 (by decide) (by omega) (fun z1 => ?_) (fun z1 => ?_)
    · refine qx_aload_n C d_Q_lose_13 rfl rfl ?_
      refine qx_get C d_Q_lose_14 fl_Q_35 (ch_Q J) rfl ?_
      refine qx_iload_n C d_Q_lose_17 rfl rfl ?_
      refine nx_callq C (s_Q_lose_18 (ch_W J)) (c_taken l G b J hwn (by omega) (by omega) h.2.2.2.1.1 d) w_W_take rfl rfl (Nat.le_of_ble_eq_true rfl) (by omega) (by decide) ?_
      show X _ _ (.ref _ :: []) _ _ _
      refine qx_pop C d_Q_lose_21 rfl ?_
      refine qx_iconst C d_Q_lose_22 (v := iI (1)) rfl ?_
      refine qx_zret C d_Q_lose_23 (by decide) (Nat.le_of_ble_eq_true rfl) (Nat.le_of_ble_eq_true rfl) ⟨_, rfl, ?_, ?_⟩
      · rfl
      · exact cr_T.of (cr_g.rf g) (h.take (w := (A 27 0).toNat) (by omega) (by omega) (by omega)).1
    · exact absurd z1 (by omega)
  · obtain ⟨rfl, rfl⟩ := hr.2 hc
    rw [if_neg hc]
    refine nx_if_ne C 13 d_Q_lose_8 (by decide) (by omega) (fun z1 => ?_) (fun z1 => ?_)
    · exact absurd z1 (by omega)
    · refine qx_iconst C d_Q_lose_11 (v := iI (0)) rfl ?_
      refine qx_zret C d_Q_lose_12 (by decide) (Nat.le_of_ble_eq_true rfl) (Nat.le_of_ble_eq_true rfl) ⟨_, rfl, ?_, ?_⟩
      · rfl
      · exact cr_T.of (cr_g.rf g) h
set_option maxRecDepth 100000 in
theorem c_beat (l : Launch) (G : qh_G) (b : Nat) {ad : Nat → Nat} {iv : Nat → Option Nat} (J : cl_I ad iv) {g : qh_H} {I : md_A} {m : Nat → Nat} {E : cl_E} {N : Nat → Nat} {A : md_A} (h : cr G iv g I m E N A) (hS : md_S A) {x : Int} (hx : rng x) {r : Int} {A2 : md_A} (hr : (md_beatC A x → r = 1 ∧ A2 = md_all A x 5) ∧ (¬ md_beatC A x → r = 0 ∧ A2 = A)) (d : Nat) : qp l y_Q_beat c_Q_beat 2 (some .boolean) (d + 5) 0 0 G b [.ref (ad 0), .int (iI x)] (ch G ad iv g I m E N) r (cr_T G ad iv g A2) := by
  obtain ⟨hv, hSs⟩ := hS
  refine qx_of (lo := [some (.ref (ad 0)), some (.int (iI x))]) (by decide) (fun w hw => List.mem_cons_of_mem _ hw) rfl (Nat.le_of_ble_eq_true rfl) rfl ?_
  intro X C
  have No : ¬ md_beatC A x → X 19 [some (.ref (ad 0)), some (.int (iI x))] [] (ch G ad iv g I m E N) 0 0 := by
    intro hc
    obtain ⟨rfl, rfl⟩ := hr.2 hc
    refine qx_iconst C d_Q_beat_19 (v := iI (0)) rfl ?_
    refine qx_zret C d_Q_beat_20 (by decide) (Nat.le_of_ble_eq_true rfl) (Nat.le_of_ble_eq_true rfl) ⟨_, rfl, ?_, ?_⟩
    · rfl
    · exact cr_T.of (cr_g.rf g) h
  refine qx_iload_n C d_Q_beat_0 rfl rfl ?_
  refine nx_call0 C s_Q_beat_1 (c_isServer l G b _ hx d) w_Q_isServer rfl rfl (Nat.le_of_ble_eq_true rfl) (by omega) (by decide) ?_
  by_cases h5 : 0 ≤ x ∧ x < 5
  · rw [if_pos h5]
    obtain ⟨s, hs, rfl⟩ := k5_ex h5.1 h5.2
    obtain ⟨hT, hn, h01, -⟩ := hSs s hs
    refine nx_if_eq C 19 d_Q_beat_4 (by decide) (by omega) (fun z1 => ?_) (fun z1 => ?_)
    · exact absurd z1 (by omega)
    · refine qx_aload_n C d_Q_beat_7 rfl rfl ?_
      refine qx_get C d_Q_beat_8 fl_Q_11 (ch_Q J) rfl ?_
      refine qx_iload_n C d_Q_beat_11 rfl rfl ?_
      refine cx_sv C J d_Q_beat_12 rfl hs ?_
      refine nx_call0 C (s_Q_beat_13 (ch_S J hs)) (c_leads l G b J hv.1.1 hs (h.1 s hs) h01 d) w_S_leads rfl rfl (Nat.le_of_ble_eq_true rfl) (by omega) (by decide) ?_
      by_cases hl : md_leads A s = 1
      · obtain ⟨rfl, rfl⟩ := hr.1 ⟨h5, hl⟩
        rw [hl]
        refine nx_if_ne C 21 d_Q_beat_16 (by decide) (by omega) (fun z2 => ?_) (fun z2 => ?_)
        · refine qx_aload_n C d_Q_beat_21 rfl rfl ?_
          refine qx_aload_n C d_Q_beat_22 rfl rfl ?_
          refine qx_get C d_Q_beat_23 fl_Q_11 (ch_Q J) rfl ?_
          refine qx_iload_n C d_Q_beat_26 rfl rfl ?_
          refine cx_sv C J d_Q_beat_27 rfl hs ?_
          refine nx_callpv C (s_Q_beat_28 (ch_Q J)) (c_sendAll l G b J h hv.1 hs hT.1 hT.2.1 hn d) w_Q_sendToAll rfl rfl (Nat.le_of_ble_eq_true rfl) (by omega) (by decide) (fun hh hP => ?_)
          obtain ⟨g5, I5, E5, N5, rfl, hg5, h5', -, -, -⟩ := hP
          refine qx_iconst C d_Q_beat_31 (v := iI (1)) rfl ?_
          refine qx_zret C d_Q_beat_32 (by decide) (Nat.le_of_ble_eq_true rfl) (Nat.le_of_ble_eq_true rfl) ⟨_, rfl, ?_, ?_⟩
          · rfl
          · exact cr_T.of hg5 h5'
        · exact absurd z2 (by omega)
      · have hl0 : md_leads A s = 0 := by unfold md_leads at hl ⊢; split at hl; exact absurd rfl hl; rename_i hh; rw [if_neg hh]
        rw [hl0]
        refine nx_if_ne C 21 d_Q_beat_16 (by decide) (by omega) (fun z2 => ?_) (fun z2 => ?_)
        · exact absurd z2 (by omega)
        · exact No (fun z => hl z.2)
  · rw [if_neg h5]
    refine nx_if_eq C 19 d_Q_beat_4 (by decide) (by omega) (fun z1 => ?_) (fun z1 => ?_)
    · exact No (fun z => h5 z.1)
    · exact absurd z1 (by omega)
set_option maxRecDepth 100000 in
theorem c_timer (l : Launch) (G : qh_G) (b : Nat) {ad : Nat → Nat} {iv : Nat → Option Nat} (J : cl_I ad iv) {g : qh_H} {I : md_A} {m : Nat → Nat} {E : cl_E} {N : Nat → Nat} {A : md_A} (h : cr G iv g I m E N A) (hS : md_S A) {x : Int} (hx : rng x) {r : Int} {A2 : md_A} (hr : (md_timerC A x → r = 1 ∧ A2 = md_timer A x) ∧ (¬ md_timerC A x → r = 0 ∧ A2 = A)) (d : Nat) : qp l y_Q_timer c_Q_timer 3 (some .boolean) (d + 7) 1 4 G b [.ref (ad 0), .int (iI x)] (ch G ad iv g I m E N) r (cr_T G ad iv g A2) := by
  obtain ⟨hv, hSs⟩ := hS
  refine qx_of (lo := [some (.ref (ad 0)), some (.int (iI x)), none]) (by decide) (fun w hw => List.mem_cons_of_mem _ hw) rfl (Nat.le_of_ble_eq_true rfl) rfl ?_
  intro X C
  have No : ¬ md_timerC A x → X 19 [some (.ref (ad 0)), some (.int (iI x)), none] [] (ch G ad iv g I m E N) 0 0 := by
    intro hc
    obtain ⟨rfl, rfl⟩ := hr.2 hc
    refine qx_iconst C d_Q_timer_19 (v := iI (0)) rfl ?_
    refine qx_zret C d_Q_timer_20 (by decide) (Nat.le_of_ble_eq_true rfl) (Nat.le_of_ble_eq_true rfl) ⟨_, rfl, ?_, ?_⟩
    · rfl
    · exact cr_T.of (cr_g.rf g) h
  refine qx_iload_n C d_Q_timer_0 rfl rfl ?_
  refine nx_call0 C s_Q_timer_1 (c_isServer l G b _ hx d) w_Q_isServer rfl rfl (Nat.le_of_ble_eq_true rfl) (by omega) (by decide) ?_
  by_cases h5 : 0 ≤ x ∧ x < 5
  · rw [if_pos h5]
    obtain ⟨s, hs, rfl⟩ := k5_ex h5.1 h5.2
    obtain ⟨hT, hn, h01, -⟩ := hSs s hs
    have hb01 := bit_01 (md_config A s) s
    refine nx_if_eq C 19 d_Q_timer_4 (by decide) (by omega) (fun z1 => ?_) (fun z1 => ?_)
    · exact absurd z1 (by omega)
    · refine qx_aload_n C d_Q_timer_7 rfl rfl ?_
      refine qx_get C d_Q_timer_8 fl_Q_11 (ch_Q J) rfl ?_
      refine qx_iload_n C d_Q_timer_11 rfl rfl ?_
      refine cx_sv C J d_Q_timer_12 rfl hs ?_
      refine nx_call0 C (s_Q_timer_13 (ch_S J hs)) (c_mayAsk l G b J hv.1.1 hs (h.1 s hs) (h.2.1 s hs) hT.1 hT.2.1 h01 d) w_S_mayAsk rfl rfl (Nat.le_of_ble_eq_true rfl) (by omega) (by decide) ?_
      by_cases hl : A 1 s = 0 ∧ ¬ A 13 s = 3 ∧ md_mine A s = 1 ∧ A 8 s < 40
      · obtain ⟨rfl, rfl⟩ := hr.1 ⟨h5, hl.1, hl.2.1, by omega, hl.2.2.2⟩
        rw [if_pos hl]
        refine nx_if_ne C 21 d_Q_timer_16 (by decide) (by omega) (fun z2 => ?_) (fun z2 => ?_)
        · refine qx_aload_n C d_Q_timer_21 rfl rfl ?_
          refine qx_get C d_Q_timer_22 fl_Q_11 (ch_Q J) rfl ?_
          refine qx_iload_n C d_Q_timer_25 rfl rfl ?_
          refine cx_sv C J d_Q_timer_26 rfl hs ?_
          refine nx_astore_n C d_Q_timer_27 rfl (Nat.le_of_ble_eq_true rfl) (lo' := [_, _, some (.ref _)]) rfl ?_
          refine qx_aload_n C d_Q_timer_28 rfl rfl ?_
          refine qx_iconst C d_Q_timer_29 (v := iI (0)) rfl ?_
          refine cx_pSz C J hs (kz := 6) d_Q_timer_30 fp_Q_47 (by decide) rfl (by omega) ?_
          refine qx_aload_n C d_Q_timer_33 rfl rfl ?_
          refine qx_iconst C d_Q_timer_34 (v := iI (1)) rfl ?_
          refine cx_pS C J hs (kz := 9) d_Q_timer_35 fp_Q_51 (by decide) rfl ?_
          refine qx_aload_n C d_Q_timer_38 rfl rfl ?_
          refine qx_iconst C d_Q_timer_39 (v := iI (1)) rfl ?_
          refine qx_aload_n C d_Q_timer_40 rfl rfl ?_
          refine qx_get C d_Q_timer_41 fl_Q_55 (ch_S J hs) rfl ?_
          refine nx_ishl1 C d_Q_timer_44 (by omega) ?_
          refine cx_pS C J hs (kz := 12) d_Q_timer_45 fp_Q_58 (by decide) rfl ?_
          refine qx_aload_n C d_Q_timer_48 rfl rfl ?_
          refine qx_aload_n C d_Q_timer_49 rfl rfl ?_
          refine qx_iconst C d_Q_timer_50 (v := iI (0)) rfl ?_
          refine qx_aload_n C d_Q_timer_51 rfl rfl ?_
          refine qx_get C d_Q_timer_52 fl_Q_61 (ch_S J hs) rfl ?_
          rw [md_ui (by decide), md_ui (by decide), md_ui (by decide), (h.1 s hs).1.2.2.1]
          refine qx_iconst C d_Q_timer_55 (v := iI (1)) rfl ?_
          refine nx_iadd C d_Q_timer_56 ?_
          have h3 : cr G iv g _ m E N (md_tick A s) := ((h.u hs (k := 6) (ka := 15) (v := 0) (va := 0) (by unfold cr_F; omega)).u hs (k := 9) (ka := 13) (v := 1) (va := 1) (by unfold cr_F; omega)).u hs (k := 12) (ka := 16) (v := one s) (va := one s) (by unfold cr_F; omega)
          have h1s := set5_one (k := s) (by omega) (by omega)
          have hw3 : md_ww (md_tick A s) := ((hv.1.u (by decide) (by omega)).u (by decide) (by omega)).u (by decide) (by omega)
          have hlg3 : md_lg A (md_tick A s) := (((md_lg.rf A).u (by decide)).u (by decide)).u (by decide)
          refine nx_callpv C (s_Q_timer_57 (ch_Q J)) (c_askAll l G b J h3 hw3 hs (hlg3.B hT.1) (by rw [hlg3.config]; exact hT.2.1) (Or.inl rfl) (by omega) d) w_Q_askAll rfl rfl (Nat.le_of_ble_eq_true rfl) (by omega) (by decide) (fun hh hP => ?_)
          obtain ⟨g4, I4, E4, N4, rfl, hg4, h4, -, -, -⟩ := hP
          have hlg4 : md_lg A (md_ask (md_tick A s) s 0 (A 2 s + 1) 5) := fun k k1 k2 => (md_ask_lg (md_tick A s) s 0 (A 2 s + 1) 5 k k1 k2).trans (hlg3 k k1 k2)
          have hw4 := md_ask_ww (kind := 0) (t := A 2 s + 1) (hlg3.B hT.1) hw3 (by omega) (by omega) 5 (by omega)
          have o4 : ∀ k : Nat, k ≠ 27 → k ≠ 28 → k ≠ 29 → k ≠ 13 → k ≠ 15 → k ≠ 16 → ∀ i, md_ask (md_tick A s) s 0 (A 2 s + 1) 5 k i = A k i := fun k k1 k2 k3 k4 k5 k6 i => by
            rw [md_ask_k ⟨k1, k2, k3⟩]
            unfold md_tick
            rw [md_uk k6, md_uk k4, md_uk k5]
          have o2 := o4 2 (by decide) (by decide) (by decide) (by decide) (by decide) (by decide) s
          have o8 := o4 8 (by decide) (by decide) (by decide) (by decide) (by decide) (by decide) s
          have o14 := o4 14 (by decide) (by decide) (by decide) (by decide) (by decide) (by decide) s
          have o21 := o4 21 (by decide) (by decide) (by decide) (by decide) (by decide) (by decide) 0
          have o16 : md_ask (md_tick A s) s 0 (A 2 s + 1) 5 16 s = one s := by
            rw [md_ask_k (by decide)]
            exact md_us
          refine qx_aload_n C d_Q_timer_60 rfl rfl ?_
          refine qx_aload_n C d_Q_timer_61 rfl rfl ?_
          refine nx_callpv C (s_Q_timer_62 (ch_Q J)) (c_stand l G b J h4 hw4 hs (hlg4.B hT.1) (by rw [hlg4.config]; exact hT.2.1) (by rw [o16]; exact h1s) (by rw [o2]; omega) d) w_Q_standIfMostSaidYes rfl rfl (Nat.le_of_ble_eq_true rfl) (by omega) (by decide) (fun hh hP => ?_)
          obtain ⟨g5, I5, E5, N5, rfl, hg5, h5', -, -, -⟩ := hP
          have hlg5 : md_lg A (md_stand (md_ask (md_tick A s) s 0 (A 2 s + 1) 5) s) := fun k k1 k2 => (md_stand_lg _ s k k1 k2).trans (hlg4 k k1 k2)
          have hw5 := md_stand_ww hw4 (hlg4.B hT.1) (by rw [o2]; omega)
          have p8 : md_stand (md_ask (md_tick A s) s 0 (A 2 s + 1) 5) s 8 s = A 8 s := by rw [md_stand_k (by decide) (by decide)]; exact o8
          have p14 : md_stand (md_ask (md_tick A s) s 0 (A 2 s + 1) 5) s 14 s = A 14 s := by rw [md_stand_k (by decide) (by decide)]; exact o14
          have p21 : md_stand (md_ask (md_tick A s) s 0 (A 2 s + 1) 5) s 21 0 = A 21 0 := by rw [md_stand_k (by decide) (by decide)]; exact o21
          have p17 : ∀ i, md_stand (md_ask (md_tick A s) s 0 (A 2 s + 1) 5) s 17 i = A 17 i := fun i => by rw [md_stand_k (by decide) (by decide)]; exact o4 17 (by decide) (by decide) (by decide) (by decide) (by decide) (by decide) i
          have p16 := md_stand_16 (A := md_ask (md_tick A s) s 0 (A 2 s + 1) 5) (s := s) (by omega) (by rw [o16]; exact h1s)
          refine qx_aload_n C d_Q_timer_65 rfl rfl ?_
          refine qx_aload_n C d_Q_timer_66 rfl rfl ?_
          refine nx_callpv C (s_Q_timer_67 (ch_Q J)) (c_lead l G b J h5' hw5 hs (fun s' hs' => hlg5.B (hSs s' hs').1.1) (by omega) (by rw [hlg5.config]; exact hT.2.1) p16 (by rw [p14, hlg5.last]; omega) (by rw [p21]; exact hv.2) (fun i => by rw [p17]; exact hn i) d) w_Q_leadIfMostSaidYes rfl rfl (Nat.le_of_ble_eq_true rfl) (by omega) (by decide) (fun hh hP => ?_)
          obtain ⟨g6, I6, E6, N6, rfl, hg6, h6, -, -, -⟩ := hP
          refine qx_iconst C d_Q_timer_70 (v := iI (1)) rfl ?_
          refine qx_zret C d_Q_timer_71 (by decide) (Nat.le_of_ble_eq_true rfl) (Nat.le_of_ble_eq_true rfl) ⟨_, rfl, ?_, ?_⟩
          · rfl
          · exact cr_T.of (hg4.tr (hg5.tr hg6)) h6
        · exact absurd z2 (by omega)
      · rw [if_neg hl]
        refine nx_if_ne C 21 d_Q_timer_16 (by decide) (by omega) (fun z2 => ?_) (fun z2 => ?_)
        · exact absurd z2 (by omega)
        · exact No (fun z => hl ⟨z.2.1, z.2.2.1, by have := z.2.2.2.1; unfold md_mine at this ⊢; omega, z.2.2.2.2⟩)
  · rw [if_neg h5]
    refine nx_if_eq C 19 d_Q_timer_4 (by decide) (by omega) (fun z1 => ?_) (fun z1 => ?_)
    · exact No (fun z => h5 z.1)
    · exact absurd z1 (by omega)
