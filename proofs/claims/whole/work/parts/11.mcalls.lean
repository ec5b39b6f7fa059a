/-! the reference: its calls -/
theorem md_push_lm {A : md_A} {s t so ke va : Int} : ∀ n : Nat, (n : Int) ≤ A 8 s → md_lm (md_push A s t so ke va) s n = md_lm A s n
  | 0, _ => rfl
  | n + 1, h => by
    have e4 : md_push A s t so ke va 4 s = A 4 s := md_push_k (by decide)
    have e10 : md_push A s t so ke va 10 (48 * s + n) = A 10 (48 * s + n) := by
      unfold md_push
      rw [md_uk (by decide), md_uk (by decide), md_uk (by decide), md_ui (by omega), md_uk (by decide)]
    rw [md_lm_s, md_lm_s, md_push_lm n (by omega), e4, e10]
theorem md_push_config {A : md_A} {s t so ke va : Int} (hs : md_B A s) : md_config (md_push A s t so ke va) s = if so = 2 then ke else md_config A s := by
  have e4 : md_push A s t so ke va 4 s = A 4 s := md_push_k (by decide)
  have e6 : md_push A s t so ke va 6 s = A 6 s := md_push_k (by decide)
  have e8 : md_push A s t so ke va 8 s = A 8 s + 1 := md_push_8
  have e10 : md_push A s t so ke va 10 (48 * s + A 8 s) = so := by
    unfold md_push
    rw [md_uk (by decide), md_uk (by decide), md_uk (by decide), md_us]
  have e11 : md_push A s t so ke va 11 (48 * s + A 8 s) = ke := by
    unfold md_push
    rw [md_uk (by decide), md_uk (by decide), md_us]
  have hz := md_sz hs
  have hlm : md_lm (md_push A s t so ke va) s (A 8 s).toNat = md_lm A s (A 8 s).toNat := md_push_lm _ (by omega)
  unfold md_config md_mem
  rw [e8, show (A 8 s + 1).toNat = (A 8 s).toNat + 1 by omega, md_lm_s, hlm, hz, e10, e4, e6]
  by_cases h2 : so = 2
  · rw [if_pos h2, if_pos h2, if_neg (by omega)]
    have : md_cell (md_push A s t so ke va) s (A 4 s + A 8 s + 1) = 48 * s + A 8 s := by
      unfold md_cell md_last
      rw [e4, e8, if_pos (by omega)]
      omega
    rw [this, e11]
  · rw [if_neg h2, if_neg h2]
    by_cases h0 : md_lm A s (A 8 s).toNat = 0
    · rw [if_pos h0, if_pos h0]
    · rw [if_neg h0, if_neg h0]
      rcases md_lm_in A s (A 8 s).toNat with h | ⟨j, h1, h3⟩
      · exact absurd h h0
      · have c1 : md_cell A s (md_lm A s (A 8 s).toNat) = 48 * s + j := by rw [h3]; exact md_cell_in (by omega)
        have c2 : md_cell (md_push A s t so ke va) s (md_lm A s (A 8 s).toNat) = 48 * s + j := by
          rw [h3, ← e4]
          exact md_cell_in (by rw [e8]; omega)
        rw [c1, c2]
        unfold md_push
        rw [md_uk (by decide), md_uk (by decide), md_ui (by omega), md_uk (by decide), md_uk (by decide)]
/-- what the calls ask of the whole state, and of a server -/
abbrev md_V (A : md_A) : Prop := md_ww A ∧ 0 ≤ A 21 0 ∧ A 21 0 ≤ 60
abbrev md_T (A : md_A) (s : Int) : Prop := md_B A s ∧ set5 (md_config A s) ∧ (A 4 s ≤ A 14 s ∧ A 14 s ≤ md_last A s) ∧ (0 ≤ A 2 s ∧ A 2 s ≤ 1000000) ∧ set5 (A 16 s)
theorem md_T.cm {A : md_A} {s : Int} (h : md_T A s) : -1 ≤ A 14 s ∧ A 14 s ≤ 1000100 := by
  have hl : md_last A s = A 4 s + A 8 s := rfl
  omega
theorem md_lead_cf {A : md_A} {s t : Int} (hs : md_B A s) (hcf : set5 (md_config A s)) : set5 (md_config (md_push (md_ld A s 5) s t 0 0 0) s) := by
  rw [md_push_config ((md_ld_lg A s 5).B hs), if_neg (by decide), (md_ld_lg A s 5).config]
  exact hcf
theorem md_weigh_cf {A : md_A} {s t : Int} (hs : md_B A s) (hcf : set5 (md_config A s)) : set5 (md_config (md_push (md_ld (md_stand A s) s 5) s t 0 0 0) s) := md_lead_cf ((md_stand_lg A s).B hs) (by rw [(md_stand_lg A s).config]; exact hcf)
def md_c0 (A : md_A) : md_A := md_u A 0 0 0
theorem md_c0_lg (A : md_A) : md_lg A (md_c0 A) := (md_lg.rf A).u (by omega)
def md_tick (A : md_A) (x : Int) : md_A := md_u (md_u (md_u A 15 x 0) 13 x 1) 16 x (one x)
def md_timerC (A : md_A) (x : Int) : Prop := (0 ≤ x ∧ x < 5) ∧ A 1 x = 0 ∧ ¬ A 13 x = 3 ∧ ¬ md_mine A x = 0 ∧ A 8 x < 40
def md_timer (A : md_A) (x : Int) : md_A := md_weigh (md_ask (md_tick A x) x 0 (A 2 x + 1) 5) x
theorem md_tick_k {A : md_A} {s i : Int} {k : Nat} (h : k ≠ 13 ∧ k ≠ 15 ∧ k ≠ 16) : md_tick A s k i = A k i := by
  unfold md_tick
  rw [md_uk h.2.2, md_uk h.1, md_uk h.2.1]
theorem md_tick_lg (A : md_A) (s : Int) : md_lg A (md_tick A s) := fun k h1 h2 => by
  funext x
  exact md_tick_k (by omega)
theorem md_tick_ww {A : md_A} {s : Int} (h : md_ww A) (hs : 0 ≤ s ∧ s < 5) : md_ww (md_tick A s) := by
  have h5 := set5_one hs.1 hs.2
  exact ((h.u (by decide) (by omega)).u (by decide) (by omega)).u (by decide) (by omega)
set_option maxRecDepth 100000 in
theorem m_timer (l : Launch) (G : qh_G) (b : Nat) {o : Nat} {ad : Nat → Nat} {iv : Nat → Option Nat} (I : md_I o ad iv) (g : qh_H) {A : md_A} {x : Int} (hx : rng x) (hv : md_V (md_c0 A)) (ht : 0 ≤ x → x < 5 → md_T (md_c0 A) x ∧ md_nx (md_c0 A) x) {r : Int} {A2 : md_A} (hr : (md_timerC (md_c0 A) x → r = 1 ∧ A2 = md_timer (md_c0 A) x) ∧ (¬ md_timerC (md_c0 A) x → r = 0 ∧ A2 = md_c0 A)) (d : Nat) : qj l y_D_timer c_D_timer 2 (some .boolean) (d + 10) 0 0 G b [.ref o, .int (iI x)] (md_h G o ad iv g A) r (md_h G o ad iv g A2) := by
  refine qx_of (lo := [some (.ref o), some (.int (iI x))]) (by decide) (fun w hw => List.mem_cons_of_mem _ hw) rfl (Nat.le_of_ble_eq_true rfl) rfl ?_
  intro X C
  have F : ¬ md_timerC (md_c0 A) x → X 50 [some (.ref o), some (.int (iI x))] [] (md_h G o ad iv g (md_c0 A)) 0 0 := by
    intro h
    obtain ⟨rfl, rfl⟩ := hr.2 h
    refine qx_iconst C d_D_timer_50 (v := iI (0)) rfl ?_
    refine qx_zret C d_D_timer_51 (by decide) (Nat.zero_le _) (Nat.zero_le _) ⟨_, rfl, ?_, rfl⟩
    rfl
  refine qx_aload_n C d_D_timer_0 rfl rfl ?_
  refine qx_iconst C d_D_timer_1 (v := iI (0)) rfl ?_
  refine mx_pi C I d_D_timer_2 fp_D_92 (by decide) ?_
  refine qx_iload_n C d_D_timer_5 rfl rfl ?_
  rw [show md_u A 0 0 0 = md_c0 A from rfl]
  refine nx_call0 C s_D_timer_6 (m_isServer l G b (md_h G o ad iv g (md_c0 A)) hx d) w_D_isServer rfl rfl (Nat.le_of_ble_eq_true rfl) (by omega) (by decide) ?_
  by_cases h5 : 0 ≤ x ∧ x < 5
  · rw [if_pos h5]
    obtain ⟨hT, hn⟩ := ht h5.1 h5.2
    have h1 := hv.1.1 1 x
    have h13 := hv.1.1 13 x
    have hb := bit_01 (md_config (md_c0 A) x) x
    have hmi : md_mine (md_c0 A) x = bit (md_config (md_c0 A) x) x := rfl
    have hlg1 := (md_tick_lg (md_c0 A) x)
    have hww1 := md_tick_ww hv.1 h5
    have h1x := set5_one h5.1 h5.2
    refine nx_if_eq C 50 d_D_timer_9 (by decide) (by omega) (fun q1 => ?_) (fun q1 => ?_)
    · exact absurd q1 (by decide)
    · refine qx_aload_n C d_D_timer_12 rfl rfl ?_
      refine mx_gi C d_D_timer_13 fl_D_7 rfl ?_
      refine qx_iload_n C d_D_timer_16 rfl rfl ?_
      refine mx_za C I 1 5 d_D_timer_17 (by unfold md_a; omega) rfl rfl (by omega) (by omega) ?_
      refine nx_if_ne C 50 d_D_timer_18 (by decide) (by omega) (fun q2 => ?_) (fun q2 => ?_)
      · exact F (fun z => q2 z.2.1)
      · refine qx_aload_n C d_D_timer_21 rfl rfl ?_
        refine mx_gi C d_D_timer_22 fl_D_47 rfl ?_
        refine qx_iload_n C d_D_timer_25 rfl rfl ?_
        refine mx_ia C I 13 5 d_D_timer_26 (by unfold md_a; omega) rfl rfl (by omega) (by omega) ?_
        refine qx_iconst C d_D_timer_27 (v := iI (3)) rfl ?_
        refine nx_icmp_eq C 50 d_D_timer_28 (by decide) (by omega) (by omega) (fun q3 => ?_) (fun q3 => ?_)
        · exact F (fun z => z.2.2.1 q3)
        · refine qx_aload_n C d_D_timer_31 rfl rfl ?_
          refine qx_iload_n C d_D_timer_32 rfl rfl ?_
          refine nx_call0 C (s_D_timer_33 md_o) (m_isMine l G b I g hv.1.1 hT.1 hT.2.1 d) w_D_isMine rfl rfl (Nat.le_of_ble_eq_true rfl) (by omega) (by decide) ?_
          refine nx_if_eq C 50 d_D_timer_36 (by decide) (by omega) (fun q4 => ?_) (fun q4 => ?_)
          · exact F (fun z => z.2.2.2.1 q4)
          · refine qx_aload_n C d_D_timer_39 rfl rfl ?_
            refine mx_gi C d_D_timer_40 fl_D_32 rfl ?_
            refine qx_iload_n C d_D_timer_43 rfl rfl ?_
            refine mx_ia C I 8 5 d_D_timer_44 (by unfold md_a; omega) rfl rfl (by omega) (by omega) ?_
            refine qx_bipush C d_D_timer_45 (v := iI (40)) (by decide) ?_
            refine nx_icmp_lt C 52 d_D_timer_47 (by decide) (by omega) (by omega) (fun q5 => ?_) (fun q5 => ?_)
            · obtain ⟨rfl, rfl⟩ := hr.1 ⟨h5, q2, q3, q4, q5⟩
              refine qx_aload_n C d_D_timer_52 rfl rfl ?_
              refine mx_gi C d_D_timer_53 fl_D_53 rfl ?_
              refine qx_iload_n C d_D_timer_56 rfl rfl ?_
              refine qx_iconst C d_D_timer_57 (v := iI (0)) rfl ?_
              refine mx_zs C I 15 5 d_D_timer_58 (by unfold md_a; omega) rfl rfl (by omega) (by omega) (by omega) ?_
              refine qx_aload_n C d_D_timer_59 rfl rfl ?_
              refine mx_gi C d_D_timer_60 fl_D_47 rfl ?_
              refine qx_iload_n C d_D_timer_63 rfl rfl ?_
              refine qx_iconst C d_D_timer_64 (v := iI (1)) rfl ?_
              refine mx_is C I 13 5 d_D_timer_65 (by unfold md_a; omega) rfl rfl (by omega) (by omega) ?_
              refine qx_aload_n C d_D_timer_66 rfl rfl ?_
              refine mx_gi C d_D_timer_67 fl_D_56 rfl ?_
              refine qx_iload_n C d_D_timer_70 rfl rfl ?_
              refine qx_iconst C d_D_timer_71 (v := iI (1)) rfl ?_
              refine qx_iload_n C d_D_timer_72 rfl rfl ?_
              refine nx_ishl1 C d_D_timer_73 (by omega) ?_
              refine mx_is C I 16 5 d_D_timer_74 (by unfold md_a; omega) rfl rfl (by omega) (by omega) ?_
              refine qx_aload_n C d_D_timer_75 rfl rfl ?_
              refine qx_iload_n C d_D_timer_76 rfl rfl ?_
              refine qx_iconst C d_D_timer_77 (v := iI (0)) rfl ?_
              refine qx_aload_n C d_D_timer_78 rfl rfl ?_
              refine mx_gi C d_D_timer_79 fl_D_13 rfl ?_
              refine qx_iload_n C d_D_timer_82 rfl rfl ?_
              refine mx_ia C I 2 5 d_D_timer_83 (by unfold md_a; omega) rfl rfl (by omega) (by omega) ?_
              refine qx_iconst C d_D_timer_84 (v := iI (1)) rfl ?_
              refine nx_iadd C d_D_timer_85 ?_
              rw [md_uk (k := 16) (j := 2) (by decide), md_uk (k := 13) (j := 2) (by decide), md_uk (k := 15) (j := 2) (by decide)]
              rw [show md_u (md_u (md_u (md_c0 A) 15 x 0) 13 x 1) 16 x (one x) = md_tick (md_c0 A) x from rfl]
              refine nx_callv C (s_D_timer_86 md_o) (m_askAll l G b I g (hlg1.B hT.1) hww1 (by rw [hlg1.config]; exact hT.2.1) (by omega) (by omega) d) w_D_askAll rfl rfl (Nat.le_of_ble_eq_true rfl) (by omega) (by decide) ?_
              have lg2 : md_lg (md_c0 A) (md_ask (md_tick (md_c0 A) x) x 0 (md_c0 A 2 x + 1) 5) := fun k q1 q2 => by
                funext z
                rw [md_ask_k (by omega), md_tick_k (by omega)]
              have ww2 := md_ask_ww (s := x) (kind := 0) (t := md_c0 A 2 x + 1) (hlg1.B hT.1) hww1 (by omega) (by omega) 5 (by omega)
              have e : ∀ (k : Nat) (i : Int), (k ≠ 27 ∧ k ≠ 28 ∧ k ≠ 29) → (k ≠ 13 ∧ k ≠ 15 ∧ k ≠ 16) → md_ask (md_tick (md_c0 A) x) x 0 (md_c0 A 2 x + 1) 5 k i = md_c0 A k i := fun k i z1 z2 => by rw [md_ask_k z1, md_tick_k z2]
              have e16 : md_ask (md_tick (md_c0 A) x) x 0 (md_c0 A 2 x + 1) 5 16 x = one x := by rw [md_ask_k (by decide)]; unfold md_tick; exact md_us
              have hcm := hT.cm
              refine qx_aload_n C d_D_timer_89 rfl rfl ?_
              refine qx_iload_n C d_D_timer_90 rfl rfl ?_
              refine nx_callv C (s_D_timer_91 md_o) (m_weigh l G b I g (lg2.B hT.1) (by rw [lg2 8 (by decide) (by decide)]; omega) ww2 (by rw [lg2.config]; exact hT.2.1) (md_weigh_cf (lg2.B hT.1) (by rw [lg2.config]; exact hT.2.1)) (by rw [e16]; exact h1x) (by rw [e 2 x (by decide) (by decide)]; omega) (by rw [e 14 x (by decide) (by decide)]; exact hcm) (by rw [e 21 0 (by decide) (by decide)]; exact hv.2) (fun i => by rw [e 17 _ (by decide) (by decide)]; exact hn i) d) w_D_weigh rfl rfl (Nat.le_of_ble_eq_true rfl) (by omega) (by decide) ?_
              refine qx_iconst C d_D_timer_94 (v := iI (1)) rfl ?_
              refine qx_zret C d_D_timer_95 (by decide) (Nat.zero_le _) (Nat.zero_le _) ⟨_, rfl, ?_, rfl⟩
              rfl
            · exact F (fun z => q5 z.2.2.2.2)
  · rw [if_neg h5]
    refine nx_if_eq C 50 d_D_timer_9 (by decide) (by omega) (fun q1 => ?_) (fun q1 => ?_)
    · exact F (fun z => h5 z.1)
    · exact absurd rfl q1
def md_beatC (A : md_A) (x : Int) : Prop := (0 ≤ x ∧ x < 5) ∧ md_leads A x = 1
theorem md_leads_01 (A : md_A) (s : Int) : md_leads A s = 0 ∨ md_leads A s = 1 := by
  unfold md_leads
  split
  · exact Or.inr rfl
  · exact Or.inl rfl
theorem md_old_01 (A : md_A) (s : Int) : md_old A s = 0 ∨ md_old A s = 1 := by
  unfold md_old
  split
  · exact Or.inl rfl
  · exact Or.inr rfl
set_option maxRecDepth 100000 in
theorem m_beat (l : Launch) (G : qh_G) (b : Nat) {o : Nat} {ad : Nat → Nat} {iv : Nat → Option Nat} (I : md_I o ad iv) (g : qh_H) {A : md_A} {x : Int} (hx : rng x) (hv : md_V (md_c0 A)) (ht : 0 ≤ x → x < 5 → md_T (md_c0 A) x ∧ md_nx (md_c0 A) x) {r : Int} {A2 : md_A} (hr : (md_beatC (md_c0 A) x → r = 1 ∧ A2 = md_all (md_c0 A) x 5) ∧ (¬ md_beatC (md_c0 A) x → r = 0 ∧ A2 = md_c0 A)) (d : Nat) : qj l y_D_beat c_D_beat 2 (some .boolean) (d + 6) 0 0 G b [.ref o, .int (iI x)] (md_h G o ad iv g A) r (md_h G o ad iv g A2) := by
  refine qx_of (lo := [some (.ref o), some (.int (iI x))]) (by decide) (fun w hw => List.mem_cons_of_mem _ hw) rfl (Nat.le_of_ble_eq_true rfl) rfl ?_
  intro X C
  have F : ¬ md_beatC (md_c0 A) x → X 20 [some (.ref o), some (.int (iI x))] [] (md_h G o ad iv g (md_c0 A)) 0 0 := by
    intro h
    obtain ⟨rfl, rfl⟩ := hr.2 h
    refine qx_iconst C d_D_beat_20 (v := iI (0)) rfl ?_
    refine qx_zret C d_D_beat_21 (by decide) (Nat.zero_le _) (Nat.zero_le _) ⟨_, rfl, ?_, rfl⟩
    rfl
  refine qx_aload_n C d_D_beat_0 rfl rfl ?_
  refine qx_iconst C d_D_beat_1 (v := iI (0)) rfl ?_
  refine mx_pi C I d_D_beat_2 fp_D_92 (by decide) ?_
  refine qx_iload_n C d_D_beat_5 rfl rfl ?_
  rw [show md_u A 0 0 0 = md_c0 A from rfl]
  refine nx_call0 C s_D_beat_6 (m_isServer l G b (md_h G o ad iv g (md_c0 A)) hx d) w_D_isServer rfl rfl (Nat.le_of_ble_eq_true rfl) (by omega) (by decide) ?_
  by_cases h5 : 0 ≤ x ∧ x < 5
  · rw [if_pos h5]
    obtain ⟨hT, hn⟩ := ht h5.1 h5.2
    have hl := md_leads_01 (md_c0 A) x
    refine nx_if_eq C 20 d_D_beat_9 (by decide) (by omega) (fun q1 => ?_) (fun q1 => ?_)
    · exact absurd q1 (by decide)
    · refine qx_aload_n C d_D_beat_12 rfl rfl ?_
      refine qx_iload_n C d_D_beat_13 rfl rfl ?_
      refine nx_call0 C (s_D_beat_14 md_o) (m_leads l G b I g hv.1.1 h5 d) w_D_leads rfl rfl (Nat.le_of_ble_eq_true rfl) (by omega) (by decide) ?_
      refine nx_if_ne C 22 d_D_beat_17 (by decide) (by omega) (fun q2 => ?_) (fun q2 => ?_)
      · obtain ⟨rfl, rfl⟩ := hr.1 ⟨h5, by omega⟩
        refine qx_aload_n C d_D_beat_22 rfl rfl ?_
        refine qx_iload_n C d_D_beat_23 rfl rfl ?_
        refine nx_callv C (s_D_beat_24 md_o) (m_sendAll l G b I g hT.1 hv.1 hT.2.1 hn d) w_D_sendAll rfl rfl (Nat.le_of_ble_eq_true rfl) (by omega) (by decide) ?_
        refine qx_iconst C d_D_beat_27 (v := iI (1)) rfl ?_
        refine qx_zret C d_D_beat_28 (by decide) (Nat.zero_le _) (Nat.zero_le _) ⟨_, rfl, ?_, rfl⟩
        rfl
      · exact F (fun z => by have := z.2; omega)
  · rw [if_neg h5]
    refine nx_if_eq C 20 d_D_beat_9 (by decide) (by omega) (fun q1 => ?_) (fun q1 => ?_)
    · exact F (fun z => h5 z.1)
    · exact absurd rfl q1
/-- which exception a put ends in, 0: none -/
def md_putE (A : md_A) (x key : Int) : Int := if ¬ ((0 ≤ x ∧ x < 5) ∧ 0 ≤ key ∧ key < 4) then 1 else if md_leads A x = 0 then 2 else if 24 ≤ A 8 x then 3 else 0
set_option maxRecDepth 100000 in
theorem m_put (l : Launch) (G : qh_G) (b : Nat) {o : Nat} {ad : Nat → Nat} {iv : Nat → Option Nat} (I : md_I o ad iv) (g : qh_H) {A : md_A} {x key val : Int} (hx : rng x) (hk : rng key) (hva : rng val) (hv : md_V (md_c0 A)) (ht : 0 ≤ x → x < 5 → md_T (md_c0 A) x ∧ md_nx (md_c0 A) x) {r : Int} {A2 : md_A} (hr : (md_putE (md_c0 A) x key = 0 → r = md_last (md_c0 A) x + 1 ∧ A2 = md_append (md_c0 A) x 1 key val) ∧ (∀ c, c ≠ 0 → md_putE (md_c0 A) x key = c → r = 0 ∧ A2 = md_u (md_c0 A) 0 0 c)) (d : Nat) : qj l y_D_put c_D_put 4 (some .int) (d + 8) 0 0 G b [.ref o, .int (iI x), .int (iI key), .int (iI val)] (md_h G o ad iv g A) r (md_h G o ad iv g A2) := by
  refine qx_of (lo := [some (.ref o), some (.int (iI x)), some (.int (iI key)), some (.int (iI val))]) (by decide) (fun w hw => List.mem_cons_of_mem _ hw) rfl (Nat.le_of_ble_eq_true rfl) rfl ?_
  intro X C
  have F1 : ¬ ((0 ≤ x ∧ x < 5) ∧ 0 ≤ key ∧ key < 4) → X 19 [some (.ref o), some (.int (iI x)), some (.int (iI key)), some (.int (iI val))] [] (md_h G o ad iv g (md_c0 A)) 0 0 := by
    intro h
    obtain ⟨rfl, rfl⟩ := hr.2 1 (by decide) (by unfold md_putE; rw [if_pos h])
    refine qx_aload_n C d_D_put_19 rfl rfl ?_
    refine qx_iconst C d_D_put_20 (v := iI (1)) rfl ?_
    refine nx_call0 C (s_D_put_21 md_o) (m_fail l G b I g (md_c0 A) d) w_D_fail rfl rfl (Nat.le_of_ble_eq_true rfl) (by omega) (by decide) ?_
    refine qx_iret C d_D_put_24 (Nat.zero_le _) (Nat.zero_le _) ⟨_, rfl, ?_, rfl⟩
    rfl
  refine qx_aload_n C d_D_put_0 rfl rfl ?_
  refine qx_iconst C d_D_put_1 (v := iI (0)) rfl ?_
  refine mx_pi C I d_D_put_2 fp_D_92 (by decide) ?_
  refine qx_iload_n C d_D_put_5 rfl rfl ?_
  rw [show md_u A 0 0 0 = md_c0 A from rfl]
  refine nx_call0 C s_D_put_6 (m_isServer l G b (md_h G o ad iv g (md_c0 A)) hx d) w_D_isServer rfl rfl (Nat.le_of_ble_eq_true rfl) (by omega) (by decide) ?_
  by_cases h5 : 0 ≤ x ∧ x < 5
  · rw [if_pos h5]
    obtain ⟨hT, hn⟩ := ht h5.1 h5.2
    have hl := md_leads_01 (md_c0 A) x
    refine nx_if_eq C 19 d_D_put_9 (by decide) (by omega) (fun q1 => ?_) (fun q1 => ?_)
    · exact absurd q1 (by decide)
    · refine qx_iload_n C d_D_put_12 rfl rfl ?_
      refine nx_call0 C s_D_put_13 (m_isKey l G b (md_h G o ad iv g (md_c0 A)) hk d) w_D_isKey rfl rfl (Nat.le_of_ble_eq_true rfl) (by omega) (by decide) ?_
      by_cases h4 : 0 ≤ key ∧ key < 4
      · rw [if_pos h4]
        refine nx_if_ne C 25 d_D_put_16 (by decide) (by omega) (fun q2 => ?_) (fun q2 => ?_)
        · refine qx_aload_n C d_D_put_25 rfl rfl ?_
          refine qx_iload_n C d_D_put_26 rfl rfl ?_
          refine nx_call0 C (s_D_put_27 md_o) (m_leads l G b I g hv.1.1 h5 d) w_D_leads rfl rfl (Nat.le_of_ble_eq_true rfl) (by omega) (by decide) ?_
          refine nx_if_ne C 39 d_D_put_30 (by decide) (by omega) (fun q3 => ?_) (fun q3 => ?_)
          · refine qx_aload_n C d_D_put_39 rfl rfl ?_
            refine mx_gi C d_D_put_40 fl_D_32 rfl ?_
            refine qx_iload_n C d_D_put_43 rfl rfl ?_
            refine mx_ia C I 8 5 d_D_put_44 (by unfold md_a; omega) rfl rfl (by omega) (by omega) ?_
            refine qx_bipush C d_D_put_45 (v := iI (24)) (by decide) ?_
            refine nx_icmp_lt C 56 d_D_put_47 (by decide) (by omega) (by omega) (fun q4 => ?_) (fun q4 => ?_)
            · obtain ⟨rfl, rfl⟩ := hr.1 (by unfold md_putE; rw [if_neg (fun z => z ⟨h5, h4⟩), if_neg q3, if_neg (by omega)])
              refine qx_aload_n C d_D_put_56 rfl rfl ?_
              refine qx_iload_n C d_D_put_57 rfl rfl ?_
              refine qx_iconst C d_D_put_58 (v := iI (1)) rfl ?_
              refine qx_iload_n C d_D_put_59 rfl rfl ?_
              refine qx_iload_n C d_D_put_60 rfl rfl ?_
              refine nx_call0 C (s_D_put_61 md_o) (m_append l G b I g hT.1 (by omega) hv.1 (by rw [md_push_config hT.1, if_neg (by decide)]; exact hT.2.1) hT.cm hv.2 hn (by omega) hk hva d) w_D_append rfl rfl (Nat.le_of_ble_eq_true rfl) (by omega) (by decide) ?_
              refine qx_iret C d_D_put_64 (Nat.zero_le _) (Nat.zero_le _) ⟨_, rfl, ?_, rfl⟩
              rfl
            · obtain ⟨rfl, rfl⟩ := hr.2 3 (by decide) (by unfold md_putE; rw [if_neg (fun z => z ⟨h5, h4⟩), if_neg q3, if_pos (by omega)])
              refine qx_aload_n C d_D_put_50 rfl rfl ?_
              refine qx_iconst C d_D_put_51 (v := iI (3)) rfl ?_
              refine nx_call0 C (s_D_put_52 md_o) (m_fail l G b I g (md_c0 A) d) w_D_fail rfl rfl (Nat.le_of_ble_eq_true rfl) (by omega) (by decide) ?_
              refine qx_iret C d_D_put_55 (Nat.zero_le _) (Nat.zero_le _) ⟨_, rfl, ?_, rfl⟩
              rfl
          · obtain ⟨rfl, rfl⟩ := hr.2 2 (by decide) (by unfold md_putE; rw [if_neg (fun z => z ⟨h5, h4⟩), if_pos q3])
            refine qx_aload_n C d_D_put_33 rfl rfl ?_
            refine qx_iconst C d_D_put_34 (v := iI (2)) rfl ?_
            refine nx_call0 C (s_D_put_35 md_o) (m_fail l G b I g (md_c0 A) d) w_D_fail rfl rfl (Nat.le_of_ble_eq_true rfl) (by omega) (by decide) ?_
            refine qx_iret C d_D_put_38 (Nat.zero_le _) (Nat.zero_le _) ⟨_, rfl, ?_, rfl⟩
            rfl
        · exact absurd q2 (by decide)
      · rw [if_neg h4]
        refine nx_if_ne C 25 d_D_put_16 (by decide) (by omega) (fun q2 => ?_) (fun q2 => ?_)
        · exact absurd rfl q2
        · exact F1 (fun z => h4 z.2)
  · rw [if_neg h5]
    refine nx_if_eq C 19 d_D_put_9 (by decide) (by omega) (fun q1 => ?_) (fun q1 => ?_)
    · exact F1 (fun z => h5 z.1)
    · exact absurd rfl q1
/-- which exception a change ends in, 0: none; j: joins, 1 or 0 -/
def md_changeE (A : md_A) (x one1 j : Int) : Int := if ¬ ((0 ≤ x ∧ x < 5) ∧ 0 ≤ one1 ∧ one1 < 5) then 1 else if bit (md_config A x) one1 = j ∨ (j = 0 ∧ md_config A x = one one1) then 1 else if md_leads A x = 0 then 2 else if 24 ≤ A 8 x ∨ A 14 x < md_lm A x (A 8 x).toNat ∨ md_old A x = 1 then 3 else 0
set_option maxRecDepth 100000 in
set_option maxHeartbeats 1000000 in
theorem m_change (l : Launch) (G : qh_G) (b : Nat) {o : Nat} {ad : Nat → Nat} {iv : Nat → Option Nat} (I : md_I o ad iv) (g : qh_H) {A : md_A} {x on j : Int} (hx : rng x) (hon : rng on) (hj : j = 0 ∨ j = 1) (hv : md_V (md_c0 A)) (ht : 0 ≤ x → x < 5 → md_T (md_c0 A) x ∧ md_nx (md_c0 A) x) {r : Int} {A2 : md_A} (hr : (md_changeE (md_c0 A) x on j = 0 → r = md_last (md_c0 A) x + 1 ∧ A2 = md_append (md_c0 A) x 2 (ix (md_config (md_c0 A) x) (one on)) 0) ∧ (∀ c, c ≠ 0 → md_changeE (md_c0 A) x on j = c → r = 0 ∧ A2 = md_u (md_c0 A) 0 0 c)) (d : Nat) : qj l y_D_change c_D_change 6 (some .int) (d + 8) 0 0 G b [.ref o, .int (iI x), .int (iI on), .int (iI j)] (md_h G o ad iv g A) r (md_h G o ad iv g A2) := by
  refine qx_of (lo := [some (.ref o), some (.int (iI x)), some (.int (iI on)), some (.int (iI j)), none, none]) (by decide) (fun w hw => List.mem_cons_of_mem _ hw) rfl (Nat.le_of_ble_eq_true rfl) rfl ?_
  intro X C
  have F1 : ∀ l4 l5 : Option Value, ¬ ((0 ≤ x ∧ x < 5) ∧ 0 ≤ on ∧ on < 5) → X 19 [some (.ref o), some (.int (iI x)), some (.int (iI on)), some (.int (iI j)), l4, l5] [] (md_h G o ad iv g (md_c0 A)) 0 0 := by
    intro l4 l5 h
    obtain ⟨rfl, rfl⟩ := hr.2 1 (by decide) (by unfold md_changeE; rw [if_pos h])
    refine qx_aload_n C d_D_change_19 rfl rfl ?_
    refine qx_iconst C d_D_change_20 (v := iI (1)) rfl ?_
    refine nx_call0 C (s_D_change_21 md_o) (m_fail l G b I g (md_c0 A) d) w_D_fail rfl rfl (Nat.le_of_ble_eq_true rfl) (by omega) (by decide) ?_
    refine qx_iret C d_D_change_24 (Nat.zero_le _) (Nat.zero_le _) ⟨_, rfl, ?_, rfl⟩
    rfl
  refine qx_aload_n C d_D_change_0 rfl rfl ?_
  refine qx_iconst C d_D_change_1 (v := iI (0)) rfl ?_
  refine mx_pi C I d_D_change_2 fp_D_92 (by decide) ?_
  refine qx_iload_n C d_D_change_5 rfl rfl ?_
  rw [show md_u A 0 0 0 = md_c0 A from rfl]
  refine nx_call0 C s_D_change_6 (m_isServer l G b (md_h G o ad iv g (md_c0 A)) hx d) w_D_isServer rfl rfl (Nat.le_of_ble_eq_true rfl) (by omega) (by decide) ?_
  by_cases h5 : 0 ≤ x ∧ x < 5
  · rw [if_pos h5]
    obtain ⟨hT, hn⟩ := ht h5.1 h5.2
    have hl := md_leads_01 (md_c0 A) x
    have hol := md_old_01 (md_c0 A) x
    have h14 := hv.1.1 14 x
    have hz := md_sz hT.1
    have hla : md_last (md_c0 A) x = md_c0 A 4 x + md_c0 A 8 x := rfl
    refine nx_if_eq C 19 d_D_change_9 (by decide) (by omega) (fun q1 => ?_) (fun q1 => ?_)
    · exact absurd q1 (by decide)
    · refine qx_iload_n C d_D_change_12 rfl rfl ?_
      refine nx_call0 C s_D_change_13 (m_isServer l G b (md_h G o ad iv g (md_c0 A)) hon d) w_D_isServer rfl rfl (Nat.le_of_ble_eq_true rfl) (by omega) (by decide) ?_
      by_cases h4 : 0 ≤ on ∧ on < 5
      · rw [if_pos h4]
        have hv5 : ¬ ¬ ((0 ≤ x ∧ x < 5) ∧ 0 ≤ on ∧ on < 5) := fun z => z ⟨h5, h4⟩
        have hb := bit_01 (md_config (md_c0 A) x) on
        have h1 := set5_one h4.1 h4.2
        have hcf := hT.2.1
        refine nx_if_ne C 25 d_D_change_16 (by decide) (by omega) (fun q2 => ?_) (fun q2 => ?_)
        · have hmr : 0 ≤ md_lm (md_c0 A) x (md_c0 A 8 x).toNat ∧ md_lm (md_c0 A) x (md_c0 A 8 x).toNat ≤ 1000100 := by rcases md_lm_in (md_c0 A) x (md_c0 A 8 x).toNat with h | ⟨z, z1, z2⟩ <;> omega
          have F2 : ∀ l5 : Option Value, (bit (md_config (md_c0 A) x) on = j ∨ (j = 0 ∧ md_config (md_c0 A) x = one on)) → X 67 [some (.ref o), some (.int (iI x)), some (.int (iI on)), some (.int (iI j)), some (.int (iI (md_config (md_c0 A) x))), l5] [] (md_h G o ad iv g (md_c0 A)) 0 0 := by
            intro l5 h
            obtain ⟨rfl, rfl⟩ := hr.2 1 (by decide) (by unfold md_changeE; rw [if_neg hv5, if_pos h])
            refine qx_aload_n C d_D_change_67 rfl rfl ?_
            refine qx_iconst C d_D_change_68 (v := iI (1)) rfl ?_
            refine nx_call0 C (s_D_change_69 md_o) (m_fail l G b I g (md_c0 A) d) w_D_fail rfl rfl (Nat.le_of_ble_eq_true rfl) (by omega) (by decide) ?_
            refine qx_iret C d_D_change_72 (Nat.zero_le _) (Nat.zero_le _) ⟨_, rfl, ?_, rfl⟩
            rfl
          have F3 : ∀ l5 : Option Value, ¬ (bit (md_config (md_c0 A) x) on = j ∨ (j = 0 ∧ md_config (md_c0 A) x = one on)) → ¬ md_leads (md_c0 A) x = 0 → (24 ≤ md_c0 A 8 x ∨ md_c0 A 14 x < md_lm (md_c0 A) x (md_c0 A 8 x).toNat ∨ md_old (md_c0 A) x = 1) → X 125 [some (.ref o), some (.int (iI x)), some (.int (iI on)), some (.int (iI j)), some (.int (iI (md_config (md_c0 A) x))), l5] [] (md_h G o ad iv g (md_c0 A)) 0 0 := by
            intro l5 z1 z2 z3
            obtain ⟨rfl, rfl⟩ := hr.2 3 (by decide) (by unfold md_changeE; rw [if_neg hv5, if_neg z1, if_neg z2, if_pos z3])
            refine qx_aload_n C d_D_change_125 rfl rfl ?_
            refine qx_iconst C d_D_change_126 (v := iI (3)) rfl ?_
            refine nx_call0 C (s_D_change_127 md_o) (m_fail l G b I g (md_c0 A) d) w_D_fail rfl rfl (Nat.le_of_ble_eq_true rfl) (by omega) (by decide) ?_
            refine qx_iret C d_D_change_130 (Nat.zero_le _) (Nat.zero_le _) ⟨_, rfl, ?_, rfl⟩
            rfl
          have F4 : ∀ l5 : Option Value, ¬ (bit (md_config (md_c0 A) x) on = j ∨ (j = 0 ∧ md_config (md_c0 A) x = one on)) → X 73 [some (.ref o), some (.int (iI x)), some (.int (iI on)), some (.int (iI j)), some (.int (iI (md_config (md_c0 A) x))), l5] [] (md_h G o ad iv g (md_c0 A)) 0 0 := by
            intro l5 z1
            refine qx_aload_n C d_D_change_73 rfl rfl ?_
            refine qx_iload_n C d_D_change_74 rfl rfl ?_
            refine nx_call0 C (s_D_change_75 md_o) (m_leads l G b I g hv.1.1 h5 d) w_D_leads rfl rfl (Nat.le_of_ble_eq_true rfl) (by omega) (by decide) ?_
            refine nx_if_ne C 87 d_D_change_78 (by decide) (by omega) (fun q3 => ?_) (fun q3 => ?_)
            · refine qx_aload_n C d_D_change_87 rfl rfl ?_
              refine mx_gi C d_D_change_88 fl_D_32 rfl ?_
              refine qx_iload_n C d_D_change_91 rfl rfl ?_
              refine mx_ia C I 8 5 d_D_change_92 (by unfold md_a; omega) rfl rfl (by omega) (by omega) ?_
              refine qx_bipush C d_D_change_93 (v := iI (24)) (by decide) ?_
              refine nx_icmp_ge C 125 d_D_change_95 (by decide) (by omega) (by omega) (fun q4 => ?_) (fun q4 => ?_)
              · exact F3 _ z1 q3 (Or.inl q4)
              · refine qx_aload_n C d_D_change_98 rfl rfl ?_
                refine qx_iload_n C d_D_change_99 rfl rfl ?_
                refine qx_aload_n C d_D_change_100 rfl rfl ?_
                refine qx_iload_n C d_D_change_101 rfl rfl ?_
                refine nx_call0 C (s_D_change_102 md_o) (m_last l G b I g hT.1 d) w_D_last rfl rfl (Nat.le_of_ble_eq_true rfl) (by omega) (by decide) ?_
                refine nx_call0 C (s_D_change_105 md_o) (m_latestMembers l G b I g hv.1.1 hT.1 (t := (md_c0 A 8 x).toNat) (by omega) (by omega) d) w_D_latestMembers rfl rfl (Nat.le_of_ble_eq_true rfl) (by omega) (by decide) ?_
                refine qx_aload_n C d_D_change_108 rfl rfl ?_
                refine mx_gi C d_D_change_109 fl_D_50 rfl ?_
                refine qx_iload_n C d_D_change_112 rfl rfl ?_
                refine mx_ia C I 14 5 d_D_change_113 (by unfold md_a; omega) rfl rfl (by omega) (by omega) ?_
                refine nx_icmp_gt C 125 d_D_change_114 (by decide) (by omega) (by omega) (fun q5 => ?_) (fun q5 => ?_)
                · exact F3 _ z1 q3 (Or.inr (Or.inl q5))
                · refine qx_aload_n C d_D_change_117 rfl rfl ?_
                  refine qx_iload_n C d_D_change_118 rfl rfl ?_
                  refine nx_call0 C (s_D_change_119 md_o) (m_isOld l G b I g hv.1.1 hT.1 d) w_D_isOld rfl rfl (Nat.le_of_ble_eq_true rfl) (by omega) (by decide) ?_
                  refine nx_if_eq C 131 d_D_change_122 (by decide) (by omega) (fun q6 => ?_) (fun q6 => ?_)
                  · obtain ⟨rfl, rfl⟩ := hr.1 (by unfold md_changeE; rw [if_neg hv5, if_neg z1, if_neg q3, if_neg (by omega)])
                    have hxo := set5_xor hT.2.1 h1
                    refine qx_aload_n C d_D_change_131 rfl rfl ?_
                    refine qx_iload_n C d_D_change_132 rfl rfl ?_
                    refine qx_iconst C d_D_change_133 (v := iI (2)) rfl ?_
                    refine qx_iload C d_D_change_134 rfl ?_
                    refine qx_iconst C d_D_change_136 (v := iI (1)) rfl ?_
                    refine qx_iload_n C d_D_change_137 rfl rfl ?_
                    refine nx_ishl1 C d_D_change_138 (by omega) ?_
                    refine nx_ixor C d_D_change_139 (by omega) (by omega) ?_
                    refine qx_iconst C d_D_change_140 (v := iI (0)) rfl ?_
                    refine nx_call0 C (s_D_change_141 md_o) (m_append l G b I g hT.1 (by omega) hv.1 (by rw [md_push_config hT.1, if_pos rfl]; exact hxo) hT.cm hv.2 hn (by omega) (by omega) (by omega) d) w_D_append rfl rfl (Nat.le_of_ble_eq_true rfl) (by omega) (by decide) ?_
                    refine qx_iret C d_D_change_144 (Nat.zero_le _) (Nat.zero_le _) ⟨_, rfl, ?_, rfl⟩
                    rfl
                  · exact F3 _ z1 q3 (Or.inr (Or.inr (by omega)))
            · obtain ⟨rfl, rfl⟩ := hr.2 2 (by decide) (by unfold md_changeE; rw [if_neg hv5, if_neg z1, if_pos q3])
              refine qx_aload_n C d_D_change_81 rfl rfl ?_
              refine qx_iconst C d_D_change_82 (v := iI (2)) rfl ?_
              refine nx_call0 C (s_D_change_83 md_o) (m_fail l G b I g (md_c0 A) d) w_D_fail rfl rfl (Nat.le_of_ble_eq_true rfl) (by omega) (by decide) ?_
              refine qx_iret C d_D_change_86 (Nat.zero_le _) (Nat.zero_le _) ⟨_, rfl, ?_, rfl⟩
              rfl
          have F5 : ∀ q : Int, (q = 0 ∨ q = 1) → q = bit (md_config (md_c0 A) x) on → X 47 [some (.ref o), some (.int (iI x)), some (.int (iI on)), some (.int (iI j)), some (.int (iI (md_config (md_c0 A) x))), none] [.int (iI q)] (md_h G o ad iv g (md_c0 A)) 0 0 := by
            intro q hq e
            refine nx_istore C d_D_change_47 (Nat.le_of_ble_eq_true rfl) (lo' := [_, _, _, _, _, some (.int _)]) rfl ?_
            refine qx_iload C d_D_change_49 rfl ?_
            refine qx_iload_n C d_D_change_51 rfl rfl ?_
            refine nx_icmp_eq C 67 d_D_change_52 (by decide) (by omega) (by omega) (fun q3 => ?_) (fun q3 => ?_)
            · exact F2 _ (Or.inl (by omega))
            · refine qx_iload_n C d_D_change_55 rfl rfl ?_
              refine nx_if_ne C 73 d_D_change_56 (by decide) (by omega) (fun q4 => ?_) (fun q4 => ?_)
              · exact F4 _ (by omega)
              · refine qx_iload C d_D_change_59 rfl ?_
                refine qx_iconst C d_D_change_61 (v := iI (1)) rfl ?_
                refine qx_iload_n C d_D_change_62 rfl rfl ?_
                refine nx_ishl1 C d_D_change_63 (by omega) ?_
                refine nx_icmp_ne C 73 d_D_change_64 (by decide) (by omega) (by omega) (fun q5 => ?_) (fun q5 => ?_)
                · exact F4 _ (by omega)
                · exact F2 _ (Or.inr ⟨q4, q5⟩)
          refine qx_aload_n C d_D_change_25 rfl rfl ?_
          refine qx_iload_n C d_D_change_26 rfl rfl ?_
          refine nx_call0 C (s_D_change_27 md_o) (m_config l G b I g hv.1.1 hT.1 d) w_D_config rfl rfl (Nat.le_of_ble_eq_true rfl) (by omega) (by decide) ?_
          refine nx_istore C d_D_change_30 (Nat.le_of_ble_eq_true rfl) (lo' := [_, _, _, _, some (.int _), _]) rfl ?_
          refine qx_iload C d_D_change_32 rfl ?_
          refine qx_iload_n C d_D_change_34 rfl rfl ?_
          refine nx_bit C d_D_change_35 d_D_change_36 d_D_change_37 (by omega) (by omega) ?_
          refine qx_iconst C d_D_change_38 (v := iI (1)) rfl ?_
          refine nx_icmp_ne C 46 d_D_change_39 (by decide) (by omega) (by omega) (fun q3 => ?_) (fun q3 => ?_)
          · refine qx_iconst C d_D_change_46 (v := iI (0)) rfl ?_
            exact F5 0 (Or.inl rfl) (by omega)
          · refine qx_iconst C d_D_change_42 (v := iI (1)) rfl ?_
            refine qx_goto C d_D_change_43 (tgt := 47) (by decide) ?_
            exact F5 1 (Or.inr rfl) (by omega)
        · exact absurd q2 (by decide)
      · rw [if_neg h4]
        refine nx_if_ne C 25 d_D_change_16 (by decide) (by omega) (fun q2 => ?_) (fun q2 => ?_)
        · exact absurd rfl q2
        · exact F1 _ _ (fun z => h4 z.2)
  · rw [if_neg h5]
    refine nx_if_eq C 19 d_D_change_9 (by decide) (by omega) (fun q1 => ?_) (fun q1 => ?_)
    · exact F1 _ _ (fun z => h5 z.1)
    · exact absurd rfl q1
/-- how many of the first n reads are kept by s -/
def md_kept (A : md_A) (s : Int) : Nat → Int
  | 0 => 0
  | n + 1 => md_kept A s n + if A 22 n = s ∧ A 25 n = 0 then 1 else 0
theorem md_kept_s (A : md_A) (s : Int) (n : Nat) : md_kept A s (n + 1) = md_kept A s n + if A 22 n = s ∧ A 25 n = 0 then 1 else 0 := rfl
theorem md_kept_r (A : md_A) (s : Int) : ∀ n : Nat, 0 ≤ md_kept A s n ∧ md_kept A s n ≤ n
  | 0 => ⟨Int.le_refl _, Int.le_refl _⟩
  | n + 1 => by
    have := md_kept_r A s n
    rw [md_kept_s]
    split <;> omega
def md_readE (A : md_A) (x key : Int) : Int := if ¬ ((0 ≤ x ∧ x < 5) ∧ 0 ≤ key ∧ key < 4) then 1 else if md_leads A x = 0 then 2 else if md_kept A x (A 21 0).toNat = 4 ∨ A 21 0 = 60 ∨ md_old A x = 1 then 3 else 0
def md_keep (A : md_A) (x key : Int) : md_A := md_u (md_u (md_u (md_u (md_u A 20 x (A 20 x + 1)) 22 (A 21 0) x) 23 (A 21 0) key) 24 (A 21 0) (A 20 x + 1)) 21 0 (A 21 0 + 1)
def md_read (A : md_A) (x key : Int) : md_A := md_reads (md_all (md_keep A x key) x 5) x
theorem md_keep_k {A : md_A} {x key i : Int} {k : Nat} (h : k ≠ 20 ∧ k ≠ 21 ∧ k ≠ 22 ∧ k ≠ 23 ∧ k ≠ 24) : md_keep A x key k i = A k i := by
  unfold md_keep
  rw [md_uk h.2.1, md_uk h.2.2.2.2, md_uk h.2.2.2.1, md_uk h.2.2.1, md_uk h.1]
theorem md_keep_lg (A : md_A) (x key : Int) : md_lg A (md_keep A x key) := fun k h1 h2 => by
  funext z
  exact md_keep_k (by omega)
theorem md_keep_ww {A : md_A} {x key : Int} (h : md_ww A) (h1 : rng x) (h2 : rng key) (h3 : rng (A 20 x + 1)) (h4 : 0 ≤ A 21 0 ∧ A 21 0 ≤ 60) : md_ww (md_keep A x key) := ((((h.u (by decide) h3).u (by decide) h1).u (by decide) h2).u (by decide) h3).u (by decide) (by omega)
theorem md_keep_23 {A : md_A} {x key : Int} (h4 : 0 ≤ key ∧ key < 4) (hkk : ∀ i : Int, 0 ≤ i → i < A 21 0 → 0 ≤ A 23 i ∧ A 23 i < 4) (i : Int) (h0 : 0 ≤ i) (h1 : i < A 21 0 + 1) : 0 ≤ md_keep A x key 23 i ∧ md_keep A x key 23 i < 4 := by
  unfold md_keep
  rw [md_uk (by decide), md_uk (by decide)]
  by_cases hi : i = A 21 0
  · rw [hi, md_us]
    exact h4
  · rw [md_ui hi, md_uk (by decide), md_uk (by decide)]
    exact hkk i h0 (by omega)
set_option maxRecDepth 100000 in
set_option maxHeartbeats 1000000 in
theorem m_read (l : Launch) (G : qh_G) (b : Nat) {o : Nat} {ad : Nat → Nat} {iv : Nat → Option Nat} (I : md_I o ad iv) (g : qh_H) {A : md_A} {x key : Int} (hx : rng x) (hk : rng key) (hv : md_V (md_c0 A)) (ht : 0 ≤ x → x < 5 → md_T (md_c0 A) x ∧ md_nx (md_c0 A) x ∧ rng (md_c0 A 20 x + 1)) (hkk : ∀ i : Int, 0 ≤ i → i < md_c0 A 21 0 → 0 ≤ md_c0 A 23 i ∧ md_c0 A 23 i < 4) {r : Int} {A2 : md_A} (hr : (md_readE (md_c0 A) x key = 0 → r = md_c0 A 21 0 ∧ A2 = md_read (md_c0 A) x key) ∧ (∀ c, c ≠ 0 → md_readE (md_c0 A) x key = c → r = 0 ∧ A2 = md_u (md_c0 A) 0 0 c)) (d : Nat) : qj l y_D_read c_D_read 5 (some .int) (d + 7) 0 0 G b [.ref o, .int (iI x), .int (iI key)] (md_h G o ad iv g A) r (md_h G o ad iv g A2) := by
  refine qx_of (lo := [some (.ref o), some (.int (iI x)), some (.int (iI key)), none, none]) (by decide) (fun w hw => List.mem_cons_of_mem _ hw) rfl (Nat.le_of_ble_eq_true rfl) rfl ?_
  intro X C
  have F1 : ¬ ((0 ≤ x ∧ x < 5) ∧ 0 ≤ key ∧ key < 4) → X 19 [some (.ref o), some (.int (iI x)), some (.int (iI key)), none, none] [] (md_h G o ad iv g (md_c0 A)) 0 0 := by
    intro h
    obtain ⟨rfl, rfl⟩ := hr.2 1 (by decide) (by unfold md_readE; rw [if_pos h])
    refine qx_aload_n C d_D_read_19 rfl rfl ?_
    refine qx_iconst C d_D_read_20 (v := iI (1)) rfl ?_
    refine nx_call0 C (s_D_read_21 md_o) (m_fail l G b I g (md_c0 A) d) w_D_fail rfl rfl (Nat.le_of_ble_eq_true rfl) (by omega) (by decide) ?_
    refine qx_iret C d_D_read_24 (Nat.zero_le _) (Nat.zero_le _) ⟨_, rfl, ?_, rfl⟩
    rfl
  refine qx_aload_n C d_D_read_0 rfl rfl ?_
  refine qx_iconst C d_D_read_1 (v := iI (0)) rfl ?_
  refine mx_pi C I d_D_read_2 fp_D_92 (by decide) ?_
  refine qx_iload_n C d_D_read_5 rfl rfl ?_
  rw [show md_u A 0 0 0 = md_c0 A from rfl]
  refine nx_call0 C s_D_read_6 (m_isServer l G b (md_h G o ad iv g (md_c0 A)) hx d) w_D_isServer rfl rfl (Nat.le_of_ble_eq_true rfl) (by omega) (by decide) ?_
  by_cases h5 : 0 ≤ x ∧ x < 5
  · rw [if_pos h5]
    obtain ⟨hT, hn, h20⟩ := ht h5.1 h5.2
    have hl := md_leads_01 (md_c0 A) x
    have hol := md_old_01 (md_c0 A) x
    refine nx_if_eq C 19 d_D_read_9 (by decide) (by omega) (fun q1 => ?_) (fun q1 => ?_)
    · exact absurd q1 (by decide)
    · refine qx_iload_n C d_D_read_12 rfl rfl ?_
      refine nx_call0 C s_D_read_13 (m_isKey l G b (md_h G o ad iv g (md_c0 A)) hk d) w_D_isKey rfl rfl (Nat.le_of_ble_eq_true rfl) (by omega) (by decide) ?_
      by_cases h4 : 0 ≤ key ∧ key < 4
      · rw [if_pos h4]
        have hv5 : ¬ ¬ ((0 ≤ x ∧ x < 5) ∧ 0 ≤ key ∧ key < 4) := fun z => z ⟨h5, h4⟩
        refine nx_if_ne C 25 d_D_read_16 (by decide) (by omega) (fun q2 => ?_) (fun q2 => ?_)
        · refine qx_aload_n C d_D_read_25 rfl rfl ?_
          refine qx_iload_n C d_D_read_26 rfl rfl ?_
          refine nx_call0 C (s_D_read_27 md_o) (m_leads l G b I g hv.1.1 h5 d) w_D_leads rfl rfl (Nat.le_of_ble_eq_true rfl) (by omega) (by decide) ?_
          refine nx_if_ne C 39 d_D_read_30 (by decide) (by omega) (fun q3 => ?_) (fun q3 => ?_)
          · have F3 : ∀ l3 l4 : Option Value, (md_kept (md_c0 A) x (md_c0 A 21 0).toNat = 4 ∨ md_c0 A 21 0 = 60 ∨ md_old (md_c0 A) x = 1) → X 110 [some (.ref o), some (.int (iI x)), some (.int (iI key)), l3, l4] [] (md_h G o ad iv g (md_c0 A)) 0 0 := by
              intro l3 l4 z
              obtain ⟨rfl, rfl⟩ := hr.2 3 (by decide) (by unfold md_readE; rw [if_neg hv5, if_neg q3, if_pos z])
              refine qx_aload_n C d_D_read_110 rfl rfl ?_
              refine qx_iconst C d_D_read_111 (v := iI (3)) rfl ?_
              refine nx_call0 C (s_D_read_112 md_o) (m_fail l G b I g (md_c0 A) d) w_D_fail rfl rfl (Nat.le_of_ble_eq_true rfl) (by omega) (by decide) ?_
              refine qx_iret C d_D_read_115 (Nat.zero_le _) (Nat.zero_le _) ⟨_, rfl, ?_, rfl⟩
              rfl
            have L : ∀ (r0 j : Nat) (f q : Int), j + r0 = (md_c0 A 21 0).toNat → f = md_kept (md_c0 A) x j → q = j → X 44 [some (.ref o), some (.int (iI x)), some (.int (iI key)), some (.int (iI f)), some (.int (iI q))] [] (md_h G o ad iv g (md_c0 A)) 0 0 := by
              intro r0
              induction r0 with
              | zero =>
                intro j f q hj hf hq
                have hf5 : f = md_kept (md_c0 A) x (md_c0 A 21 0).toNat := by rw [hf, show j = (md_c0 A 21 0).toNat by omega]
                have hkr := md_kept_r (md_c0 A) x j
                rw [← hf] at hkr
                refine qx_iload C d_D_read_44 rfl ?_
                refine qx_aload_n C d_D_read_46 rfl rfl ?_
                refine mx_gi C d_D_read_47 fl_D_136 rfl ?_
                refine nx_icmp_ge C 88 d_D_read_50 (by decide) (by omega) (by omega) (fun z1 => ?_) (fun z1 => ?_)
                · refine qx_iload_n C d_D_read_88 rfl rfl ?_
                  refine qx_iconst C d_D_read_89 (v := iI (4)) rfl ?_
                  refine nx_icmp_eq C 110 d_D_read_90 (by decide) (by omega) (by omega) (fun z2 => ?_) (fun z2 => ?_)
                  · exact F3 _ _ (Or.inl (by omega))
                  · refine qx_aload_n C d_D_read_93 rfl rfl ?_
                    refine mx_gi C d_D_read_94 fl_D_136 rfl ?_
                    refine qx_bipush C d_D_read_97 (v := iI (60)) (by decide) ?_
                    refine nx_icmp_eq C 110 d_D_read_99 (by decide) (by omega) (by omega) (fun z3 => ?_) (fun z3 => ?_)
                    · exact F3 _ _ (Or.inr (Or.inl z3))
                    · refine qx_aload_n C d_D_read_102 rfl rfl ?_
                      refine qx_iload_n C d_D_read_103 rfl rfl ?_
                      refine nx_call0 C (s_D_read_104 md_o) (m_isOld l G b I g hv.1.1 hT.1 d) w_D_isOld rfl rfl (Nat.le_of_ble_eq_true rfl) (by omega) (by decide) ?_
                      refine nx_if_eq C 116 d_D_read_107 (by decide) (by omega) (fun z4 => ?_) (fun z4 => ?_)
                      · obtain ⟨rfl, rfl⟩ := hr.1 (by unfold md_readE; rw [if_neg hv5, if_neg q3, if_neg (by omega)])
                        have lg := md_keep_lg (md_c0 A) x key
                        have ww := md_keep_ww (key := key) hv.1 hx hk h20 hv.2
                        have e21 : md_keep (md_c0 A) x key 21 0 = md_c0 A 21 0 + 1 := md_us
                        have e14 : md_keep (md_c0 A) x key 14 x = md_c0 A 14 x := md_keep_k (by decide)
                        refine qx_aload_n C d_D_read_116 rfl rfl ?_
                        refine mx_gi C d_D_read_117 fl_D_68 rfl ?_
                        refine qx_iload_n C d_D_read_120 rfl rfl ?_
                        refine qx_dup2 C d_D_read_121 rfl rfl ?_
                        refine mx_ia C I 20 5 d_D_read_122 (by unfold md_a; omega) rfl rfl (by omega) (by omega) ?_
                        refine qx_iconst C d_D_read_123 (v := iI (1)) rfl ?_
                        refine nx_iadd C d_D_read_124 ?_
                        refine mx_is C I 20 5 d_D_read_125 (by unfold md_a; omega) rfl rfl (by omega) (by omega) ?_
                        refine qx_aload_n C d_D_read_126 rfl rfl ?_
                        refine mx_gi C d_D_read_127 fl_D_136 rfl ?_
                        refine nx_istore C d_D_read_130 (Nat.le_of_ble_eq_true rfl) (lo' := [_, _, _, _, some (.int _)]) rfl ?_
                        rw [md_uk (k := 20) (j := 21) (by decide)]
                        refine qx_aload_n C d_D_read_132 rfl rfl ?_
                        refine mx_gi C d_D_read_133 fl_D_71 rfl ?_
                        refine qx_iload C d_D_read_136 rfl ?_
                        refine qx_iload_n C d_D_read_138 rfl rfl ?_
                        refine mx_is C I 22 60 d_D_read_139 (by unfold md_a; omega) rfl rfl (by omega) (by omega) ?_
                        refine qx_aload_n C d_D_read_140 rfl rfl ?_
                        refine mx_gi C d_D_read_141 fl_D_74 rfl ?_
                        refine qx_iload C d_D_read_144 rfl ?_
                        refine qx_iload_n C d_D_read_146 rfl rfl ?_
                        refine mx_is C I 23 60 d_D_read_147 (by unfold md_a; omega) rfl rfl (by omega) (by omega) ?_
                        refine qx_aload_n C d_D_read_148 rfl rfl ?_
                        refine mx_gi C d_D_read_149 fl_D_77 rfl ?_
                        refine qx_iload C d_D_read_152 rfl ?_
                        refine qx_aload_n C d_D_read_154 rfl rfl ?_
                        refine mx_gi C d_D_read_155 fl_D_68 rfl ?_
                        refine qx_iload_n C d_D_read_158 rfl rfl ?_
                        refine mx_ia C I 20 5 d_D_read_159 (by unfold md_a; omega) rfl rfl (by omega) (by omega) ?_
                        rw [md_uk (k := 23) (j := 20) (by decide), md_uk (k := 22) (j := 20) (by decide), md_us]
                        refine mx_is C I 24 60 d_D_read_160 (by unfold md_a; omega) rfl rfl (by omega) (by omega) ?_
                        refine qx_aload_n C d_D_read_161 rfl rfl ?_
                        refine qx_dup C d_D_read_162 rfl ?_
                        refine mx_gi C d_D_read_163 fl_D_136 rfl ?_
                        refine qx_iconst C d_D_read_166 (v := iI (1)) rfl ?_
                        refine nx_iadd C d_D_read_167 ?_
                        rw [md_uk (k := 24) (j := 21) (by decide), md_uk (k := 23) (j := 21) (by decide), md_uk (k := 22) (j := 21) (by decide), md_uk (k := 20) (j := 21) (by decide)]
                        refine mx_pi C I d_D_read_168 fp_D_136 (by decide) ?_
                        refine qx_aload_n C d_D_read_171 rfl rfl ?_
                        refine qx_iload_n C d_D_read_172 rfl rfl ?_
                        rw [show md_u (md_u (md_u (md_u (md_u (md_c0 A) 20 x (md_c0 A 20 x + 1)) 22 (md_c0 A 21 0) x) 23 (md_c0 A 21 0) key) 24 (md_c0 A 21 0) (md_c0 A 20 x + 1)) 21 0 (md_c0 A 21 0 + 1) = md_keep (md_c0 A) x key from rfl]
                        refine nx_callv C (s_D_read_173 md_o) (m_sendAll l G b I g (lg.B hT.1) ww (by rw [lg.config]; exact hT.2.1) (fun i => by rw [md_keep_k (by decide)]; exact hn i) d) w_D_sendAll rfl rfl (Nat.le_of_ble_eq_true rfl) (by omega) (by decide) ?_
                        have lg2 : md_lg (md_c0 A) (md_all (md_keep (md_c0 A) x key) x 5) := fun k q1 q2 => by
                          funext z
                          rw [md_all_k (by omega), md_keep_k (by omega)]
                        have ww2 := md_all_ww (s := x) ww h5 (fun i => by rw [md_keep_k (by decide)]; exact hn i) 5 (by omega)
                        refine qx_aload_n C d_D_read_176 rfl rfl ?_
                        refine qx_iload_n C d_D_read_177 rfl rfl ?_
                        refine nx_callv C (s_D_read_178 md_o) (m_lookAtReads l G b I g (lg2.B hT.1) ww2 (by rw [lg2.config]; exact hT.2.1) (by rw [lg2.last, lg2 4 (by decide) (by decide), md_all_k (by decide), e14]; exact hT.2.2.1) (by rw [md_all_k (by decide), e21]; omega) (fun i z5 z6 => by rw [md_all_k (by decide), e21] at z6; rw [md_all_k (by decide)]; exact md_keep_23 h4 hkk i z5 z6) d) w_D_lookAtReads rfl rfl (Nat.le_of_ble_eq_true rfl) (by omega) (by decide) ?_
                        refine qx_iload C d_D_read_181 rfl ?_
                        refine qx_iret C d_D_read_183 (Nat.zero_le _) (Nat.zero_le _) ⟨_, rfl, ?_, rfl⟩
                        rfl
                      · exact F3 _ _ (Or.inr (Or.inr (by omega)))
                · exact absurd z1 (by omega)
              | succ r0 ih =>
                intro j f q hj hf hq
                have h22 := hv.1.1 22 q
                have h25 := hv.1.1 25 q
                refine qx_iload C d_D_read_44 rfl ?_
                refine qx_aload_n C d_D_read_46 rfl rfl ?_
                refine mx_gi C d_D_read_47 fl_D_136 rfl ?_
                refine nx_icmp_ge C 88 d_D_read_50 (by decide) (by omega) (by omega) (fun z1 => ?_) (fun z1 => ?_)
                · exact absurd z1 (by omega)
                · refine qx_iload_n C d_D_read_53 rfl rfl ?_
                  refine qx_aload_n C d_D_read_54 rfl rfl ?_
                  refine mx_gi C d_D_read_55 fl_D_71 rfl ?_
                  refine qx_iload C d_D_read_58 rfl ?_
                  refine mx_ia C I 22 60 d_D_read_60 (by unfold md_a; omega) rfl rfl (by omega) (by omega) ?_
                  refine qx_iload_n C d_D_read_61 rfl rfl ?_
                  refine nx_icmp_ne C 79 d_D_read_62 (by decide) (by omega) (by omega) (fun z2 => ?_) (fun z2 => ?_)
                  · refine qx_iconst C d_D_read_79 (v := iI (0)) rfl ?_
                    refine nx_iadd C d_D_read_80 ?_
                    refine nx_istore_n C d_D_read_81 rfl (Nat.le_of_ble_eq_true rfl) (lo' := [_, _, _, some (.int _), _]) rfl ?_
                    refine nx_iinc C d_D_read_82 rfl (lo' := [_, _, _, _, some (.int _)]) rfl ?_
                    refine qx_goto C d_D_read_85 (tgt := 44) (by decide) ?_
                    exact ih (j + 1) _ _ (by omega) (by rw [md_kept_s, ← hq, if_neg (fun z => z2 z.1), ← hf]) (by omega)
                  · refine qx_aload_n C d_D_read_65 rfl rfl ?_
                    refine mx_gi C d_D_read_66 fl_D_80 rfl ?_
                    refine qx_iload C d_D_read_69 rfl ?_
                    refine mx_ia C I 25 60 d_D_read_71 (by unfold md_a; omega) rfl rfl (by omega) (by omega) ?_
                    refine nx_if_ne C 79 d_D_read_72 (by decide) (by omega) (fun z3 => ?_) (fun z3 => ?_)
                    · refine qx_iconst C d_D_read_79 (v := iI (0)) rfl ?_
                      refine nx_iadd C d_D_read_80 ?_
                      refine nx_istore_n C d_D_read_81 rfl (Nat.le_of_ble_eq_true rfl) (lo' := [_, _, _, some (.int _), _]) rfl ?_
                      refine nx_iinc C d_D_read_82 rfl (lo' := [_, _, _, _, some (.int _)]) rfl ?_
                      refine qx_goto C d_D_read_85 (tgt := 44) (by decide) ?_
                      exact ih (j + 1) _ _ (by omega) (by rw [md_kept_s, ← hq, if_neg (fun z => z3 z.2), ← hf]) (by omega)
                    · refine qx_iconst C d_D_read_75 (v := iI (1)) rfl ?_
                      refine qx_goto C d_D_read_76 (tgt := 80) (by decide) ?_
                      refine nx_iadd C d_D_read_80 ?_
                      refine nx_istore_n C d_D_read_81 rfl (Nat.le_of_ble_eq_true rfl) (lo' := [_, _, _, some (.int _), _]) rfl ?_
                      refine nx_iinc C d_D_read_82 rfl (lo' := [_, _, _, _, some (.int _)]) rfl ?_
                      refine qx_goto C d_D_read_85 (tgt := 44) (by decide) ?_
                      exact ih (j + 1) _ _ (by omega) (by rw [md_kept_s, ← hq, if_pos ⟨z2, z3⟩, ← hf]) (by omega)
            refine qx_iconst C d_D_read_39 (v := iI (0)) rfl ?_
            refine nx_istore_n C d_D_read_40 rfl (Nat.le_of_ble_eq_true rfl) (lo' := [_, _, _, some (.int _), _]) rfl ?_
            refine qx_iconst C d_D_read_41 (v := iI (0)) rfl ?_
            refine nx_istore C d_D_read_42 (Nat.le_of_ble_eq_true rfl) (lo' := [_, _, _, _, some (.int _)]) rfl ?_
            exact L (md_c0 A 21 0).toNat 0 _ _ (by omega) rfl (by omega)
          · obtain ⟨rfl, rfl⟩ := hr.2 2 (by decide) (by unfold md_readE; rw [if_neg hv5, if_pos q3])
            refine qx_aload_n C d_D_read_33 rfl rfl ?_
            refine qx_iconst C d_D_read_34 (v := iI (2)) rfl ?_
            refine nx_call0 C (s_D_read_35 md_o) (m_fail l G b I g (md_c0 A) d) w_D_fail rfl rfl (Nat.le_of_ble_eq_true rfl) (by omega) (by decide) ?_
            refine qx_iret C d_D_read_38 (Nat.zero_le _) (Nat.zero_le _) ⟨_, rfl, ?_, rfl⟩
            rfl
        · exact absurd q2 (by decide)
      · rw [if_neg h4]
        refine nx_if_ne C 25 d_D_read_16 (by decide) (by omega) (fun q2 => ?_) (fun q2 => ?_)
        · exact absurd rfl q2
        · exact F1 (fun z => h4 z.2)
  · rw [if_neg h5]
    refine nx_if_eq C 19 d_D_read_9 (by decide) (by omega) (fun q1 => ?_) (fun q1 => ?_)
    · exact F1 (fun z => h5 z.1)
    · exact absurd rfl q1
