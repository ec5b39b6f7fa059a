/-! the reference: its calls, on -/
set_option maxRecDepth 100000 in
theorem m_outcome (l : Launch) (G : qh_G) (b : Nat) {o : Nat} {ad : Nat → Nat} {iv : Nat → Option Nat} (I : md_I o ad iv) (g : qh_H) {A : md_A} {x : Int} (hx : rng x) (hr : 0 ≤ md_c0 A 21 0 ∧ md_c0 A 21 0 ≤ 60) (d : Nat) : qj l y_D_outcome c_D_outcome 2 (some .int) d 0 0 G b [.ref o, .int (iI x)] (md_h G o ad iv g A) (if 0 ≤ x ∧ x < md_c0 A 21 0 then md_c0 A 25 x else -1) (md_h G o ad iv g (md_c0 A)) := by
  refine qx_of (lo := [some (.ref o), some (.int (iI x))]) (by decide) (fun w hw => List.mem_cons_of_mem _ hw) rfl (Nat.le_of_ble_eq_true rfl) rfl ?_
  intro X C
  refine qx_aload_n C d_D_outcome_0 rfl rfl ?_
  refine qx_iconst C d_D_outcome_1 (v := iI (0)) rfl ?_
  refine mx_pi C I d_D_outcome_2 fp_D_92 (by decide) ?_
  refine qx_iload_n C d_D_outcome_5 rfl rfl ?_
  rw [show md_u A 0 0 0 = md_c0 A from rfl]
  refine nx_if_lt C 26 d_D_outcome_6 (by decide) (by omega) (fun hc => ?_) (fun hc => ?_)
  · refine qx_iconst C d_D_outcome_26 (v := iI (-1)) rfl ?_
    refine qx_iret C d_D_outcome_27 (Nat.zero_le _) (Nat.zero_le _) ⟨_, rfl, ?_, rfl⟩
    rw [if_neg (by omega)]
  · refine qx_iload_n C d_D_outcome_9 rfl rfl ?_
    refine qx_aload_n C d_D_outcome_10 rfl rfl ?_
    refine mx_gi C d_D_outcome_11 fl_D_136 rfl ?_
    refine nx_icmp_ge C 26 d_D_outcome_14 (by decide) (by omega) (by omega) (fun h1 => ?_) (fun h1 => ?_)
    · refine qx_iconst C d_D_outcome_26 (v := iI (-1)) rfl ?_
      refine qx_iret C d_D_outcome_27 (Nat.zero_le _) (Nat.zero_le _) ⟨_, rfl, ?_, rfl⟩
      rw [if_neg (by omega)]
    · refine qx_aload_n C d_D_outcome_17 rfl rfl ?_
      refine mx_gi C d_D_outcome_18 fl_D_80 rfl ?_
      refine qx_iload_n C d_D_outcome_21 rfl rfl ?_
      refine mx_ia C I 25 60 d_D_outcome_22 (by unfold md_a; omega) rfl rfl (by omega) (by omega) ?_
      refine qx_goto C d_D_outcome_23 (tgt := 27) (by decide) ?_
      refine qx_iret C d_D_outcome_27 (Nat.zero_le _) (Nat.zero_le _) ⟨_, rfl, ?_, rfl⟩
      rw [if_pos (by omega)]
set_option maxRecDepth 100000 in
theorem m_value (l : Launch) (G : qh_G) (b : Nat) {o : Nat} {ad : Nat → Nat} {iv : Nat → Option Nat} (I : md_I o ad iv) (g : qh_H) {A : md_A} {x : Int} (hx : rng x) (hr : 0 ≤ md_c0 A 21 0 ∧ md_c0 A 21 0 ≤ 60) (d : Nat) : qj l y_D_value c_D_value 2 (some .int) d 0 0 G b [.ref o, .int (iI x)] (md_h G o ad iv g A) (if 0 ≤ x ∧ x < md_c0 A 21 0 then md_c0 A 26 x else 0) (md_h G o ad iv g (md_c0 A)) := by
  refine qx_of (lo := [some (.ref o), some (.int (iI x))]) (by decide) (fun w hw => List.mem_cons_of_mem _ hw) rfl (Nat.le_of_ble_eq_true rfl) rfl ?_
  intro X C
  refine qx_aload_n C d_D_value_0 rfl rfl ?_
  refine qx_iconst C d_D_value_1 (v := iI (0)) rfl ?_
  refine mx_pi C I d_D_value_2 fp_D_92 (by decide) ?_
  refine qx_iload_n C d_D_value_5 rfl rfl ?_
  rw [show md_u A 0 0 0 = md_c0 A from rfl]
  refine nx_if_lt C 26 d_D_value_6 (by decide) (by omega) (fun hc => ?_) (fun hc => ?_)
  · refine qx_iconst C d_D_value_26 (v := iI (0)) rfl ?_
    refine qx_iret C d_D_value_27 (Nat.zero_le _) (Nat.zero_le _) ⟨_, rfl, ?_, rfl⟩
    rw [if_neg (by omega)]
  · refine qx_iload_n C d_D_value_9 rfl rfl ?_
    refine qx_aload_n C d_D_value_10 rfl rfl ?_
    refine mx_gi C d_D_value_11 fl_D_136 rfl ?_
    refine nx_icmp_ge C 26 d_D_value_14 (by decide) (by omega) (by omega) (fun h1 => ?_) (fun h1 => ?_)
    · refine qx_iconst C d_D_value_26 (v := iI (0)) rfl ?_
      refine qx_iret C d_D_value_27 (Nat.zero_le _) (Nat.zero_le _) ⟨_, rfl, ?_, rfl⟩
      rw [if_neg (by omega)]
    · refine qx_aload_n C d_D_value_17 rfl rfl ?_
      refine mx_gi C d_D_value_18 fl_D_83 rfl ?_
      refine qx_iload_n C d_D_value_21 rfl rfl ?_
      refine mx_ia C I 26 60 d_D_value_22 (by unfold md_a; omega) rfl rfl (by omega) (by omega) ?_
      refine qx_goto C d_D_value_23 (tgt := 27) (by decide) ?_
      refine qx_iret C d_D_value_27 (Nat.zero_le _) (Nat.zero_le _) ⟨_, rfl, ?_, rfl⟩
      rw [if_pos (by omega)]
def md_compC (A : md_A) (x : Int) : Prop := (0 ≤ x ∧ x < 5) ∧ A 1 x = 0 ∧ ¬ A 14 x = A 4 x
/-- how much of the log a compact takes away -/
def md_gone (A : md_A) (x : Int) : Nat := (A 14 x - A 4 x).toNat
def md_cvals (A : md_A) (x : Int) : md_A := md_w A 7 (4 * x) (4 * x + 4) (fun z => md_val A x (z - 4 * x) (md_gone A x))
def md_compact (A : md_A) (x : Int) : md_A := md_u (md_u (md_u (md_shift (md_cvals A x) x (A 14 x)) 4 x (A 14 x)) 5 x (md_termAt A x (A 14 x))) 6 x (md_mem A x (md_gone A x))
theorem md_val_cg {A B : md_A} {s key : Int} (h7 : B 7 (4 * s + key) = A 7 (4 * s + key)) (h : ∀ k : Nat, 10 ≤ k → k ≤ 12 → B k = A k) : ∀ n, md_val B s key n = md_val A s key n
  | 0 => h7
  | n + 1 => by rw [md_val_s, md_val_s, md_val_cg h7 h n, h 10 (by decide) (by decide), h 11 (by decide) (by decide), h 12 (by decide) (by decide)]
set_option maxRecDepth 100000 in
theorem m_compact (l : Launch) (G : qh_G) (b : Nat) {o : Nat} {ad : Nat → Nat} {iv : Nat → Option Nat} (I : md_I o ad iv) (g : qh_H) {A : md_A} {x : Int} (hx : rng x) (hA : md_r (md_c0 A)) (ht : 0 ≤ x → x < 5 → md_B (md_c0 A) x ∧ md_c0 A 4 x ≤ md_c0 A 14 x ∧ md_c0 A 14 x ≤ md_last (md_c0 A) x) {r : Int} {A2 : md_A} (hr : (md_compC (md_c0 A) x → r = 1 ∧ A2 = md_compact (md_c0 A) x) ∧ (¬ md_compC (md_c0 A) x → r = 0 ∧ A2 = md_c0 A)) (d : Nat) : qj l y_D_compact c_D_compact 7 (some .boolean) (d + 4) 0 0 G b [.ref o, .int (iI x)] (md_h G o ad iv g A) r (md_h G o ad iv g A2) := by
  refine qx_of (lo := [some (.ref o), some (.int (iI x)), none, none, none, none, none]) (by decide) (fun w hw => List.mem_cons_of_mem _ hw) rfl (Nat.le_of_ble_eq_true rfl) rfl ?_
  intro X C
  have F : ¬ md_compC (md_c0 A) x → X 36 [some (.ref o), some (.int (iI x)), none, none, none, none, none] [] (md_h G o ad iv g (md_c0 A)) 0 0 := by
    intro h
    obtain ⟨rfl, rfl⟩ := hr.2 h
    refine qx_iconst C d_D_compact_36 (v := iI (0)) rfl ?_
    refine qx_zret C d_D_compact_37 (by decide) (Nat.zero_le _) (Nat.zero_le _) ⟨_, rfl, ?_, rfl⟩
    rfl
  refine qx_aload_n C d_D_compact_0 rfl rfl ?_
  refine qx_iconst C d_D_compact_1 (v := iI (0)) rfl ?_
  refine mx_pi C I d_D_compact_2 fp_D_92 (by decide) ?_
  refine qx_iload_n C d_D_compact_5 rfl rfl ?_
  rw [show md_u A 0 0 0 = md_c0 A from rfl]
  refine nx_call0 C s_D_compact_6 (m_isServer l G b (md_h G o ad iv g (md_c0 A)) hx d) w_D_isServer rfl rfl (Nat.le_of_ble_eq_true rfl) (by omega) (by decide) ?_
  by_cases h5 : 0 ≤ x ∧ x < 5
  · rw [if_pos h5]
    obtain ⟨hB, hc1, hc2⟩ := ht h5.1 h5.2
    have h1 := hA 1 x
    have hl : md_last (md_c0 A) x = md_c0 A 4 x + md_c0 A 8 x := rfl
    refine nx_if_eq C 36 d_D_compact_9 (by decide) (by omega) (fun q1 => ?_) (fun q1 => ?_)
    · exact absurd q1 (by decide)
    · refine qx_aload_n C d_D_compact_12 rfl rfl ?_
      refine mx_gi C d_D_compact_13 fl_D_7 rfl ?_
      refine qx_iload_n C d_D_compact_16 rfl rfl ?_
      refine mx_za C I 1 5 d_D_compact_17 (by unfold md_a; omega) rfl rfl (by omega) (by omega) ?_
      refine nx_if_ne C 36 d_D_compact_18 (by decide) (by omega) (fun q2 => ?_) (fun q2 => ?_)
      · exact F (fun z => q2 z.2.1)
      · refine qx_aload_n C d_D_compact_21 rfl rfl ?_
        refine mx_gi C d_D_compact_22 fl_D_50 rfl ?_
        refine qx_iload_n C d_D_compact_25 rfl rfl ?_
        refine mx_ia C I 14 5 d_D_compact_26 (by unfold md_a; omega) rfl rfl (by omega) (by omega) ?_
        refine qx_aload_n C d_D_compact_27 rfl rfl ?_
        refine mx_gi C d_D_compact_28 fl_D_20 rfl ?_
        refine qx_iload_n C d_D_compact_31 rfl rfl ?_
        refine mx_ia C I 4 5 d_D_compact_32 (by unfold md_a; omega) rfl rfl (by omega) (by omega) ?_
        refine nx_icmp_ne C 38 d_D_compact_33 (by decide) (by omega) (by omega) (fun q3 => ?_) (fun q3 => ?_)
        · obtain ⟨rfl, rfl⟩ := hr.1 ⟨h5, q2, q3⟩
          have hgn : ((md_gone (md_c0 A) x : Nat) : Int) = md_c0 A 14 x - md_c0 A 4 x := by unfold md_gone; omega
          refine qx_aload_n C d_D_compact_38 rfl rfl ?_
          refine mx_gi C d_D_compact_39 fl_D_50 rfl ?_
          refine qx_iload_n C d_D_compact_42 rfl rfl ?_
          refine mx_ia C I 14 5 d_D_compact_43 (by unfold md_a; omega) rfl rfl (by omega) (by omega) ?_
          refine nx_istore_n C d_D_compact_44 rfl (Nat.le_of_ble_eq_true rfl) (lo' := [_, _, some (.int _), _, _, _, _]) rfl ?_
          refine qx_aload_n C d_D_compact_45 rfl rfl ?_
          refine qx_iload_n C d_D_compact_46 rfl rfl ?_
          refine qx_iload_n C d_D_compact_47 rfl rfl ?_
          refine nx_call0 C (s_D_compact_48 md_o) (m_termAt l G b I g hB (hA 14 x) d) w_D_termAt rfl rfl (Nat.le_of_ble_eq_true rfl) (by omega) (by decide) ?_
          refine nx_istore_n C d_D_compact_51 rfl (Nat.le_of_ble_eq_true rfl) (lo' := [_, _, _, some (.int _), _, _, _]) rfl ?_
          refine qx_aload_n C d_D_compact_52 rfl rfl ?_
          refine qx_iload_n C d_D_compact_53 rfl rfl ?_
          refine qx_iload_n C d_D_compact_54 rfl rfl ?_
          refine nx_call0 C (s_D_compact_55 md_o) (m_membersAt l G b I g hA hB (t := md_gone (md_c0 A) x) (by omega) (by omega) d) w_D_membersAt rfl rfl (Nat.le_of_ble_eq_true rfl) (by omega) (by decide) ?_
          have L : ∀ (r0 : Nat) (q : Int) (B : md_A) (l6 : Option Value), q + r0 = 4 → 0 ≤ q → B = md_w (md_c0 A) 7 (4 * x) (4 * x + q) (fun z => md_val (md_c0 A) x (z - 4 * x) (md_gone (md_c0 A) x)) → X 63 [some (.ref o), some (.int (iI x)), some (.int (iI (md_c0 A 14 x))), some (.int (iI (md_termAt (md_c0 A) x (md_c0 A 14 x)))), some (.int (iI (md_mem (md_c0 A) x (md_gone (md_c0 A) x)))), some (.int (iI q)), l6] [] (md_h G o ad iv g B) 0 0 := by
            intro r0
            induction r0 with
            | zero =>
              intro q B l6 hq h0 hBe
              have eB : B = md_cvals (md_c0 A) x := by rw [hBe, show 4 * x + q = 4 * x + 4 by omega]; rfl
              have e4 : B 4 x = md_c0 A 4 x := by rw [hBe]; exact md_wk (by decide)
              have e8 : B 8 x = md_c0 A 8 x := by rw [hBe]; exact md_wk (by decide)
              refine qx_iload C d_D_compact_63 rfl ?_
              refine qx_iconst C d_D_compact_65 (v := iI (4)) rfl ?_
              refine nx_icmp_ge C 98 d_D_compact_66 (by decide) (by omega) (by omega) (fun z1 => ?_) (fun z1 => ?_)
              · refine qx_aload_n C d_D_compact_98 rfl rfl ?_
                refine qx_iload_n C d_D_compact_99 rfl rfl ?_
                refine qx_iload_n C d_D_compact_100 rfl rfl ?_
                refine nx_callv C (s_D_compact_101 md_o) (m_shift l G b I g (by unfold md_B; rw [e4, e8]; exact hB) (by rw [e4, e8]; omega) d) w_D_shift rfl rfl (Nat.le_of_ble_eq_true rfl) (by omega) (by decide) ?_
                subst eB
                refine qx_aload_n C d_D_compact_104 rfl rfl ?_
                refine mx_gi C d_D_compact_105 fl_D_20 rfl ?_
                refine qx_iload_n C d_D_compact_108 rfl rfl ?_
                refine qx_iload_n C d_D_compact_109 rfl rfl ?_
                refine mx_is C I 4 5 d_D_compact_110 (by unfold md_a; omega) rfl rfl (by omega) (by omega) ?_
                refine qx_aload_n C d_D_compact_111 rfl rfl ?_
                refine mx_gi C d_D_compact_112 fl_D_23 rfl ?_
                refine qx_iload_n C d_D_compact_115 rfl rfl ?_
                refine qx_iload_n C d_D_compact_116 rfl rfl ?_
                refine mx_is C I 5 5 d_D_compact_117 (by unfold md_a; omega) rfl rfl (by omega) (by omega) ?_
                refine qx_aload_n C d_D_compact_118 rfl rfl ?_
                refine mx_gi C d_D_compact_119 fl_D_26 rfl ?_
                refine qx_iload_n C d_D_compact_122 rfl rfl ?_
                refine qx_iload C d_D_compact_123 rfl ?_
                refine mx_is C I 6 5 d_D_compact_125 (by unfold md_a; omega) rfl rfl (by omega) (by omega) ?_
                refine qx_iconst C d_D_compact_126 (v := iI (1)) rfl ?_
                refine qx_zret C d_D_compact_127 (by decide) (Nat.zero_le _) (Nat.zero_le _) ⟨_, rfl, ?_, rfl⟩
                rfl
              · exact absurd z1 (by omega)
            | succ r0 ih =>
              intro q B l6 hq h0 hBe
              have e4 : B 4 x = md_c0 A 4 x := by rw [hBe]; exact md_wk (by decide)
              have e8 : B 8 x = md_c0 A 8 x := by rw [hBe]; exact md_wk (by decide)
              have hrB : md_r B := by rw [hBe]; exact md_r_w hA (fun z => md_val_r hA _ _ _)
              have ev : md_val B x q (md_gone (md_c0 A) x) = md_val (md_c0 A) x q (md_gone (md_c0 A) x) := md_val_cg (by rw [hBe]; exact md_wo (by omega)) (fun k z1 z2 => by funext z; rw [hBe]; exact md_wk (by omega)) _
              refine qx_iload C d_D_compact_63 rfl ?_
              refine qx_iconst C d_D_compact_65 (v := iI (4)) rfl ?_
              refine nx_icmp_ge C 98 d_D_compact_66 (by decide) (by omega) (by omega) (fun z1 => ?_) (fun z1 => ?_)
              · exact absurd z1 (by omega)
              · refine qx_aload_n C d_D_compact_69 rfl rfl ?_
                refine qx_iload_n C d_D_compact_70 rfl rfl ?_
                refine qx_iload C d_D_compact_71 rfl ?_
                refine qx_iload_n C d_D_compact_73 rfl rfl ?_
                refine nx_call0 C (s_D_compact_74 md_o) (m_valueAt l G b I g hrB (by unfold md_B; rw [e4, e8]; exact hB) (by omega) (t := md_gone (md_c0 A) x) (by omega) (by omega) d) w_D_valueAt rfl rfl (Nat.le_of_ble_eq_true rfl) (by omega) (by decide) ?_
                rw [ev]
                refine nx_istore C d_D_compact_77 (Nat.le_of_ble_eq_true rfl) (lo' := [_, _, _, _, _, _, some (.int _)]) rfl ?_
                refine qx_aload_n C d_D_compact_79 rfl rfl ?_
                refine mx_gi C d_D_compact_80 fl_D_29 rfl ?_
                refine qx_iconst C d_D_compact_83 (v := iI (4)) rfl ?_
                refine qx_iload_n C d_D_compact_84 rfl rfl ?_
                refine nx_imul C d_D_compact_85 ?_
                refine qx_iload C d_D_compact_86 rfl ?_
                refine nx_iadd C d_D_compact_88 ?_
                refine qx_iload C d_D_compact_89 rfl ?_
                refine mx_is C I 7 20 d_D_compact_91 (by unfold md_a; omega) rfl rfl (by omega) (by omega) ?_
                refine nx_iinc C d_D_compact_92 rfl (lo' := [_, _, _, _, _, some (.int _), _]) rfl ?_
                refine qx_goto C d_D_compact_95 (tgt := 63) (by decide) ?_
                refine ih _ _ _ (by omega) (by omega) ?_
                rw [hBe, show 4 * x + (q + 1) = 4 * x + q + 1 by omega]
                exact md_w_s _ 7 _ (by omega) (by rw [show 4 * x + q - 4 * x = q by omega])
          refine nx_istore C d_D_compact_58 (Nat.le_of_ble_eq_true rfl) (lo' := [_, _, _, _, some (.int _), _, _]) rfl ?_
          refine qx_iconst C d_D_compact_60 (v := iI (0)) rfl ?_
          refine nx_istore C d_D_compact_61 (Nat.le_of_ble_eq_true rfl) (lo' := [_, _, _, _, _, some (.int _), _]) rfl ?_
          exact L 4 0 _ _ (by omega) (by omega) (by rw [show 4 * x + 0 = 4 * x by omega]; exact (md_w_0 _ 7 _ _).symm)
        · exact F (fun z => z.2.2 q3)
  · rw [if_neg h5]
    refine nx_if_eq C 36 d_D_compact_9 (by decide) (by omega) (fun q1 => ?_) (fun q1 => ?_)
    · exact F (fun z => h5 z.1)
    · exact absurd rfl q1
def md_crash (A : md_A) (x : Int) : md_A := md_u (md_u (md_follow (md_u A 1 x 1) x) 14 x (A 4 x)) 15 x 0
set_option maxRecDepth 100000 in
theorem m_crash (l : Launch) (G : qh_G) (b : Nat) {o : Nat} {ad : Nat → Nat} {iv : Nat → Option Nat} (I : md_I o ad iv) (g : qh_H) {A : md_A} {x : Int} (hx : rng x) (hv : md_V (md_c0 A)) {r : Int} {A2 : md_A} (hr : (((0 ≤ x ∧ x < 5) ∧ md_c0 A 1 x = 0) → r = 1 ∧ A2 = md_crash (md_c0 A) x) ∧ (¬ ((0 ≤ x ∧ x < 5) ∧ md_c0 A 1 x = 0) → r = 0 ∧ A2 = md_c0 A)) (d : Nat) : qj l y_D_crash c_D_crash 2 (some .boolean) (d + 1) 0 0 G b [.ref o, .int (iI x)] (md_h G o ad iv g A) r (md_h G o ad iv g A2) := by
  refine qx_of (lo := [some (.ref o), some (.int (iI x))]) (by decide) (fun w hw => List.mem_cons_of_mem _ hw) rfl (Nat.le_of_ble_eq_true rfl) rfl ?_
  intro X C
  have F : ¬ ((0 ≤ x ∧ x < 5) ∧ md_c0 A 1 x = 0) → X 21 [some (.ref o), some (.int (iI x))] [] (md_h G o ad iv g (md_c0 A)) 0 0 := by
    intro h
    obtain ⟨rfl, rfl⟩ := hr.2 h
    refine qx_iconst C d_D_crash_21 (v := iI (0)) rfl ?_
    refine qx_zret C d_D_crash_22 (by decide) (Nat.zero_le _) (Nat.zero_le _) ⟨_, rfl, ?_, rfl⟩
    rfl
  refine qx_aload_n C d_D_crash_0 rfl rfl ?_
  refine qx_iconst C d_D_crash_1 (v := iI (0)) rfl ?_
  refine mx_pi C I d_D_crash_2 fp_D_92 (by decide) ?_
  refine qx_iload_n C d_D_crash_5 rfl rfl ?_
  rw [show md_u A 0 0 0 = md_c0 A from rfl]
  refine nx_call0 C s_D_crash_6 (m_isServer l G b (md_h G o ad iv g (md_c0 A)) hx d) w_D_isServer rfl rfl (Nat.le_of_ble_eq_true rfl) (by omega) (by decide) ?_
  by_cases h5 : 0 ≤ x ∧ x < 5
  · rw [if_pos h5]
    have h1 := hv.1.1 1 x
    have e21 : md_u (md_c0 A) 1 x 1 21 0 = md_c0 A 21 0 := md_uk (by decide)
    refine nx_if_eq C 21 d_D_crash_9 (by decide) (by omega) (fun q1 => ?_) (fun q1 => ?_)
    · exact absurd q1 (by decide)
    · refine qx_aload_n C d_D_crash_12 rfl rfl ?_
      refine mx_gi C d_D_crash_13 fl_D_7 rfl ?_
      refine qx_iload_n C d_D_crash_16 rfl rfl ?_
      refine mx_za C I 1 5 d_D_crash_17 (by unfold md_a; omega) rfl rfl (by omega) (by omega) ?_
      refine nx_if_eq C 23 d_D_crash_18 (by decide) (by omega) (fun q2 => ?_) (fun q2 => ?_)
      · obtain ⟨rfl, rfl⟩ := hr.1 ⟨h5, q2⟩
        refine qx_aload_n C d_D_crash_23 rfl rfl ?_
        refine mx_gi C d_D_crash_24 fl_D_7 rfl ?_
        refine qx_iload_n C d_D_crash_27 rfl rfl ?_
        refine qx_iconst C d_D_crash_28 (v := iI (1)) rfl ?_
        refine mx_zs C I 1 5 d_D_crash_29 (by unfold md_a; omega) rfl rfl (by omega) (by omega) (by omega) ?_
        refine qx_aload_n C d_D_crash_30 rfl rfl ?_
        refine qx_iload_n C d_D_crash_31 rfl rfl ?_
        refine nx_callv C (s_D_crash_32 md_o) (m_follow l G b I g (md_r_u hv.1.1 (by omega)) h5 (by omega) d) w_D_follow rfl rfl (Nat.le_of_ble_eq_true rfl) (by omega) (by decide) ?_
        refine qx_aload_n C d_D_crash_35 rfl rfl ?_
        refine mx_gi C d_D_crash_36 fl_D_50 rfl ?_
        refine qx_iload_n C d_D_crash_39 rfl rfl ?_
        refine qx_aload_n C d_D_crash_40 rfl rfl ?_
        refine mx_gi C d_D_crash_41 fl_D_20 rfl ?_
        refine qx_iload_n C d_D_crash_44 rfl rfl ?_
        refine mx_ia C I 4 5 d_D_crash_45 (by unfold md_a; omega) rfl rfl (by omega) (by omega) ?_
        rw [md_follow_k (by decide), md_uk (k := 1) (j := 4) (by decide)]
        refine mx_is C I 14 5 d_D_crash_46 (by unfold md_a; omega) rfl rfl (by omega) (by omega) ?_
        refine qx_aload_n C d_D_crash_47 rfl rfl ?_
        refine mx_gi C d_D_crash_48 fl_D_53 rfl ?_
        refine qx_iload_n C d_D_crash_51 rfl rfl ?_
        refine qx_iconst C d_D_crash_52 (v := iI (0)) rfl ?_
        refine mx_zs C I 15 5 d_D_crash_53 (by unfold md_a; omega) rfl rfl (by omega) (by omega) (by omega) ?_
        refine qx_iconst C d_D_crash_54 (v := iI (1)) rfl ?_
        refine qx_zret C d_D_crash_55 (by decide) (Nat.zero_le _) (Nat.zero_le _) ⟨_, rfl, ?_, rfl⟩
        rfl
      · exact F (fun z => q2 z.2)
  · rw [if_neg h5]
    refine nx_if_eq C 21 d_D_crash_9 (by decide) (by omega) (fun q1 => ?_) (fun q1 => ?_)
    · exact F (fun z => h5 z.1)
    · exact absurd rfl q1
set_option maxRecDepth 100000 in
theorem m_restart (l : Launch) (G : qh_G) (b : Nat) {o : Nat} {ad : Nat → Nat} {iv : Nat → Option Nat} (I : md_I o ad iv) (g : qh_H) {A : md_A} {x : Int} (hx : rng x) (hA : md_r (md_c0 A)) {r : Int} {A2 : md_A} (hr : (((0 ≤ x ∧ x < 5) ∧ ¬ md_c0 A 1 x = 0) → r = 1 ∧ A2 = md_u (md_c0 A) 1 x 0) ∧ (¬ ((0 ≤ x ∧ x < 5) ∧ ¬ md_c0 A 1 x = 0) → r = 0 ∧ A2 = md_c0 A)) (d : Nat) : qj l y_D_restart c_D_restart 2 (some .boolean) (d + 1) 0 0 G b [.ref o, .int (iI x)] (md_h G o ad iv g A) r (md_h G o ad iv g A2) := by
  refine qx_of (lo := [some (.ref o), some (.int (iI x))]) (by decide) (fun w hw => List.mem_cons_of_mem _ hw) rfl (Nat.le_of_ble_eq_true rfl) rfl ?_
  intro X C
  have F : ¬ ((0 ≤ x ∧ x < 5) ∧ ¬ md_c0 A 1 x = 0) → X 21 [some (.ref o), some (.int (iI x))] [] (md_h G o ad iv g (md_c0 A)) 0 0 := by
    intro h
    obtain ⟨rfl, rfl⟩ := hr.2 h
    refine qx_iconst C d_D_restart_21 (v := iI (0)) rfl ?_
    refine qx_zret C d_D_restart_22 (by decide) (Nat.zero_le _) (Nat.zero_le _) ⟨_, rfl, ?_, rfl⟩
    rfl
  refine qx_aload_n C d_D_restart_0 rfl rfl ?_
  refine qx_iconst C d_D_restart_1 (v := iI (0)) rfl ?_
  refine mx_pi C I d_D_restart_2 fp_D_92 (by decide) ?_
  refine qx_iload_n C d_D_restart_5 rfl rfl ?_
  rw [show md_u A 0 0 0 = md_c0 A from rfl]
  refine nx_call0 C s_D_restart_6 (m_isServer l G b (md_h G o ad iv g (md_c0 A)) hx d) w_D_isServer rfl rfl (Nat.le_of_ble_eq_true rfl) (by omega) (by decide) ?_
  by_cases h5 : 0 ≤ x ∧ x < 5
  · rw [if_pos h5]
    have h1 := hA 1 x
    refine nx_if_eq C 21 d_D_restart_9 (by decide) (by omega) (fun q1 => ?_) (fun q1 => ?_)
    · exact absurd q1 (by decide)
    · refine qx_aload_n C d_D_restart_12 rfl rfl ?_
      refine mx_gi C d_D_restart_13 fl_D_7 rfl ?_
      refine qx_iload_n C d_D_restart_16 rfl rfl ?_
      refine mx_za C I 1 5 d_D_restart_17 (by unfold md_a; omega) rfl rfl (by omega) (by omega) ?_
      refine nx_if_ne C 23 d_D_restart_18 (by decide) (by omega) (fun q2 => ?_) (fun q2 => ?_)
      · obtain ⟨rfl, rfl⟩ := hr.1 ⟨h5, q2⟩
        refine qx_aload_n C d_D_restart_23 rfl rfl ?_
        refine mx_gi C d_D_restart_24 fl_D_7 rfl ?_
        refine qx_iload_n C d_D_restart_27 rfl rfl ?_
        refine qx_iconst C d_D_restart_28 (v := iI (0)) rfl ?_
        refine mx_zs C I 1 5 d_D_restart_29 (by unfold md_a; omega) rfl rfl (by omega) (by omega) (by omega) ?_
        refine qx_iconst C d_D_restart_30 (v := iI (1)) rfl ?_
        refine qx_zret C d_D_restart_31 (by decide) (Nat.zero_le _) (Nat.zero_le _) ⟨_, rfl, ?_, rfl⟩
        rfl
      · exact F (fun z => z.2 q2)
  · rw [if_neg h5]
    refine nx_if_eq C 21 d_D_restart_9 (by decide) (by omega) (fun q1 => ?_) (fun q1 => ?_)
    · exact F (fun z => h5 z.1)
    · exact absurd rfl q1
set_option maxRecDepth 100000 in
theorem m_lose (l : Launch) (G : qh_G) (b : Nat) {o : Nat} {ad : Nat → Nat} {iv : Nat → Option Nat} (I : md_I o ad iv) (g : qh_H) {A : md_A} {x : Int} (hx : rng x) (hw : 0 ≤ md_c0 A 27 0 ∧ md_c0 A 27 0 ≤ 48) {r : Int} {A2 : md_A} (hr : ((0 ≤ x ∧ x < md_c0 A 27 0) → r = 1 ∧ A2 = md_take (md_c0 A) x) ∧ (¬ (0 ≤ x ∧ x < md_c0 A 27 0) → r = 0 ∧ A2 = md_c0 A)) (d : Nat) : qj l y_D_lose c_D_lose 2 (some .boolean) (d + 1) 0 0 G b [.ref o, .int (iI x)] (md_h G o ad iv g A) r (md_h G o ad iv g A2) := by
  refine qx_of (lo := [some (.ref o), some (.int (iI x))]) (by decide) (fun w hw => List.mem_cons_of_mem _ hw) rfl (Nat.le_of_ble_eq_true rfl) rfl ?_
  intro X C
  have F : ¬ (0 ≤ x ∧ x < md_c0 A 27 0) → X 17 [some (.ref o), some (.int (iI x))] [] (md_h G o ad iv g (md_c0 A)) 0 0 := by
    intro h
    obtain ⟨rfl, rfl⟩ := hr.2 h
    refine qx_iconst C d_D_lose_17 (v := iI (0)) rfl ?_
    refine qx_zret C d_D_lose_18 (by decide) (Nat.zero_le _) (Nat.zero_le _) ⟨_, rfl, ?_, rfl⟩
    rfl
  refine qx_aload_n C d_D_lose_0 rfl rfl ?_
  refine qx_iconst C d_D_lose_1 (v := iI (0)) rfl ?_
  refine mx_pi C I d_D_lose_2 fp_D_92 (by decide) ?_
  refine qx_iload_n C d_D_lose_5 rfl rfl ?_
  rw [show md_u A 0 0 0 = md_c0 A from rfl]
  refine nx_if_lt C 17 d_D_lose_6 (by decide) (by omega) (fun hc => ?_) (fun hc => ?_)
  · exact F (by omega)
  · refine qx_iload_n C d_D_lose_9 rfl rfl ?_
    refine qx_aload_n C d_D_lose_10 rfl rfl ?_
    refine mx_gi C d_D_lose_11 fl_D_119 rfl ?_
    refine nx_icmp_lt C 19 d_D_lose_14 (by decide) (by omega) (by omega) (fun h1 => ?_) (fun h1 => ?_)
    · obtain ⟨rfl, rfl⟩ := hr.1 ⟨by omega, by omega⟩
      refine qx_aload_n C d_D_lose_19 rfl rfl ?_
      refine qx_iload_n C d_D_lose_20 rfl rfl ?_
      refine nx_callv C (s_D_lose_21 md_o) (m_takeOut l G b I g ⟨by omega, by omega⟩ (by omega) d) w_D_takeOut rfl rfl (Nat.le_of_ble_eq_true rfl) (by omega) (by decide) ?_
      refine qx_iconst C d_D_lose_24 (v := iI (1)) rfl ?_
      refine qx_zret C d_D_lose_25 (by decide) (Nat.zero_le _) (Nat.zero_le _) ⟨_, rfl, ?_, rfl⟩
      rfl
    · exact F (by omega)
set_option maxRecDepth 100000 in
theorem m_waiting (l : Launch) (G : qh_G) (b : Nat) {o : Nat} {ad : Nat → Nat} {iv : Nat → Option Nat} (I : md_I o ad iv) (g : qh_H) {A : md_A} (d : Nat) : qj l y_D_waiting c_D_waiting 1 (some .int) d 0 0 G b [.ref o] (md_h G o ad iv g A) (md_c0 A 27 0) (md_h G o ad iv g (md_c0 A)) := by
  refine qx_of (lo := [some (.ref o)]) (by decide) (fun w hw => List.mem_cons_of_mem _ hw) rfl (Nat.le_of_ble_eq_true rfl) rfl ?_
  intro X C
  refine qx_aload_n C d_D_waiting_0 rfl rfl ?_
  refine qx_iconst C d_D_waiting_1 (v := iI (0)) rfl ?_
  refine mx_pi C I d_D_waiting_2 fp_D_92 (by decide) ?_
  refine qx_aload_n C d_D_waiting_5 rfl rfl ?_
  refine mx_gi C d_D_waiting_6 fl_D_119 rfl ?_
  refine qx_iret C d_D_waiting_9 (Nat.zero_le _) (Nat.zero_le _) ⟨_, rfl, ?_, rfl⟩
  rfl
def md_msg (A : md_A) (k w : Int) : Int := if ¬ (0 ≤ k ∧ k < A 27 0 ∧ 0 ≤ w ∧ w ≤ 6) then -1 else if w < 5 then A 28 (20 * k + w) else if w = 6 then A 28 (20 * k + 9) else if A 28 (20 * k) = 4 then A 28 (20 * k + 7) else A 28 (20 * k + 6)
set_option maxRecDepth 100000 in
theorem m_message (l : Launch) (G : qh_G) (b : Nat) {o : Nat} {ad : Nat → Nat} {iv : Nat → Option Nat} (I : md_I o ad iv) (g : qh_H) {A : md_A} {k w : Int} (hk : rng k) (hw2 : rng w) (hA : md_r (md_c0 A)) (hw : 0 ≤ md_c0 A 27 0 ∧ md_c0 A 27 0 ≤ 48) (d : Nat) : qj l y_D_message c_D_message 4 (some .int) d 0 0 G b [.ref o, .int (iI k), .int (iI w)] (md_h G o ad iv g A) (md_msg (md_c0 A) k w) (md_h G o ad iv g (md_c0 A)) := by
  refine qx_of (lo := [some (.ref o), some (.int (iI k)), some (.int (iI w)), none]) (by decide) (fun w hw => List.mem_cons_of_mem _ hw) rfl (Nat.le_of_ble_eq_true rfl) rfl ?_
  intro X C
  have F : ¬ (0 ≤ k ∧ k < md_c0 A 27 0 ∧ 0 ≤ w ∧ w ≤ 6) → X 27 [some (.ref o), some (.int (iI k)), some (.int (iI w)), none] [] (md_h G o ad iv g (md_c0 A)) 0 0 := by
    intro h
    refine qx_iconst C d_D_message_27 (v := iI (-1)) rfl ?_
    refine qx_iret C d_D_message_28 (Nat.zero_le _) (Nat.zero_le _) ⟨_, rfl, ?_, rfl⟩
    unfold md_msg
    rw [if_pos h]
  refine qx_aload_n C d_D_message_0 rfl rfl ?_
  refine qx_iconst C d_D_message_1 (v := iI (0)) rfl ?_
  refine mx_pi C I d_D_message_2 fp_D_92 (by decide) ?_
  refine qx_iload_n C d_D_message_5 rfl rfl ?_
  rw [show md_u A 0 0 0 = md_c0 A from rfl]
  refine nx_if_lt C 27 d_D_message_6 (by decide) (by omega) (fun h1 => ?_) (fun h1 => ?_)
  · exact F (by omega)
  · refine qx_iload_n C d_D_message_9 rfl rfl ?_
    refine qx_aload_n C d_D_message_10 rfl rfl ?_
    refine mx_gi C d_D_message_11 fl_D_119 rfl ?_
    refine nx_icmp_ge C 27 d_D_message_14 (by decide) (by omega) (by omega) (fun h2 => ?_) (fun h2 => ?_)
    · exact F (by omega)
    · refine qx_iload_n C d_D_message_17 rfl rfl ?_
      refine nx_if_lt C 27 d_D_message_18 (by decide) (by omega) (fun h3 => ?_) (fun h3 => ?_)
      · exact F (by omega)
      · refine qx_iload_n C d_D_message_21 rfl rfl ?_
        refine qx_bipush C d_D_message_22 (v := iI (6)) (by decide) ?_
        refine nx_icmp_le C 29 d_D_message_24 (by decide) (by omega) (by omega) (fun h4 => ?_) (fun h4 => ?_)
        · have h0 := hA 28 (20 * k)
          refine qx_bipush C d_D_message_29 (v := iI (20)) (by decide) ?_
          refine qx_iload_n C d_D_message_31 rfl rfl ?_
          refine nx_imul C d_D_message_32 ?_
          refine nx_istore_n C d_D_message_33 rfl (Nat.le_of_ble_eq_true rfl) (lo' := [_, _, _, some (.int _)]) rfl ?_
          refine qx_iload_n C d_D_message_34 rfl rfl ?_
          refine qx_iconst C d_D_message_35 (v := iI (5)) rfl ?_
          refine nx_icmp_ge C 48 d_D_message_36 (by decide) (by omega) (by omega) (fun h5 => ?_) (fun h5 => ?_)
          · refine qx_iload_n C d_D_message_48 rfl rfl ?_
            refine qx_bipush C d_D_message_49 (v := iI (6)) (by decide) ?_
            refine nx_icmp_ne C 64 d_D_message_51 (by decide) (by omega) (by omega) (fun h6 => ?_) (fun h6 => ?_)
            · refine qx_aload_n C d_D_message_64 rfl rfl ?_
              refine mx_gi C d_D_message_65 fl_D_86 rfl ?_
              refine qx_iload_n C d_D_message_68 rfl rfl ?_
              refine mx_ia C I 28 960 d_D_message_69 (by unfold md_a; omega) rfl rfl (by omega) (by omega) ?_
              refine qx_iconst C d_D_message_70 (v := iI (4)) rfl ?_
              refine nx_icmp_ne C 86 d_D_message_71 (by decide) (by omega) (by omega) (fun h7 => ?_) (fun h7 => ?_)
              · refine qx_aload_n C d_D_message_86 rfl rfl ?_
                refine mx_gi C d_D_message_87 fl_D_86 rfl ?_
                refine qx_iload_n C d_D_message_90 rfl rfl ?_
                refine qx_bipush C d_D_message_91 (v := iI (6)) (by decide) ?_
                refine nx_iadd C d_D_message_93 ?_
                refine mx_ia C I 28 960 d_D_message_94 (by unfold md_a; omega) rfl rfl (by omega) (by omega) ?_
                refine qx_iret C d_D_message_95 (Nat.zero_le _) (Nat.zero_le _) ⟨_, rfl, ?_, rfl⟩
                unfold md_msg
                rw [if_neg (by omega), if_neg (by omega), if_neg (by omega), if_neg h7]
              · refine qx_aload_n C d_D_message_74 rfl rfl ?_
                refine mx_gi C d_D_message_75 fl_D_86 rfl ?_
                refine qx_iload_n C d_D_message_78 rfl rfl ?_
                refine qx_bipush C d_D_message_79 (v := iI (7)) (by decide) ?_
                refine nx_iadd C d_D_message_81 ?_
                refine mx_ia C I 28 960 d_D_message_82 (by unfold md_a; omega) rfl rfl (by omega) (by omega) ?_
                refine qx_goto C d_D_message_83 (tgt := 95) (by decide) ?_
                refine qx_iret C d_D_message_95 (Nat.zero_le _) (Nat.zero_le _) ⟨_, rfl, ?_, rfl⟩
                unfold md_msg
                rw [if_neg (by omega), if_neg (by omega), if_neg (by omega), if_pos h7]
            · refine qx_aload_n C d_D_message_54 rfl rfl ?_
              refine mx_gi C d_D_message_55 fl_D_86 rfl ?_
              refine qx_iload_n C d_D_message_58 rfl rfl ?_
              refine qx_bipush C d_D_message_59 (v := iI (9)) (by decide) ?_
              refine nx_iadd C d_D_message_61 ?_
              refine mx_ia C I 28 960 d_D_message_62 (by unfold md_a; omega) rfl rfl (by omega) (by omega) ?_
              refine qx_iret C d_D_message_63 (Nat.zero_le _) (Nat.zero_le _) ⟨_, rfl, ?_, rfl⟩
              unfold md_msg
              rw [if_neg (by omega), if_neg (by omega), if_pos h6]
          · refine qx_aload_n C d_D_message_39 rfl rfl ?_
            refine mx_gi C d_D_message_40 fl_D_86 rfl ?_
            refine qx_iload_n C d_D_message_43 rfl rfl ?_
            refine qx_iload_n C d_D_message_44 rfl rfl ?_
            refine nx_iadd C d_D_message_45 ?_
            refine mx_ia C I 28 960 d_D_message_46 (by unfold md_a; omega) rfl rfl (by omega) (by omega) ?_
            refine qx_iret C d_D_message_47 (Nat.zero_le _) (Nat.zero_le _) ⟨_, rfl, ?_, rfl⟩
            unfold md_msg
            rw [if_neg (by omega), if_pos (by omega)]
        · exact F (by omega)
def md_stt (A : md_A) (x w : Int) : Int := if ¬ (0 ≤ x ∧ x < 5) then -1 else if w = 0 then A 13 x else if w = 1 then A 2 x else if w = 2 then A 3 x else if w = 3 then A 14 x else if w = 4 then A 4 x else if w = 5 then md_last A x else if w = 6 then md_config A x else if w = 7 then (if A 15 x = 0 then 0 else 1) else if w = 8 then (if A 1 x = 0 then 1 else 0) else -1
set_option maxRecDepth 100000 in
theorem m_state (l : Launch) (G : qh_G) (b : Nat) {o : Nat} {ad : Nat → Nat} {iv : Nat → Option Nat} (I : md_I o ad iv) (g : qh_H) {A : md_A} {x w : Int} (hx : rng x) (hw : rng w) (hA : md_r (md_c0 A)) (ht : 0 ≤ x → x < 5 → md_B (md_c0 A) x) (d : Nat) : qj l y_D_state c_D_state 3 (some .int) (d + 5) 0 0 G b [.ref o, .int (iI x), .int (iI w)] (md_h G o ad iv g A) (md_stt (md_c0 A) x w) (md_h G o ad iv g (md_c0 A)) := by
  refine qx_of (lo := [some (.ref o), some (.int (iI x)), some (.int (iI w))]) (by decide) (fun w hw => List.mem_cons_of_mem _ hw) rfl (Nat.le_of_ble_eq_true rfl) rfl ?_
  intro X C
  refine qx_aload_n C d_D_state_0 rfl rfl ?_
  refine qx_iconst C d_D_state_1 (v := iI (0)) rfl ?_
  refine mx_pi C I d_D_state_2 fp_D_92 (by decide) ?_
  refine qx_iload_n C d_D_state_5 rfl rfl ?_
  rw [show md_u A 0 0 0 = md_c0 A from rfl]
  refine nx_call0 C s_D_state_6 (m_isServer l G b (md_h G o ad iv g (md_c0 A)) hx d) w_D_isServer rfl rfl (Nat.le_of_ble_eq_true rfl) (by omega) (by decide) ?_
  by_cases h5 : 0 ≤ x ∧ x < 5
  · rw [if_pos h5]
    have hB := ht h5.1 h5.2
    have h15 := hA 15 x
    have h1 := hA 1 x
    have hv5 : ¬ ¬ (0 ≤ x ∧ x < 5) := fun z => z h5
    refine nx_if_ne C 14 d_D_state_9 (by decide) (by omega) (fun q1 => ?_) (fun q1 => ?_)
    · refine qx_iload_n C d_D_state_14 rfl rfl ?_
      by_cases hin : 0 ≤ w ∧ w ≤ 8
      · have hcs : w = 0 ∨ w = 1 ∨ w = 2 ∨ w = 3 ∨ w = 4 ∨ w = 5 ∨ w = 6 ∨ w = 7 ∨ w = 8 := by omega
        rcases hcs with rfl | rfl | rfl | rfl | rfl | rfl | rfl | rfl | rfl
        · refine qx_tabIn C d_D_state_15 (off := 49) (tgt := 64) (by decide) (by decide) (by decide) (by decide) ?_
          refine qx_aload_n C d_D_state_64 rfl rfl ?_
          refine mx_gi C d_D_state_65 fl_D_47 rfl ?_
          refine qx_iload_n C d_D_state_68 rfl rfl ?_
          refine mx_ia C I 13 5 d_D_state_69 (by unfold md_a; omega) rfl rfl (by omega) (by omega) ?_
          refine qx_iret C d_D_state_70 (Nat.zero_le _) (Nat.zero_le _) ⟨_, rfl, ?_, rfl⟩
          unfold md_stt
          rw [if_neg hv5]; rfl
        · refine qx_tabIn C d_D_state_15 (off := 56) (tgt := 71) (by decide) (by decide) (by decide) (by decide) ?_
          refine qx_aload_n C d_D_state_71 rfl rfl ?_
          refine mx_gi C d_D_state_72 fl_D_13 rfl ?_
          refine qx_iload_n C d_D_state_75 rfl rfl ?_
          refine mx_ia C I 2 5 d_D_state_76 (by unfold md_a; omega) rfl rfl (by omega) (by omega) ?_
          refine qx_iret C d_D_state_77 (Nat.zero_le _) (Nat.zero_le _) ⟨_, rfl, ?_, rfl⟩
          unfold md_stt
          rw [if_neg hv5]; rfl
        · refine qx_tabIn C d_D_state_15 (off := 63) (tgt := 78) (by decide) (by decide) (by decide) (by decide) ?_
          refine qx_aload_n C d_D_state_78 rfl rfl ?_
          refine mx_gi C d_D_state_79 fl_D_17 rfl ?_
          refine qx_iload_n C d_D_state_82 rfl rfl ?_
          refine mx_ia C I 3 5 d_D_state_83 (by unfold md_a; omega) rfl rfl (by omega) (by omega) ?_
          refine qx_iret C d_D_state_84 (Nat.zero_le _) (Nat.zero_le _) ⟨_, rfl, ?_, rfl⟩
          unfold md_stt
          rw [if_neg hv5]; rfl
        · refine qx_tabIn C d_D_state_15 (off := 70) (tgt := 85) (by decide) (by decide) (by decide) (by decide) ?_
          refine qx_aload_n C d_D_state_85 rfl rfl ?_
          refine mx_gi C d_D_state_86 fl_D_50 rfl ?_
          refine qx_iload_n C d_D_state_89 rfl rfl ?_
          refine mx_ia C I 14 5 d_D_state_90 (by unfold md_a; omega) rfl rfl (by omega) (by omega) ?_
          refine qx_iret C d_D_state_91 (Nat.zero_le _) (Nat.zero_le _) ⟨_, rfl, ?_, rfl⟩
          unfold md_stt
          rw [if_neg hv5]; rfl
        · refine qx_tabIn C d_D_state_15 (off := 77) (tgt := 92) (by decide) (by decide) (by decide) (by decide) ?_
          refine qx_aload_n C d_D_state_92 rfl rfl ?_
          refine mx_gi C d_D_state_93 fl_D_20 rfl ?_
          refine qx_iload_n C d_D_state_96 rfl rfl ?_
          refine mx_ia C I 4 5 d_D_state_97 (by unfold md_a; omega) rfl rfl (by omega) (by omega) ?_
          refine qx_iret C d_D_state_98 (Nat.zero_le _) (Nat.zero_le _) ⟨_, rfl, ?_, rfl⟩
          unfold md_stt
          rw [if_neg hv5]; rfl
        · refine qx_tabIn C d_D_state_15 (off := 84) (tgt := 99) (by decide) (by decide) (by decide) (by decide) ?_
          refine qx_aload_n C d_D_state_99 rfl rfl ?_
          refine qx_iload_n C d_D_state_100 rfl rfl ?_
          refine nx_call0 C (s_D_state_101 md_o) (m_last l G b I g hB d) w_D_last rfl rfl (Nat.le_of_ble_eq_true rfl) (by omega) (by decide) ?_
          refine qx_iret C d_D_state_104 (Nat.zero_le _) (Nat.zero_le _) ⟨_, rfl, ?_, rfl⟩
          unfold md_stt
          rw [if_neg hv5]; rfl
        · refine qx_tabIn C d_D_state_15 (off := 90) (tgt := 105) (by decide) (by decide) (by decide) (by decide) ?_
          refine qx_aload_n C d_D_state_105 rfl rfl ?_
          refine qx_iload_n C d_D_state_106 rfl rfl ?_
          refine nx_call0 C (s_D_state_107 md_o) (m_config l G b I g hA hB d) w_D_config rfl rfl (Nat.le_of_ble_eq_true rfl) (by omega) (by decide) ?_
          refine qx_iret C d_D_state_110 (Nat.zero_le _) (Nat.zero_le _) ⟨_, rfl, ?_, rfl⟩
          unfold md_stt
          rw [if_neg hv5]; rfl
        · refine qx_tabIn C d_D_state_15 (off := 96) (tgt := 111) (by decide) (by decide) (by decide) (by decide) ?_
          refine qx_aload_n C d_D_state_111 rfl rfl ?_
          refine mx_gi C d_D_state_112 fl_D_53 rfl ?_
          refine qx_iload_n C d_D_state_115 rfl rfl ?_
          refine mx_za C I 15 5 d_D_state_116 (by unfold md_a; omega) rfl rfl (by omega) (by omega) ?_
          refine nx_if_eq C 124 d_D_state_117 (by decide) (by omega) (fun z1 => ?_) (fun z1 => ?_)
          · refine qx_iconst C d_D_state_124 (v := iI (0)) rfl ?_
            refine qx_iret C d_D_state_125 (Nat.zero_le _) (Nat.zero_le _) ⟨_, rfl, ?_, rfl⟩
            unfold md_stt
            rw [if_neg hv5]
            show iI 0 = iI (if md_c0 A 15 x = 0 then 0 else 1)
            rw [if_pos z1]
          · refine qx_iconst C d_D_state_120 (v := iI (1)) rfl ?_
            refine qx_goto C d_D_state_121 (tgt := 125) (by decide) ?_
            refine qx_iret C d_D_state_125 (Nat.zero_le _) (Nat.zero_le _) ⟨_, rfl, ?_, rfl⟩
            unfold md_stt
            rw [if_neg hv5]
            show iI 1 = iI (if md_c0 A 15 x = 0 then 0 else 1)
            rw [if_neg z1]
        · refine qx_tabIn C d_D_state_15 (off := 111) (tgt := 126) (by decide) (by decide) (by decide) (by decide) ?_
          refine qx_aload_n C d_D_state_126 rfl rfl ?_
          refine mx_gi C d_D_state_127 fl_D_7 rfl ?_
          refine qx_iload_n C d_D_state_130 rfl rfl ?_
          refine mx_za C I 1 5 d_D_state_131 (by unfold md_a; omega) rfl rfl (by omega) (by omega) ?_
          refine nx_if_eq C 139 d_D_state_132 (by decide) (by omega) (fun z1 => ?_) (fun z1 => ?_)
          · refine qx_iconst C d_D_state_139 (v := iI (1)) rfl ?_
            refine qx_iret C d_D_state_140 (Nat.zero_le _) (Nat.zero_le _) ⟨_, rfl, ?_, rfl⟩
            unfold md_stt
            rw [if_neg hv5]
            show iI 1 = iI (if md_c0 A 1 x = 0 then 1 else 0)
            rw [if_pos z1]
          · refine qx_iconst C d_D_state_135 (v := iI (0)) rfl ?_
            refine qx_goto C d_D_state_136 (tgt := 140) (by decide) ?_
            refine qx_iret C d_D_state_140 (Nat.zero_le _) (Nat.zero_le _) ⟨_, rfl, ?_, rfl⟩
            unfold md_stt
            rw [if_neg hv5]
            show iI 0 = iI (if md_c0 A 1 x = 0 then 1 else 0)
            rw [if_neg z1]
      · refine qx_tabOut C d_D_state_15 (tgt := 141) (by rw [iI_toInt (by omega)]; omega) (by decide) ?_
        refine qx_iconst C d_D_state_141 (v := iI (-1)) rfl ?_
        refine qx_iret C d_D_state_142 (Nat.zero_le _) (Nat.zero_le _) ⟨_, rfl, ?_, rfl⟩
        unfold md_stt
        rw [if_neg hv5, if_neg (by omega), if_neg (by omega), if_neg (by omega), if_neg (by omega), if_neg (by omega), if_neg (by omega), if_neg (by omega), if_neg (by omega), if_neg (by omega)]
    · exact absurd q1 (by decide)
  · rw [if_neg h5]
    refine nx_if_ne C 14 d_D_state_9 (by decide) (by omega) (fun q1 => ?_) (fun q1 => ?_)
    · exact absurd rfl q1
    · refine qx_iconst C d_D_state_12 (v := iI (-1)) rfl ?_
      refine qx_iret C d_D_state_13 (Nat.zero_le _) (Nat.zero_le _) ⟨_, rfl, ?_, rfl⟩
      unfold md_stt
      rw [if_pos h5]
def md_en (A : md_A) (x i w : Int) : Int := if ¬ ((0 ≤ x ∧ x < 5) ∧ 0 ≤ md_cell A x i) then -1 else if w = 0 then A 9 (md_cell A x i) else if w = 1 then A 10 (md_cell A x i) else if w = 2 then A 11 (md_cell A x i) else if w = 3 then A 12 (md_cell A x i) else -1
set_option maxRecDepth 100000 in
theorem m_entry (l : Launch) (G : qh_G) (b : Nat) {o : Nat} {ad : Nat → Nat} {iv : Nat → Option Nat} (I : md_I o ad iv) (g : qh_H) {A : md_A} {x i w : Int} (hx : rng x) (hi : rng i) (hw : rng w) (ht : 0 ≤ x → x < 5 → md_B (md_c0 A) x) (d : Nat) : qj l y_D_entry c_D_entry 5 (some .int) (d + 2) 0 0 G b [.ref o, .int (iI x), .int (iI i), .int (iI w)] (md_h G o ad iv g A) (md_en (md_c0 A) x i w) (md_h G o ad iv g (md_c0 A)) := by
  refine qx_of (lo := [some (.ref o), some (.int (iI x)), some (.int (iI i)), some (.int (iI w)), none]) (by decide) (fun w hw => List.mem_cons_of_mem _ hw) rfl (Nat.le_of_ble_eq_true rfl) rfl ?_
  intro X C
  refine qx_aload_n C d_D_entry_0 rfl rfl ?_
  refine qx_iconst C d_D_entry_1 (v := iI (0)) rfl ?_
  refine mx_pi C I d_D_entry_2 fp_D_92 (by decide) ?_
  refine qx_iload_n C d_D_entry_5 rfl rfl ?_
  rw [show md_u A 0 0 0 = md_c0 A from rfl]
  refine nx_call0 C s_D_entry_6 (m_isServer l G b (md_h G o ad iv g (md_c0 A)) hx d) w_D_isServer rfl rfl (Nat.le_of_ble_eq_true rfl) (by omega) (by decide) ?_
  by_cases h5 : 0 ≤ x ∧ x < 5
  · rw [if_pos h5]
    have hB := ht h5.1 h5.2
    have hc : md_cell (md_c0 A) x i = -1 ∨ (0 ≤ md_cell (md_c0 A) x i ∧ md_cell (md_c0 A) x i < 240) := by
      unfold md_cell md_last
      split <;> omega
    refine nx_if_eq C 21 d_D_entry_9 (by decide) (by omega) (fun q1 => ?_) (fun q1 => ?_)
    · exact absurd q1 (by decide)
    · refine qx_aload_n C d_D_entry_12 rfl rfl ?_
      refine qx_iload_n C d_D_entry_13 rfl rfl ?_
      refine qx_iload_n C d_D_entry_14 rfl rfl ?_
      refine nx_call0 C (s_D_entry_15 md_o) (m_cell l G b I g hB hi d) w_D_cell rfl rfl (Nat.le_of_ble_eq_true rfl) (by omega) (by decide) ?_
      refine qx_goto C d_D_entry_18 (tgt := 22) (by decide) ?_
      refine nx_istore C d_D_entry_22 (Nat.le_of_ble_eq_true rfl) (lo' := [_, _, _, _, some (.int _)]) rfl ?_
      refine qx_iload C d_D_entry_24 rfl ?_
      refine nx_if_ge C 31 d_D_entry_26 (by decide) (by omega) (fun q2 => ?_) (fun q2 => ?_)
      · have hv5 : ¬ ¬ ((0 ≤ x ∧ x < 5) ∧ 0 ≤ md_cell (md_c0 A) x i) := fun z => z ⟨h5, q2⟩
        refine qx_iload_n C d_D_entry_31 rfl rfl ?_
        by_cases hin : 0 ≤ w ∧ w ≤ 3
        · have hcs : w = 0 ∨ w = 1 ∨ w = 2 ∨ w = 3 := by omega
          rcases hcs with rfl | rfl | rfl | rfl
          · refine qx_tabIn C d_D_entry_32 (off := 32) (tgt := 64) (by decide) (by decide) (by decide) (by decide) ?_
            refine qx_aload_n C d_D_entry_64 rfl rfl ?_
            refine mx_gi C d_D_entry_65 fl_D_35 rfl ?_
            refine qx_iload C d_D_entry_68 rfl ?_
            refine mx_ia C I 9 240 d_D_entry_70 (by unfold md_a; omega) rfl rfl (by omega) (by omega) ?_
            refine qx_iret C d_D_entry_71 (Nat.zero_le _) (Nat.zero_le _) ⟨_, rfl, ?_, rfl⟩
            unfold md_en
            rw [if_neg hv5]; rfl
          · refine qx_tabIn C d_D_entry_32 (off := 40) (tgt := 72) (by decide) (by decide) (by decide) (by decide) ?_
            refine qx_aload_n C d_D_entry_72 rfl rfl ?_
            refine mx_gi C d_D_entry_73 fl_D_38 rfl ?_
            refine qx_iload C d_D_entry_76 rfl ?_
            refine mx_ia C I 10 240 d_D_entry_78 (by unfold md_a; omega) rfl rfl (by omega) (by omega) ?_
            refine qx_iret C d_D_entry_79 (Nat.zero_le _) (Nat.zero_le _) ⟨_, rfl, ?_, rfl⟩
            unfold md_en
            rw [if_neg hv5]; rfl
          · refine qx_tabIn C d_D_entry_32 (off := 48) (tgt := 80) (by decide) (by decide) (by decide) (by decide) ?_
            refine qx_aload_n C d_D_entry_80 rfl rfl ?_
            refine mx_gi C d_D_entry_81 fl_D_41 rfl ?_
            refine qx_iload C d_D_entry_84 rfl ?_
            refine mx_ia C I 11 240 d_D_entry_86 (by unfold md_a; omega) rfl rfl (by omega) (by omega) ?_
            refine qx_iret C d_D_entry_87 (Nat.zero_le _) (Nat.zero_le _) ⟨_, rfl, ?_, rfl⟩
            unfold md_en
            rw [if_neg hv5]; rfl
          · refine qx_tabIn C d_D_entry_32 (off := 56) (tgt := 88) (by decide) (by decide) (by decide) (by decide) ?_
            refine qx_aload_n C d_D_entry_88 rfl rfl ?_
            refine mx_gi C d_D_entry_89 fl_D_44 rfl ?_
            refine qx_iload C d_D_entry_92 rfl ?_
            refine mx_ia C I 12 240 d_D_entry_94 (by unfold md_a; omega) rfl rfl (by omega) (by omega) ?_
            refine qx_iret C d_D_entry_95 (Nat.zero_le _) (Nat.zero_le _) ⟨_, rfl, ?_, rfl⟩
            unfold md_en
            rw [if_neg hv5]; rfl
        · refine qx_tabOut C d_D_entry_32 (tgt := 96) (by rw [iI_toInt (by omega)]; omega) (by decide) ?_
          refine qx_iconst C d_D_entry_96 (v := iI (-1)) rfl ?_
          refine qx_iret C d_D_entry_97 (Nat.zero_le _) (Nat.zero_le _) ⟨_, rfl, ?_, rfl⟩
          unfold md_en
          rw [if_neg hv5, if_neg (by omega), if_neg (by omega), if_neg (by omega), if_neg (by omega)]
      · refine qx_iconst C d_D_entry_29 (v := iI (-1)) rfl ?_
        refine qx_iret C d_D_entry_30 (Nat.zero_le _) (Nat.zero_le _) ⟨_, rfl, ?_, rfl⟩
        unfold md_en
        rw [if_pos (by omega)]
  · rw [if_neg h5]
    refine nx_if_eq C 21 d_D_entry_9 (by decide) (by omega) (fun q1 => ?_) (fun q1 => ?_)
    · refine qx_iconst C d_D_entry_21 (v := iI (-1)) rfl ?_
      refine nx_istore C d_D_entry_22 (Nat.le_of_ble_eq_true rfl) (lo' := [_, _, _, _, some (.int _)]) rfl ?_
      refine qx_iload C d_D_entry_24 rfl ?_
      refine nx_if_ge C 31 d_D_entry_26 (by decide) (by omega) (fun q2 => ?_) (fun q2 => ?_)
      · exact absurd q2 (by decide)
      · refine qx_iconst C d_D_entry_29 (v := iI (-1)) rfl ?_
        refine qx_iret C d_D_entry_30 (Nat.zero_le _) (Nat.zero_le _) ⟨_, rfl, ?_, rfl⟩
        unfold md_en
        rw [if_pos (by omega)]
    · exact absurd rfl q1
def md_stored (A : md_A) (x key : Int) : Int := if (0 ≤ x ∧ x < 5) ∧ 0 ≤ key ∧ key < 4 then md_val A x key (md_gone A x) else 0
set_option maxRecDepth 100000 in
theorem m_stored (l : Launch) (G : qh_G) (b : Nat) {o : Nat} {ad : Nat → Nat} {iv : Nat → Option Nat} (I : md_I o ad iv) (g : qh_H) {A : md_A} {x key : Int} (hx : rng x) (hk : rng key) (hA : md_r (md_c0 A)) (ht : 0 ≤ x → x < 5 → md_B (md_c0 A) x ∧ md_c0 A 4 x ≤ md_c0 A 14 x ∧ md_c0 A 14 x ≤ md_last (md_c0 A) x) (d : Nat) : qj l y_D_stored c_D_stored 3 (some .int) (d + 3) 0 0 G b [.ref o, .int (iI x), .int (iI key)] (md_h G o ad iv g A) (md_stored (md_c0 A) x key) (md_h G o ad iv g (md_c0 A)) := by
  refine qx_of (lo := [some (.ref o), some (.int (iI x)), some (.int (iI key))]) (by decide) (fun w hw => List.mem_cons_of_mem _ hw) rfl (Nat.le_of_ble_eq_true rfl) rfl ?_
  intro X C
  refine qx_aload_n C d_D_stored_0 rfl rfl ?_
  refine qx_iconst C d_D_stored_1 (v := iI (0)) rfl ?_
  refine mx_pi C I d_D_stored_2 fp_D_92 (by decide) ?_
  refine qx_iload_n C d_D_stored_5 rfl rfl ?_
  rw [show md_u A 0 0 0 = md_c0 A from rfl]
  refine nx_call0 C s_D_stored_6 (m_isServer l G b (md_h G o ad iv g (md_c0 A)) hx d) w_D_isServer rfl rfl (Nat.le_of_ble_eq_true rfl) (by omega) (by decide) ?_
  by_cases h5 : 0 ≤ x ∧ x < 5
  · rw [if_pos h5]
    obtain ⟨hB, hc1, hc2⟩ := ht h5.1 h5.2
    have hl : md_last (md_c0 A) x = md_c0 A 4 x + md_c0 A 8 x := rfl
    have hgn : ((md_gone (md_c0 A) x : Nat) : Int) = md_c0 A 14 x - md_c0 A 4 x := by unfold md_gone; omega
    refine nx_if_eq C 34 d_D_stored_9 (by decide) (by omega) (fun q1 => ?_) (fun q1 => ?_)
    · exact absurd q1 (by decide)
    · refine qx_iload_n C d_D_stored_12 rfl rfl ?_
      refine nx_call0 C s_D_stored_13 (m_isKey l G b (md_h G o ad iv g (md_c0 A)) hk d) w_D_isKey rfl rfl (Nat.le_of_ble_eq_true rfl) (by omega) (by decide) ?_
      by_cases h4 : 0 ≤ key ∧ key < 4
      · rw [if_pos h4]
        refine nx_if_eq C 34 d_D_stored_16 (by decide) (by omega) (fun q2 => ?_) (fun q2 => ?_)
        · exact absurd q2 (by decide)
        · refine qx_aload_n C d_D_stored_19 rfl rfl ?_
          refine qx_iload_n C d_D_stored_20 rfl rfl ?_
          refine qx_iload_n C d_D_stored_21 rfl rfl ?_
          refine qx_aload_n C d_D_stored_22 rfl rfl ?_
          refine mx_gi C d_D_stored_23 fl_D_50 rfl ?_
          refine qx_iload_n C d_D_stored_26 rfl rfl ?_
          refine mx_ia C I 14 5 d_D_stored_27 (by unfold md_a; omega) rfl rfl (by omega) (by omega) ?_
          refine nx_call0 C (s_D_stored_28 md_o) (m_valueAt l G b I g hA hB h4 (t := md_gone (md_c0 A) x) (by omega) (by omega) d) w_D_valueAt rfl rfl (Nat.le_of_ble_eq_true rfl) (by omega) (by decide) ?_
          refine qx_goto C d_D_stored_31 (tgt := 35) (by decide) ?_
          refine qx_iret C d_D_stored_35 (Nat.zero_le _) (Nat.zero_le _) ⟨_, rfl, ?_, rfl⟩
          unfold md_stored
          rw [if_pos ⟨h5, h4⟩]
      · rw [if_neg h4]
        refine nx_if_eq C 34 d_D_stored_16 (by decide) (by omega) (fun q2 => ?_) (fun q2 => ?_)
        · refine qx_iconst C d_D_stored_34 (v := iI (0)) rfl ?_
          refine qx_iret C d_D_stored_35 (Nat.zero_le _) (Nat.zero_le _) ⟨_, rfl, ?_, rfl⟩
          unfold md_stored
          rw [if_neg (fun z => h4 z.2)]
        · exact absurd rfl q2
  · rw [if_neg h5]
    refine nx_if_eq C 34 d_D_stored_9 (by decide) (by omega) (fun q1 => ?_) (fun q1 => ?_)
    · refine qx_iconst C d_D_stored_34 (v := iI (0)) rfl ?_
      refine qx_iret C d_D_stored_35 (Nat.zero_le _) (Nat.zero_le _) ⟨_, rfl, ?_, rfl⟩
      unfold md_stored
      rw [if_neg (fun z => h5 z.1)]
    · exact absurd rfl q1
