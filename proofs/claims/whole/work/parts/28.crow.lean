/-! the class: messages, the row, the reads -/
/-- a message begun -/
def cm_b (I : md_A) (x : Nat) (kind fr to t : Int) : md_A := md_u (md_u (md_u (md_u (md_u (md_u (md_u (md_u (md_u (md_u I (100 + x) 1 kind) (100 + x) 2 fr) (100 + x) 3 to) (100 + x) 4 t) (100 + x) 5 0) (100 + x) 6 0) (100 + x) 7 0) (100 + x) 8 0) (100 + x) 9 0) (100 + x) 10 0
theorem cm_b_o {I : md_A} {x : Nat} {kind fr to t : Int} {j : Nat} (h : j ≠ 100 + x) : cm_b I x kind fr to t j = I j := by
  unfold cm_b
  rw [cl_uI _ _ _ h, cl_uI _ _ _ h, cl_uI _ _ _ h, cl_uI _ _ _ h, cl_uI _ _ _ h, cl_uI _ _ _ h, cl_uI _ _ _ h, cl_uI _ _ _ h, cl_uI _ _ _ h, cl_uI _ _ _ h]
set_option maxRecDepth 100000 in
theorem c_mbegin (l : Launch) (G : qh_G) (b : Nat) {ad : Nat → Nat} {iv : Nat → Option Nat} (J : cl_I ad iv) {g : qh_H} {I : md_A} {m : Nat → Nat} {E : cl_E} {N : Nat → Nat} {x : Nat} (hx : x < 50) {kind fr to t : Int} (d : Nat) : qv l y_M_begin c_M_begin 5 none d 0 0 G b [.ref (ad (100 + x)), .int (iI kind), .int (iI fr), .int (iI to), .int (iI t)] (ch G ad iv g I m E N) (ch G ad iv g (cm_b I x kind fr to t) m E N) := by
  refine qx_of (lo := [some (.ref (ad (100 + x))), some (.int (iI kind)), some (.int (iI fr)), some (.int (iI to)), some (.int (iI t))]) (by decide) (fun w hw => List.mem_cons_of_mem _ hw) rfl (Nat.le_of_ble_eq_true rfl) rfl ?_
  intro X C
  refine qx_aload_n C d_M_begin_0 rfl rfl ?_
  refine qx_iload_n C d_M_begin_1 rfl rfl ?_
  refine cx_pM C J hx d_M_begin_2 fp_M_21 (by decide) ?_
  refine qx_aload_n C d_M_begin_5 rfl rfl ?_
  refine qx_iload_n C d_M_begin_6 rfl rfl ?_
  refine cx_pM C J hx d_M_begin_7 fp_M_25 (by decide) ?_
  refine qx_aload_n C d_M_begin_10 rfl rfl ?_
  refine qx_iload_n C d_M_begin_11 rfl rfl ?_
  refine cx_pM C J hx d_M_begin_12 fp_M_28 (by decide) ?_
  refine qx_aload_n C d_M_begin_15 rfl rfl ?_
  refine qx_iload C d_M_begin_16 rfl ?_
  refine cx_pM C J hx d_M_begin_18 fp_M_31 (by decide) ?_
  refine qx_aload_n C d_M_begin_21 rfl rfl ?_
  refine qx_iconst C d_M_begin_22 (v := iI (0)) rfl ?_
  refine cx_pM C J hx d_M_begin_23 fp_M_34 (by decide) ?_
  refine qx_aload_n C d_M_begin_26 rfl rfl ?_
  refine qx_iconst C d_M_begin_27 (v := iI (0)) rfl ?_
  refine cx_pM C J hx d_M_begin_28 fp_M_37 (by decide) ?_
  refine qx_aload_n C d_M_begin_31 rfl rfl ?_
  refine qx_iconst C d_M_begin_32 (v := iI (0)) rfl ?_
  refine cx_pM C J hx d_M_begin_33 fp_M_40 (by decide) ?_
  refine qx_aload_n C d_M_begin_36 rfl rfl ?_
  refine qx_iconst C d_M_begin_37 (v := iI (0)) rfl ?_
  refine cx_pM C J hx d_M_begin_38 fp_M_43 (by decide) ?_
  refine qx_aload_n C d_M_begin_41 rfl rfl ?_
  refine qx_iconst C d_M_begin_42 (v := iI (0)) rfl ?_
  refine cx_pM C J hx d_M_begin_43 fp_M_46 (by decide) ?_
  refine qx_aload_n C d_M_begin_46 rfl rfl ?_
  refine qx_iconst C d_M_begin_47 (v := iI (0)) rfl ?_
  refine cx_pMz C J hx d_M_begin_48 fp_M_49 (by decide) (by omega) ?_
  exact qx_vret C d_M_begin_51 (Nat.zero_le _) (Nat.zero_le _) ⟨rfl, rfl⟩
/-- the row behind a message sent -/
def cm_s (I : md_A) (m : Nat → Nat) (kind fr to t : Int) : md_A := if I 2 2 < 48 then md_u (cm_b I (m (I 2 2).toNat) kind fr to t) 2 2 (I 2 2 + 1) else cm_b I (m (I 2 2).toNat) kind fr to t
set_option maxRecDepth 100000 in
theorem c_send (l : Launch) (G : qh_G) (b : Nat) {ad : Nat → Nat} {iv : Nat → Option Nat} (J : cl_I ad iv) {g : qh_H} {I : md_A} {m : Nat → Nat} {E : cl_E} {N : Nat → Nat} {x w : Nat} (hw : I 2 2 = w) (hw8 : w ≤ 48) (hmx : m w = x) (hx : x < 50) {kind fr to t : Int} (d : Nat) : qq l y_W_send c_W_send 6 (some (.object "QuorumLog$Message")) (d + 1) 0 0 G b [.ref (ad 2), .int (iI kind), .int (iI fr), .int (iI to), .int (iI t)] (ch G ad iv g I m E N) (some (ad (100 + x))) (ch G ad iv g (cm_s I m kind fr to t) m E N) := by
  have hI : cm_b I x kind fr to t 2 2 = w := by rw [cm_b_o (by omega)]; exact hw
  have e : cm_s I m kind fr to t = if (w : Int) < 48 then md_u (cm_b I x kind fr to t) 2 2 (w + 1) else cm_b I x kind fr to t := by
    unfold cm_s
    rw [hw, Int.toNat_natCast, hmx]
  rw [e]
  refine qx_of (lo := [some (.ref (ad 2)), some (.int (iI kind)), some (.int (iI fr)), some (.int (iI to)), some (.int (iI t)), none]) (by decide) (fun w hw => List.mem_cons_of_mem _ hw) rfl (Nat.le_of_ble_eq_true rfl) rfl ?_
  intro X C
  refine qx_aload_n C d_W_send_0 rfl rfl ?_
  refine qx_get C d_W_send_1 fl_W_11 (ch_W J) rfl ?_
  refine qx_aload_n C d_W_send_4 rfl rfl ?_
  refine qx_get C d_W_send_5 fl_W_24 (ch_W J) rfl ?_
  rw [hw]
  refine cx_pl C J d_W_send_8 rfl (by omega) ?_
  rw [hmx]
  refine nx_astore C d_W_send_9 (Nat.le_of_ble_eq_true rfl) (lo' := [_, _, _, _, _, some (.ref _)]) rfl ?_
  refine qx_aload C d_W_send_11 rfl ?_
  refine qx_iload_n C d_W_send_13 rfl rfl ?_
  refine qx_iload_n C d_W_send_14 rfl rfl ?_
  refine qx_iload_n C d_W_send_15 rfl rfl ?_
  refine qx_iload C d_W_send_16 rfl ?_
  refine nx_callv C (s_W_send_18 (ch_M J hx)) (c_mbegin l G b J hx d) w_M_begin rfl rfl (Nat.le_of_ble_eq_true rfl) (by omega) (by decide) ?_
  refine qx_aload_n C d_W_send_21 rfl rfl ?_
  refine qx_get C d_W_send_22 fl_W_24 (ch_W J) rfl ?_
  rw [hI]
  refine qx_bipush C d_W_send_25 (v := iI (48)) (by decide) ?_
  refine nx_icmp_ge C 40 d_W_send_27 (by decide) (by omega) (by omega) (fun z1 => ?_) (fun z1 => ?_)
  · refine qx_aload C d_W_send_40 rfl ?_
    exact qx_aret C d_W_send_42 (Or.inr ⟨_, rfl⟩) (Nat.zero_le _) (Nat.zero_le _) ⟨some (ad (100 + x)), rfl, rfl, by rw [if_neg (by omega)]⟩
  · refine qx_aload_n C d_W_send_30 rfl rfl ?_
    refine qx_dup C d_W_send_31 rfl ?_
    refine qx_get C d_W_send_32 fl_W_24 (ch_W J) rfl ?_
    rw [hI]
    refine qx_iconst C d_W_send_35 (v := iI (1)) rfl ?_
    refine nx_iadd C d_W_send_36 ?_
    refine cx_pW C J d_W_send_37 fp_W_24 ?_
    refine qx_aload C d_W_send_40 rfl ?_
    exact qx_aret C d_W_send_42 (Or.inr ⟨_, rfl⟩) (Nat.zero_le _) (Nat.zero_le _) ⟨some (ad (100 + x)), rfl, rfl, by rw [if_pos (by omega)]⟩
theorem c_wholds (l : Launch) (G : qh_G) (b : Nat) {ad : Nat → Nat} {iv : Nat → Option Nat} (J : cl_I ad iv) {g : qh_H} {I : md_A} {m : Nat → Nat} {E : cl_E} {N : Nat → Nat} {w : Int} (hw : I 2 2 = w) (hr : rng w) {k : Int} (hk : rng k) (d : Nat) : qj l y_W_holds c_W_holds 2 (some .boolean) d 0 0 G b [.ref (ad 2), .int (iI k)] (ch G ad iv g I m E N) (if 0 ≤ k ∧ k < w then 1 else 0) (ch G ad iv g I m E N) := by
  refine qx_of (lo := [some (.ref (ad 2)), some (.int (iI k))]) (by decide) (fun w hw => List.mem_cons_of_mem _ hw) rfl (Nat.le_of_ble_eq_true rfl) rfl ?_
  intro X C
  refine qx_iload_n C d_W_holds_0 rfl rfl ?_
  refine nx_if_lt C 16 d_W_holds_1 (by decide) (by omega) (fun z1 => ?_) (fun z1 => ?_)
  · refine qx_iconst C d_W_holds_16 (v := iI (0)) rfl ?_
    refine qx_zret C d_W_holds_17 (by decide) (Nat.zero_le _) (Nat.zero_le _) ⟨_, rfl, ?_, rfl⟩
    rw [if_neg (by omega)]
  · refine qx_iload_n C d_W_holds_4 rfl rfl ?_
    refine qx_aload_n C d_W_holds_5 rfl rfl ?_
    refine qx_get C d_W_holds_6 fl_W_24 (ch_W J) rfl ?_
    rw [hw]
    refine nx_icmp_ge C 16 d_W_holds_9 (by decide) (by omega) (by omega) (fun z2 => ?_) (fun z2 => ?_)
    · refine qx_iconst C d_W_holds_16 (v := iI (0)) rfl ?_
      refine qx_zret C d_W_holds_17 (by decide) (Nat.zero_le _) (Nat.zero_le _) ⟨_, rfl, ?_, rfl⟩
      rw [if_neg (by omega)]
    · refine qx_iconst C d_W_holds_12 (v := iI (1)) rfl ?_
      refine qx_goto C d_W_holds_13 (tgt := 17) (by decide) ?_
      refine qx_zret C d_W_holds_17 (by decide) (Nat.zero_le _) (Nat.zero_le _) ⟨_, rfl, ?_, rfl⟩
      rw [if_pos (by omega)]
def cm_l (m : Nat → Nat) (k p : Nat) : Nat → Nat := fun i => if i = 49 then m k else if k ≤ i ∧ i < p then m (i + 1) else m i
def cm_t (m : Nat → Nat) (k w : Nat) : Nat → Nat := va_up (cm_l m k (w - 1)) (w - 1) (m 49)
theorem cm_l_0 (m : Nat → Nat) (k : Nat) : va_up m 49 (m k) = cm_l m k k := by
  funext i
  unfold va_up cm_l
  by_cases h : i = 49
  · rw [if_pos h, if_pos h]
  · rw [if_neg h, if_neg h, if_neg (by omega)]
theorem cm_l_s {m : Nat → Nat} {k p : Nat} (hk : k ≤ p) (hp : p < 49) : va_up (cm_l m k p) p (m (p + 1)) = cm_l m k (p + 1) := by
  funext i
  unfold va_up cm_l
  by_cases h : i = p
  · rw [if_pos h, if_neg (by omega), if_pos (by omega), h]
  · rw [if_neg h]
    by_cases h9 : i = 49
    · rw [if_pos h9, if_pos h9]
    · rw [if_neg h9, if_neg h9]
      by_cases h1 : k ≤ i ∧ i < p
      · rw [if_pos h1, if_pos (by omega)]
      · rw [if_neg h1, if_neg (by omega)]
set_option maxRecDepth 100000 in
theorem c_taken (l : Launch) (G : qh_G) (b : Nat) {ad : Nat → Nat} {iv : Nat → Option Nat} (J : cl_I ad iv) {g : qh_H} {I : md_A} {m : Nat → Nat} {E : cl_E} {N : Nat → Nat} {w k : Nat} (hw : I 2 2 = w) (hw8 : w ≤ 48) (hk : k < w) (hm : ∀ i, i < 50 → m i < 50) (d : Nat) : qq l y_W_take c_W_take 4 (some (.object "QuorumLog$Message")) d 0 0 G b [.ref (ad 2), .int (iI k)] (ch G ad iv g I m E N) (some (ad (100 + m k))) (ch G ad iv g (md_u I 2 2 (w - 1)) (cm_t m k w) E N) := by
  refine qx_of (lo := [some (.ref (ad 2)), some (.int (iI k)), none, none]) (by decide) (fun w hw => List.mem_cons_of_mem _ hw) rfl (Nat.le_of_ble_eq_true rfl) rfl ?_
  intro X C
  have Lp : ∀ (f p : Nat), p + f = w - 1 → k ≤ p → X 27 [some (.ref (ad 2)), some (.int (iI k)), some (.ref (ad (100 + m 49))), some (.int (iI p))] [] (ch G ad iv g (md_u I 2 2 (w - 1)) (cm_l m k p) E N) 0 0 := by
    intro f
    induction f with
    | zero =>
      intro p hp hkp
      refine qx_iload_n C d_W_take_27 rfl rfl ?_
      refine qx_aload_n C d_W_take_28 rfl rfl ?_
      refine qx_get C d_W_take_29 fl_W_24 (ch_W J) rfl ?_
      rw [md_us]
      refine nx_icmp_ge C 55 d_W_take_32 (by decide) (by omega) (by omega) (fun z1 => ?_) (fun z1 => ?_)
      · refine qx_aload_n C d_W_take_55 rfl rfl ?_
        refine qx_get C d_W_take_56 fl_W_11 (ch_W J) rfl ?_
        refine qx_aload_n C d_W_take_59 rfl rfl ?_
        refine qx_get C d_W_take_60 fl_W_24 (ch_W J) rfl ?_
        rw [md_us]
        refine qx_aload_n C d_W_take_63 rfl rfl ?_
        refine cx_sp C J (hm 49 (by omega)) d_W_take_64 (p := w - 1) (by omega) (by omega) ?_
        have e : va_up (cm_l m k p) (w - 1) (m 49) = cm_t m k w := by unfold cm_t; rw [show p = w - 1 by omega]
        rw [e]
        refine qx_aload_n C d_W_take_65 rfl rfl ?_
        refine qx_get C d_W_take_66 fl_W_20 (ch_W J) rfl ?_
        have e2 : cm_t m k w 49 = m k := by unfold cm_t va_up cm_l; rw [if_neg (by omega), if_pos rfl]
        rw [e2]
        exact qx_aret C d_W_take_69 (Or.inr ⟨_, rfl⟩) (Nat.zero_le _) (Nat.zero_le _) ⟨some (ad (100 + m k)), rfl, rfl, rfl⟩
      · exact absurd z1 (by omega)
    | succ f ih =>
      intro p hp hkp
      refine qx_iload_n C d_W_take_27 rfl rfl ?_
      refine qx_aload_n C d_W_take_28 rfl rfl ?_
      refine qx_get C d_W_take_29 fl_W_24 (ch_W J) rfl ?_
      rw [md_us]
      refine nx_icmp_ge C 55 d_W_take_32 (by decide) (by omega) (by omega) (fun z1 => ?_) (fun z1 => ?_)
      · exact absurd z1 (by omega)
      · refine qx_aload_n C d_W_take_35 rfl rfl ?_
        refine qx_get C d_W_take_36 fl_W_11 (ch_W J) rfl ?_
        refine qx_iload_n C d_W_take_39 rfl rfl ?_
        refine qx_aload_n C d_W_take_40 rfl rfl ?_
        refine qx_get C d_W_take_41 fl_W_11 (ch_W J) rfl ?_
        refine qx_iload_n C d_W_take_44 rfl rfl ?_
        refine qx_iconst C d_W_take_45 (v := iI (1)) rfl ?_
        refine nx_iadd C d_W_take_46 ?_
        refine cx_pl C J d_W_take_47 (x := p + 1) (by omega) (by omega) ?_
        have e : cm_l m k p (p + 1) = m (p + 1) := by unfold cm_l; rw [if_neg (by omega), if_neg (by omega)]
        rw [e]
        refine cx_sp C J (hm (p + 1) (by omega)) d_W_take_48 (p := p) rfl (by omega) ?_
        rw [cm_l_s hkp (by omega)]
        refine nx_iinc C d_W_take_49 rfl (lo' := [_, _, _, some (.int _)]) rfl ?_
        refine qx_goto C d_W_take_52 (tgt := 27) (by decide) ?_
        exact ih (p + 1) (by omega) (by omega)
  refine qx_aload_n C d_W_take_0 rfl rfl ?_
  refine qx_get C d_W_take_1 fl_W_20 (ch_W J) rfl ?_
  refine nx_astore_n C d_W_take_4 rfl (Nat.le_of_ble_eq_true rfl) (lo' := [_, _, some (.ref _), _]) rfl ?_
  refine qx_aload_n C d_W_take_5 rfl rfl ?_
  refine qx_aload_n C d_W_take_6 rfl rfl ?_
  refine qx_get C d_W_take_7 fl_W_11 (ch_W J) rfl ?_
  refine qx_iload_n C d_W_take_10 rfl rfl ?_
  refine cx_pl C J d_W_take_11 rfl (by omega) ?_
  refine cx_mt C J d_W_take_12 fp_W_20 ?_
  refine qx_aload_n C d_W_take_15 rfl rfl ?_
  refine qx_dup C d_W_take_16 rfl ?_
  refine qx_get C d_W_take_17 fl_W_24 (ch_W J) rfl ?_
  rw [hw]
  refine qx_iconst C d_W_take_20 (v := iI (1)) rfl ?_
  refine nx_isub C d_W_take_21 ?_
  refine cx_pW C J d_W_take_22 fp_W_24 ?_
  refine qx_iload_n C d_W_take_25 rfl rfl ?_
  refine nx_istore_n C d_W_take_26 rfl (Nat.le_of_ble_eq_true rfl) (lo' := [_, _, _, some (.int _)]) rfl ?_
  rw [cm_l_0]
  exact Lp (w - 1 - k) k (by omega) (Nat.le_refl _)
/-- the reads stand for A's -/
def cr_R (I A : md_A) : Prop := I 4 5 = A 21 0 ∧ ∀ i : Int, 0 ≤ i → i < 60 → I 5 i = A 22 i ∧ I 6 i = A 23 i ∧ I 7 i = A 24 i ∧ I 8 i = A 25 i ∧ I 9 i = A 26 i
theorem c_rholds (l : Launch) (G : qh_G) (b : Nat) {ad : Nat → Nat} {iv : Nat → Option Nat} (J : cl_I ad iv) {g : qh_H} {I : md_A} {m : Nat → Nat} {E : cl_E} {N : Nat → Nat} {w : Int} (hw : I 4 5 = w) (hr : rng w) {k : Int} (hk : rng k) (d : Nat) : qj l y_R_holds c_R_holds 2 (some .boolean) d 0 0 G b [.ref (ad 4), .int (iI k)] (ch G ad iv g I m E N) (if 0 ≤ k ∧ k < w then 1 else 0) (ch G ad iv g I m E N) := by
  refine qx_of (lo := [some (.ref (ad 4)), some (.int (iI k))]) (by decide) (fun w hw => List.mem_cons_of_mem _ hw) rfl (Nat.le_of_ble_eq_true rfl) rfl ?_
  intro X C
  refine qx_iload_n C d_R_holds_0 rfl rfl ?_
  refine nx_if_lt C 16 d_R_holds_1 (by decide) (by omega) (fun z1 => ?_) (fun z1 => ?_)
  · refine qx_iconst C d_R_holds_16 (v := iI (0)) rfl ?_
    refine qx_zret C d_R_holds_17 (by decide) (Nat.zero_le _) (Nat.zero_le _) ⟨_, rfl, ?_, rfl⟩
    rw [if_neg (by omega)]
  · refine qx_iload_n C d_R_holds_4 rfl rfl ?_
    refine qx_aload_n C d_R_holds_5 rfl rfl ?_
    refine qx_get C d_R_holds_6 fl_R_27 (ch_R J) rfl ?_
    rw [hw]
    refine nx_icmp_ge C 16 d_R_holds_9 (by decide) (by omega) (by omega) (fun z2 => ?_) (fun z2 => ?_)
    · refine qx_iconst C d_R_holds_16 (v := iI (0)) rfl ?_
      refine qx_zret C d_R_holds_17 (by decide) (Nat.zero_le _) (Nat.zero_le _) ⟨_, rfl, ?_, rfl⟩
      rw [if_neg (by omega)]
    · refine qx_iconst C d_R_holds_12 (v := iI (1)) rfl ?_
      refine qx_goto C d_R_holds_13 (tgt := 17) (by decide) ?_
      refine qx_zret C d_R_holds_17 (by decide) (Nat.zero_le _) (Nat.zero_le _) ⟨_, rfl, ?_, rfl⟩
      rw [if_pos (by omega)]
theorem c_isKept (l : Launch) (G : qh_G) (b : Nat) {ad : Nat → Nat} {iv : Nat → Option Nat} (J : cl_I ad iv) {g : qh_H} {I : md_A} {m : Nat → Nat} {E : cl_E} {N : Nat → Nat} {i s : Int} (hi : 0 ≤ i ∧ i < 60) (hs : rng s) {o f : Int} (ho : I 8 i = o) (hf : I 5 i = f) (h8 : rng o) (h5 : rng f) (d : Nat) : qj l y_R_isKeptBy c_R_isKeptBy 3 (some .boolean) d 0 0 G b [.ref (ad 4), .int (iI i), .int (iI s)] (ch G ad iv g I m E N) (if f = s ∧ o = 0 then 1 else 0) (ch G ad iv g I m E N) := by
  refine qx_of (lo := [some (.ref (ad 4)), some (.int (iI i)), some (.int (iI s))]) (by decide) (fun w hw => List.mem_cons_of_mem _ hw) rfl (Nat.le_of_ble_eq_true rfl) rfl ?_
  intro X C
  refine qx_aload_n C d_R_isKeptBy_0 rfl rfl ?_
  refine qx_get C d_R_isKeptBy_1 fl_R_21 (ch_R J) rfl ?_
  refine qx_iload_n C d_R_isKeptBy_4 rfl rfl ?_
  refine cx_ir C J d_R_isKeptBy_5 (by omega) (by omega) (by omega) ?_
  rw [ho]
  refine nx_if_ne C 23 d_R_isKeptBy_6 (by decide) (by omega) (fun z1 => ?_) (fun z1 => ?_)
  · refine qx_iconst C d_R_isKeptBy_23 (v := iI (0)) rfl ?_
    refine qx_zret C d_R_isKeptBy_24 (by decide) (Nat.zero_le _) (Nat.zero_le _) ⟨_, rfl, ?_, rfl⟩
    rw [if_neg (by omega)]
  · refine qx_aload_n C d_R_isKeptBy_9 rfl rfl ?_
    refine qx_get C d_R_isKeptBy_10 fl_R_9 (ch_R J) rfl ?_
    refine qx_iload_n C d_R_isKeptBy_13 rfl rfl ?_
    refine cx_ir C J d_R_isKeptBy_14 (by omega) (by omega) (by omega) ?_
    rw [hf]
    refine qx_iload_n C d_R_isKeptBy_15 rfl rfl ?_
    refine nx_icmp_ne C 23 d_R_isKeptBy_16 (by decide) (by omega) (by omega) (fun z2 => ?_) (fun z2 => ?_)
    · refine qx_iconst C d_R_isKeptBy_23 (v := iI (0)) rfl ?_
      refine qx_zret C d_R_isKeptBy_24 (by decide) (Nat.zero_le _) (Nat.zero_le _) ⟨_, rfl, ?_, rfl⟩
      rw [if_neg (by omega)]
    · refine qx_iconst C d_R_isKeptBy_19 (v := iI (1)) rfl ?_
      refine qx_goto C d_R_isKeptBy_20 (tgt := 24) (by decide) ?_
      refine qx_zret C d_R_isKeptBy_24 (by decide) (Nat.zero_le _) (Nat.zero_le _) ⟨_, rfl, ?_, rfl⟩
      rw [if_pos (by omega)]
set_option maxRecDepth 100000 in
theorem c_keptBy (l : Launch) (G : qh_G) (b : Nat) {ad : Nat → Nat} {iv : Nat → Option Nat} (J : cl_I ad iv) {g : qh_H} {I : md_A} {m : Nat → Nat} {E : cl_E} {N : Nat → Nat} {A : md_A} (hA : md_r A) (hR : cr_R I A) (hrd : 0 ≤ A 21 0 ∧ A 21 0 ≤ 60) {s : Int} (hs : rng s) (d : Nat) : qj l y_R_keptBy c_R_keptBy 4 (some .int) (d + 1) 0 0 G b [.ref (ad 4), .int (iI s)] (ch G ad iv g I m E N) (md_kept A s (A 21 0).toNat) (ch G ad iv g I m E N) := by
  refine qx_of (lo := [some (.ref (ad 4)), some (.int (iI s)), none, none]) (by decide) (fun w hw => List.mem_cons_of_mem _ hw) rfl (Nat.le_of_ble_eq_true rfl) rfl ?_
  intro X C
  have Lp : ∀ (f j : Nat), j + f = (A 21 0).toNat → X 4 [some (.ref (ad 4)), some (.int (iI s)), some (.int (iI (md_kept A s j))), some (.int (iI j))] [] (ch G ad iv g I m E N) 0 0 := by
    intro f
    induction f with
    | zero =>
      intro j hj
      refine qx_iload_n C d_R_keptBy_4 rfl rfl ?_
      refine qx_aload_n C d_R_keptBy_5 rfl rfl ?_
      refine qx_get C d_R_keptBy_6 fl_R_27 (ch_R J) rfl ?_
      rw [hR.1]
      refine nx_icmp_ge C 30 d_R_keptBy_9 (by decide) (by omega) (by omega) (fun z1 => ?_) (fun z1 => ?_)
      · refine qx_iload_n C d_R_keptBy_30 rfl rfl ?_
        refine qx_iret C d_R_keptBy_31 (Nat.zero_le _) (Nat.zero_le _) ⟨_, rfl, ?_, rfl⟩
        rw [show j = (A 21 0).toNat by omega]
      · exact absurd z1 (by omega)
    | succ f ih =>
      intro j hj
      refine qx_iload_n C d_R_keptBy_4 rfl rfl ?_
      refine qx_aload_n C d_R_keptBy_5 rfl rfl ?_
      refine qx_get C d_R_keptBy_6 fl_R_27 (ch_R J) rfl ?_
      rw [hR.1]
      refine nx_icmp_ge C 30 d_R_keptBy_9 (by decide) (by omega) (by omega) (fun z1 => ?_) (fun z1 => ?_)
      · exact absurd z1 (by omega)
      · refine qx_aload_n C d_R_keptBy_12 rfl rfl ?_
        refine qx_iload_n C d_R_keptBy_13 rfl rfl ?_
        refine qx_iload_n C d_R_keptBy_14 rfl rfl ?_
        refine nx_call0 C (s_R_keptBy_15 (ch_R J)) (c_isKept l G b J (by omega) hs (hR.2 j (by omega) (by omega)).2.2.2.1 (hR.2 j (by omega) (by omega)).1 (hA _ _) (hA _ _) d) w_R_isKeptBy rfl rfl (Nat.le_of_ble_eq_true rfl) (by omega) (by decide) ?_
        by_cases hc : A 22 j = s ∧ A 25 j = 0
        · rw [if_pos hc]
          refine nx_if_eq C 24 d_R_keptBy_18 (by decide) (by omega) (fun z2 => ?_) (fun z2 => ?_)
          · exact absurd z2 (by omega)
          · refine nx_iinc C d_R_keptBy_21 rfl (lo' := [_, _, some (.int _), _]) rfl ?_
            refine nx_iinc C d_R_keptBy_24 rfl (lo' := [_, _, _, some (.int _)]) rfl ?_
            refine qx_goto C d_R_keptBy_27 (tgt := 4) (by decide) ?_
            have e : md_kept A s (j + 1) = md_kept A s j + 1 := by rw [md_kept_s, if_pos hc]
            rw [← e]
            exact ih (j + 1) (by omega)
        · rw [if_neg hc]
          refine nx_if_eq C 24 d_R_keptBy_18 (by decide) (by omega) (fun z2 => ?_) (fun z2 => ?_)
          · refine nx_iinc C d_R_keptBy_24 rfl (lo' := [_, _, _, some (.int _)]) rfl ?_
            refine qx_goto C d_R_keptBy_27 (tgt := 4) (by decide) ?_
            have e : md_kept A s (j + 1) = md_kept A s j := by rw [md_kept_s, if_neg hc, Int.add_zero]
            rw [← e]
            exact ih (j + 1) (by omega)
          · exact absurd z2 (by omega)
  refine qx_iconst C d_R_keptBy_0 (v := iI (0)) rfl ?_
  refine nx_istore_n C d_R_keptBy_1 rfl (Nat.le_of_ble_eq_true rfl) (lo' := [_, _, some (.int _), _]) rfl ?_
  refine qx_iconst C d_R_keptBy_2 (v := iI (0)) rfl ?_
  refine nx_istore_n C d_R_keptBy_3 rfl (Nat.le_of_ble_eq_true rfl) (lo' := [_, _, _, some (.int _)]) rfl ?_
  exact Lp (A 21 0).toNat 0 (by omega)
set_option maxRecDepth 100000 in
theorem c_keep (l : Launch) (G : qh_G) (b : Nat) {ad : Nat → Nat} {iv : Nat → Option Nat} (J : cl_I ad iv) {g : qh_H} {I : md_A} {m : Nat → Nat} {E : cl_E} {N : Nat → Nat} {n : Int} (hn : I 4 5 = n) (hn6 : 0 ≤ n ∧ n < 60) {s key r : Int} (d : Nat) : qj l y_R_keep c_R_keep 5 (some .int) d 0 0 G b [.ref (ad 4), .int (iI s), .int (iI key), .int (iI r)] (ch G ad iv g I m E N) n (ch G ad iv g (md_u (md_u (md_u (md_u I 5 n s) 6 n key) 7 n r) 4 5 (n + 1)) m E N) := by
  refine qx_of (lo := [some (.ref (ad 4)), some (.int (iI s)), some (.int (iI key)), some (.int (iI r)), none]) (by decide) (fun w hw => List.mem_cons_of_mem _ hw) rfl (Nat.le_of_ble_eq_true rfl) rfl ?_
  intro X C
  refine qx_aload_n C d_R_keep_0 rfl rfl ?_
  refine qx_get C d_R_keep_1 fl_R_27 (ch_R J) rfl ?_
  rw [hn]
  refine nx_istore C d_R_keep_4 (Nat.le_of_ble_eq_true rfl) (lo' := [_, _, _, _, some (.int _)]) rfl ?_
  refine qx_iload C d_R_keep_6 rfl ?_
  refine qx_bipush C d_R_keep_8 (v := iI (60)) (by decide) ?_
  refine nx_icmp_ge C 47 d_R_keep_10 (by decide) (by omega) (by omega) (fun z1 => ?_) (fun z1 => ?_)
  · exact absurd z1 (by omega)
  · refine qx_aload_n C d_R_keep_13 rfl rfl ?_
    refine qx_get C d_R_keep_14 fl_R_9 (ch_R J) rfl ?_
    refine qx_iload C d_R_keep_17 rfl ?_
    refine qx_iload_n C d_R_keep_19 rfl rfl ?_
    refine cx_ist C J d_R_keep_20 (by omega) (by omega) (by omega) ?_
    refine qx_aload_n C d_R_keep_21 rfl rfl ?_
    refine qx_get C d_R_keep_22 fl_R_15 (ch_R J) rfl ?_
    refine qx_iload C d_R_keep_25 rfl ?_
    refine qx_iload_n C d_R_keep_27 rfl rfl ?_
    refine cx_ist C J d_R_keep_28 (by omega) (by omega) (by omega) ?_
    refine qx_aload_n C d_R_keep_29 rfl rfl ?_
    refine qx_get C d_R_keep_30 fl_R_18 (ch_R J) rfl ?_
    refine qx_iload C d_R_keep_33 rfl ?_
    refine qx_iload_n C d_R_keep_35 rfl rfl ?_
    refine cx_ist C J d_R_keep_36 (by omega) (by omega) (by omega) ?_
    refine qx_aload_n C d_R_keep_37 rfl rfl ?_
    refine qx_dup C d_R_keep_38 rfl ?_
    refine qx_get C d_R_keep_39 fl_R_27 (ch_R J) rfl ?_
    rw [md_uk (by decide), md_uk (by decide), md_uk (by decide), hn]
    refine qx_iconst C d_R_keep_42 (v := iI (1)) rfl ?_
    refine nx_iadd C d_R_keep_43 ?_
    refine cx_pR C J d_R_keep_44 fp_R_27 ?_
    refine qx_iload C d_R_keep_47 rfl ?_
    refine qx_iret C d_R_keep_49 (Nat.zero_le _) (Nat.zero_le _) ⟨_, rfl, ?_, rfl⟩
    rfl
set_option maxRecDepth 100000 in
theorem c_failAll (l : Launch) (G : qh_G) (b : Nat) {ad : Nat → Nat} {iv : Nat → Option Nat} (J : cl_I ad iv) {g : qh_H} {I : md_A} {m : Nat → Nat} {E : cl_E} {N : Nat → Nat} {n : Nat} (hn : I 4 5 = n) (hn6 : n ≤ 60) (hI : ∀ i : Int, 0 ≤ i → i < 60 → rng (I 5 i) ∧ rng (I 8 i)) {s : Int} (hs : rng s) (d : Nat) : qv l y_R_failAllOf c_R_failAllOf 3 none (d + 1) 0 0 G b [.ref (ad 4), .int (iI s)] (ch G ad iv g I m E N) (ch G ad iv g (md_w I 8 0 n (fun x => if I 5 x = s ∧ I 8 x = 0 then 2 else I 8 x)) m E N) := by
  refine qx_of (lo := [some (.ref (ad 4)), some (.int (iI s)), none]) (by decide) (fun w hw => List.mem_cons_of_mem _ hw) rfl (Nat.le_of_ble_eq_true rfl) rfl ?_
  intro X C
  have Lp : ∀ (f j : Nat), j + f = n → X 2 [some (.ref (ad 4)), some (.int (iI s)), some (.int (iI j))] [] (ch G ad iv g (md_w I 8 0 j (fun x => if I 5 x = s ∧ I 8 x = 0 then 2 else I 8 x)) m E N) 0 0 := by
    intro f
    induction f with
    | zero =>
      intro j hj
      refine qx_iload_n C d_R_failAllOf_2 rfl rfl ?_
      refine qx_aload_n C d_R_failAllOf_3 rfl rfl ?_
      refine qx_get C d_R_failAllOf_4 fl_R_27 (ch_R J) rfl ?_
      rw [md_wk (by decide), hn]
      refine nx_icmp_ge C 32 d_R_failAllOf_7 (by decide) (by omega) (by omega) (fun z1 => ?_) (fun z1 => ?_)
      · rw [show j = n by omega]
        exact qx_vret C d_R_failAllOf_32 (Nat.zero_le _) (Nat.zero_le _) ⟨rfl, rfl⟩
      · exact absurd z1 (by omega)
    | succ f ih =>
      intro j hj
      have h58 := hI j (by omega) (by omega)
      refine qx_iload_n C d_R_failAllOf_2 rfl rfl ?_
      refine qx_aload_n C d_R_failAllOf_3 rfl rfl ?_
      refine qx_get C d_R_failAllOf_4 fl_R_27 (ch_R J) rfl ?_
      rw [md_wk (by decide), hn]
      refine nx_icmp_ge C 32 d_R_failAllOf_7 (by decide) (by omega) (by omega) (fun z1 => ?_) (fun z1 => ?_)
      · exact absurd z1 (by omega)
      · refine qx_aload_n C d_R_failAllOf_10 rfl rfl ?_
        refine qx_iload_n C d_R_failAllOf_11 rfl rfl ?_
        refine qx_iload_n C d_R_failAllOf_12 rfl rfl ?_
        refine nx_call0 C (s_R_failAllOf_13 (ch_R J)) (c_isKept l G b J (by omega) hs (md_wo (Or.inr (Int.le_refl _))) (md_wk (by decide)) h58.2 h58.1 d) w_R_isKeptBy rfl rfl (Nat.le_of_ble_eq_true rfl) (by omega) (by decide) ?_
        by_cases hc : I 5 j = s ∧ I 8 j = 0
        · rw [if_pos hc]
          refine nx_if_eq C 26 d_R_failAllOf_16 (by decide) (by omega) (fun z2 => ?_) (fun z2 => ?_)
          · exact absurd z2 (by omega)
          · refine qx_aload_n C d_R_failAllOf_19 rfl rfl ?_
            refine qx_get C d_R_failAllOf_20 fl_R_21 (ch_R J) rfl ?_
            refine qx_iload_n C d_R_failAllOf_23 rfl rfl ?_
            refine qx_iconst C d_R_failAllOf_24 (v := iI (2)) rfl ?_
            refine cx_ist C J d_R_failAllOf_25 (by omega) (by omega) (by omega) ?_
            refine nx_iinc C d_R_failAllOf_26 rfl (lo' := [_, _, some (.int _)]) rfl ?_
            refine qx_goto C d_R_failAllOf_29 (tgt := 2) (by decide) ?_
            rw [md_w_s I 8 (fun x => if I 5 x = s ∧ I 8 x = 0 then 2 else I 8 x) (by omega) (if_pos hc).symm]
            exact ih (j + 1) (by omega)
        · rw [if_neg hc]
          refine nx_if_eq C 26 d_R_failAllOf_16 (by decide) (by omega) (fun z2 => ?_) (fun z2 => ?_)
          · refine nx_iinc C d_R_failAllOf_26 rfl (lo' := [_, _, some (.int _)]) rfl ?_
            refine qx_goto C d_R_failAllOf_29 (tgt := 2) (by decide) ?_
            have := ih (j + 1) (by omega)
            rw [show (((j + 1 : Nat)) : Int) = (j : Int) + 1 by omega, md_w_k I 8 (fun x => if I 5 x = s ∧ I 8 x = 0 then 2 else I 8 x) (if_neg hc)] at this
            exact this
          · exact absurd z2 (by omega)
  refine qx_iconst C d_R_failAllOf_0 (v := iI (0)) rfl ?_
  refine nx_istore_n C d_R_failAllOf_1 rfl (Nat.le_of_ble_eq_true rfl) (lo' := [_, _, some (.int _)]) rfl ?_
  have := Lp n 0 (by omega)
  rw [show (((0 : Nat)) : Int) = 0 from rfl, md_w_0] at this
  exact this
