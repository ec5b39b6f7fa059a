/-! the class: numbers, servers, rows, reads -/
section CI
variable {l : Launch} {G : qh_G} {b : Nat} {own nm : String} {cc : ByteArray} {nL : Nat} {ret : Option FieldType} {tb : List (Nat × Nat × Nat × Nat)} {R : Room} {post : Outcome → qh_H → Prop} {X : qw_T} {pc : Nat} {lo : List (Option Value)} {st : List Value} {h : qh_H} {k n : Nat}
theorem qx_iushr (C : qw_C l G b own nm cc nL ret tb R post X) {x y : Int32} (hd : decode cc pc = .ok (.iushr, 1)) (kk : X (pc + 1) lo (.int ((x.toUInt32 >>> (y.toUInt32 &&& Int32.toUInt32 31)).toInt32) :: st) h k n) : X pc lo (.int y :: .int x :: st) h k n := by
  obtain ⟨p, e, s, m, args, below, meth, c, rfl, hx, hb, hml, htb, hown, hts, hK, hlk, hr, hnm, hbs⟩ := C
  intro H locs ls hR hS hL
  exact lv_iushr hx hb hd rfl (kk H locs ls hR hS hL)
theorem qx_ldcw (C : qw_C l G b own nm cc nL ret tb R post X) {index : Nat} {v : Int32} (hd : decode cc pc = .ok (.ldc_w index, 3)) (hw : Cond.constant own index v ∈ qu_W) (kk : X (pc + 3) lo (.int v :: st) h k n) : X pc lo st h k n := by
  obtain ⟨p, e, s, m, args, below, meth, c, rfl, hx, hb, hml, htb, hown, hts, hK, hlk, hr, hnm, hbs⟩ := C
  intro H locs ls hR hS hL
  exact lv_ldcw hx hb hown (hts _ hw) hd (kk H locs ls hR hS hL)
end CI
theorem kw_1 : Cond.constant "java/lang/Integer" 265 1431655765 ∈ qu_W := qu_in 315 (by decide +kernel) (by decide +kernel)
theorem kw_2 : Cond.constant "java/lang/Integer" 266 858993459 ∈ qu_W := qu_in 316 (by decide +kernel) (by decide +kernel)
theorem kw_3 : Cond.constant "java/lang/Integer" 267 252645135 ∈ qu_W := qu_in 317 (by decide +kernel) (by decide +kernel)
def bc_u (x y : Int32) : Int32 := (x.toUInt32 >>> (y.toUInt32 &&& Int32.toUInt32 31)).toInt32
def bc_1 (x : Int32) : Int32 := x - (bc_u x (iI 1) &&& 1431655765)
def bc_2 (x : Int32) : Int32 := (x &&& 858993459) + (bc_u x (iI 2) &&& 858993459)
def bc_3 (x : Int32) : Int32 := (x + bc_u x (iI 4)) &&& 252645135
def bc_4 (x : Int32) : Int32 := x + bc_u x (iI 8)
def bc_5 (x : Int32) : Int32 := x + bc_u x (iI 16)
theorem bz_cnt : ∀ c, c < 32 → (bc_5 (bc_4 (bc_3 (bc_2 (bc_1 (iI (c : Nat)))))) &&& iI 63) = iI (md_cnt c) := by decide +kernel
theorem c_bits (l : Launch) (G : qh_G) (b : Nat) (h : qh_H) {c : Int} (hc : set5 c) (d : Nat) : qj l y_I_bitCount c_I_bitCount 1 (some .int) d 0 0 G b [.int (iI c)] h (md_cnt c) h := by
  refine qx_of (lo := [some (.int (iI c))]) (by decide) (fun w hw => List.mem_cons_of_mem _ hw) rfl (Nat.le_of_ble_eq_true rfl) rfl ?_
  intro X C
  refine qx_iload_n C d_I_bitCount_0 rfl rfl ?_
  refine qx_iload_n C d_I_bitCount_1 rfl rfl ?_
  refine qx_iconst C d_I_bitCount_2 (v := iI (1)) rfl ?_
  refine qx_iushr C d_I_bitCount_3 ?_
  refine qx_ldcw C d_I_bitCount_4 kw_1 ?_
  refine qx_iand C d_I_bitCount_7 ?_
  refine qx_isub C d_I_bitCount_8 ?_
  refine nx_istore_n C d_I_bitCount_9 rfl (Nat.le_of_ble_eq_true rfl) (lo' := [some (.int _)]) rfl ?_
  refine qx_iload_n C d_I_bitCount_10 rfl rfl ?_
  refine qx_ldcw C d_I_bitCount_11 kw_2 ?_
  refine qx_iand C d_I_bitCount_14 ?_
  refine qx_iload_n C d_I_bitCount_15 rfl rfl ?_
  refine qx_iconst C d_I_bitCount_16 (v := iI (2)) rfl ?_
  refine qx_iushr C d_I_bitCount_17 ?_
  refine qx_ldcw C d_I_bitCount_18 kw_2 ?_
  refine qx_iand C d_I_bitCount_21 ?_
  refine qx_iadd C d_I_bitCount_22 ?_
  refine nx_istore_n C d_I_bitCount_23 rfl (Nat.le_of_ble_eq_true rfl) (lo' := [some (.int _)]) rfl ?_
  refine qx_iload_n C d_I_bitCount_24 rfl rfl ?_
  refine qx_iload_n C d_I_bitCount_25 rfl rfl ?_
  refine qx_iconst C d_I_bitCount_26 (v := iI (4)) rfl ?_
  refine qx_iushr C d_I_bitCount_27 ?_
  refine qx_iadd C d_I_bitCount_28 ?_
  refine qx_ldcw C d_I_bitCount_29 kw_3 ?_
  refine qx_iand C d_I_bitCount_32 ?_
  refine nx_istore_n C d_I_bitCount_33 rfl (Nat.le_of_ble_eq_true rfl) (lo' := [some (.int _)]) rfl ?_
  refine qx_iload_n C d_I_bitCount_34 rfl rfl ?_
  refine qx_iload_n C d_I_bitCount_35 rfl rfl ?_
  refine qx_bipush C d_I_bitCount_36 (v := iI (8)) (by decide) ?_
  refine qx_iushr C d_I_bitCount_38 ?_
  refine qx_iadd C d_I_bitCount_39 ?_
  refine nx_istore_n C d_I_bitCount_40 rfl (Nat.le_of_ble_eq_true rfl) (lo' := [some (.int _)]) rfl ?_
  refine qx_iload_n C d_I_bitCount_41 rfl rfl ?_
  refine qx_iload_n C d_I_bitCount_42 rfl rfl ?_
  refine qx_bipush C d_I_bitCount_43 (v := iI (16)) (by decide) ?_
  refine qx_iushr C d_I_bitCount_45 ?_
  refine qx_iadd C d_I_bitCount_46 ?_
  refine nx_istore_n C d_I_bitCount_47 rfl (Nat.le_of_ble_eq_true rfl) (lo' := [some (.int _)]) rfl ?_
  refine qx_iload_n C d_I_bitCount_48 rfl rfl ?_
  refine qx_bipush C d_I_bitCount_49 (v := iI (63)) (by decide) ?_
  refine qx_iand C d_I_bitCount_51 ?_
  refine qx_iret C d_I_bitCount_52 (Nat.zero_le _) (Nat.zero_le _) ⟨_, rfl, ?_, rfl⟩
  obtain ⟨n, hn, rfl⟩ := set5_ex hc
  exact bz_cnt n hn
section CI2
variable {l : Launch} {G : qh_G} {b : Nat} {own nm : String} {cc : ByteArray} {nL : Nat} {ret : Option FieldType} {tb : List (Nat × Nat × Nat × Nat)} {post : Outcome → qh_H → Prop} {X : qw_T} {pc : Nat} {lo : List (Option Value)} {st : List Value} {h : qh_H} {k n d mc ms : Nat}
theorem nx_max (C : qw_C l G b own nm cc nL ret tb (qr (d + 1) mc ms) post X) {index : Nat} {a c : Int} (hd : decode cc pc = .ok (.invokestatic index, 3)) (hw : Cond.methodLink own index y_H_max ∈ qu_W) (hll : lo.length = nL) (hro : (st.map fun v => v.category).sum ≤ 8) (hk : k ≤ mc ∧ n ≤ ms) (ha : rng a) (hc : rng c) (kk : X (pc + 3) lo (.int (iI (md_max a c)) :: st) h k n) : X pc lo (.int (iI c) :: .int (iI a) :: st) h k n := by
  have e : (if iI a < iI c then iI c else iI a) = iI (md_max a c) := by
    unfold md_max
    by_cases h1 : a < c
    · rw [if_pos ((iI_lt ha hc).2 h1), if_neg (by omega)]
    · rw [if_neg (fun z => h1 ((iI_lt ha hc).1 z))]
      by_cases h2 : c < a
      · rw [if_pos h2]
      · rw [if_neg h2, show a = c by omega]
  rw [← e] at kk
  obtain ⟨p, e, s, m, args, below, meth, c, rfl, hx, hb, hml, htb, hown, hts, hK, hlk, hr, hnm, hbs⟩ := C
  intro H locs ls hR hS hL
  exact va_mmax hx hb (by rw [hml, ← hll]; exact hL.1.symm) hown (hts _ hw) (hts _ qm_498) (hts _ qm_17) (hts _ qm_499) (by show 1 ≤ d + 1; omega) (by show _ + 13 ≤ 32 * (d + 1); omega) hk.1 hk.2 hd (kk H locs ls hR hS hL)
theorem nx_min (C : qw_C l G b own nm cc nL ret tb (qr (d + 1) mc ms) post X) {index : Nat} {a c : Int} (hd : decode cc pc = .ok (.invokestatic index, 3)) (hw : Cond.methodLink own index y_H_min ∈ qu_W) (hll : lo.length = nL) (hro : (st.map fun v => v.category).sum ≤ 8) (hk : k ≤ mc ∧ n ≤ ms) (ha : rng a) (hc : rng c) (kk : X (pc + 3) lo (.int (iI (md_min a c)) :: st) h k n) : X pc lo (.int (iI c) :: .int (iI a) :: st) h k n := by
  have e : (if iI c < iI a then iI c else iI a) = iI (md_min a c) := by
    unfold md_min
    by_cases h1 : c < a
    · rw [if_pos ((iI_lt hc ha).2 h1), if_neg (by omega)]
    · rw [if_neg (fun z => h1 ((iI_lt hc ha).1 z))]
      by_cases h2 : a < c
      · rw [if_pos h2]
      · rw [if_neg h2, show a = c by omega]
  rw [← e] at kk
  obtain ⟨p, e, s, m, args, below, meth, c, rfl, hx, hb, hml, htb, hown, hts, hK, hlk, hr, hnm, hbs⟩ := C
  intro H locs ls hR hS hL
  exact va_mmin hx hb (by rw [hml, ← hll]; exact hL.1.symm) hown (hts _ hw) (hts _ qm_495) (hts _ qm_17) (hts _ qm_496) (by show 1 ≤ d + 1; omega) (by show _ + 13 ≤ 32 * (d + 1); omega) hk.1 hk.2 hd (kk H locs ls hR hS hL)
end CI2
theorem c_isServer (l : Launch) (G : qh_G) (b : Nat) (h : qh_H) {s : Int} (hs : rng s) (d : Nat) : qj l y_Q_isServer c_Q_isServer 1 (some .boolean) d 0 0 G b [.int (iI s)] h (if 0 ≤ s ∧ s < 5 then 1 else 0) h := by
  refine qx_of (lo := [some (.int (iI s))]) (by decide) (fun w hw => List.mem_cons_of_mem _ hw) rfl (Nat.le_of_ble_eq_true rfl) rfl ?_
  intro X C
  refine qx_iload_n C d_Q_isServer_0 rfl rfl ?_
  refine nx_if_lt C 13 d_Q_isServer_1 (by decide) (by omega) (fun z1 => ?_) (fun z1 => ?_)
  · refine qx_iconst C d_Q_isServer_13 (v := iI (0)) rfl ?_
    refine qx_zret C d_Q_isServer_14 (by decide) (Nat.zero_le _) (Nat.zero_le _) ⟨_, rfl, ?_, rfl⟩
    rw [if_neg (by omega)]
  · refine qx_iload_n C d_Q_isServer_4 rfl rfl ?_
    refine qx_iconst C d_Q_isServer_5 (v := iI (5)) rfl ?_
    refine nx_icmp_ge C 13 d_Q_isServer_6 (by decide) (by omega) (by omega) (fun z2 => ?_) (fun z2 => ?_)
    · refine qx_iconst C d_Q_isServer_13 (v := iI (0)) rfl ?_
      refine qx_zret C d_Q_isServer_14 (by decide) (Nat.zero_le _) (Nat.zero_le _) ⟨_, rfl, ?_, rfl⟩
      rw [if_neg (by omega)]
    · refine qx_iconst C d_Q_isServer_9 (v := iI (1)) rfl ?_
      refine qx_goto C d_Q_isServer_10 (tgt := 14) (by decide) ?_
      refine qx_zret C d_Q_isServer_14 (by decide) (Nat.zero_le _) (Nat.zero_le _) ⟨_, rfl, ?_, rfl⟩
      rw [if_pos (by omega)]
theorem c_isKey (l : Launch) (G : qh_G) (b : Nat) (h : qh_H) {s : Int} (hs : rng s) (d : Nat) : qj l y_Q_isKey c_Q_isKey 1 (some .boolean) d 0 0 G b [.int (iI s)] h (if 0 ≤ s ∧ s < 4 then 1 else 0) h := by
  refine qx_of (lo := [some (.int (iI s))]) (by decide) (fun w hw => List.mem_cons_of_mem _ hw) rfl (Nat.le_of_ble_eq_true rfl) rfl ?_
  intro X C
  refine qx_iload_n C d_Q_isKey_0 rfl rfl ?_
  refine nx_if_lt C 13 d_Q_isKey_1 (by decide) (by omega) (fun z1 => ?_) (fun z1 => ?_)
  · refine qx_iconst C d_Q_isKey_13 (v := iI (0)) rfl ?_
    refine qx_zret C d_Q_isKey_14 (by decide) (Nat.zero_le _) (Nat.zero_le _) ⟨_, rfl, ?_, rfl⟩
    rw [if_neg (by omega)]
  · refine qx_iload_n C d_Q_isKey_4 rfl rfl ?_
    refine qx_iconst C d_Q_isKey_5 (v := iI (4)) rfl ?_
    refine nx_icmp_ge C 13 d_Q_isKey_6 (by decide) (by omega) (by omega) (fun z2 => ?_) (fun z2 => ?_)
    · refine qx_iconst C d_Q_isKey_13 (v := iI (0)) rfl ?_
      refine qx_zret C d_Q_isKey_14 (by decide) (Nat.zero_le _) (Nat.zero_le _) ⟨_, rfl, ?_, rfl⟩
      rw [if_neg (by omega)]
    · refine qx_iconst C d_Q_isKey_9 (v := iI (1)) rfl ?_
      refine qx_goto C d_Q_isKey_10 (tgt := 14) (by decide) ?_
      refine qx_zret C d_Q_isKey_14 (by decide) (Nat.zero_le _) (Nat.zero_le _) ⟨_, rfl, ?_, rfl⟩
      rw [if_pos (by omega)]
theorem c_isIn (l : Launch) (G : qh_G) (b : Nat) (h : qh_H) {c s : Int} (hc : set5 c) (hs : 0 ≤ s ∧ s < 5) (d : Nat) : qj l y_Q_isIn c_Q_isIn 2 (some .boolean) d 0 0 G b [.int (iI c), .int (iI s)] h (bit c s) h := by
  have h01 := bit_01 c s
  refine qx_of (lo := [some (.int (iI c)), some (.int (iI s))]) (by decide) (fun w hw => List.mem_cons_of_mem _ hw) rfl (Nat.le_of_ble_eq_true rfl) rfl ?_
  intro X C
  refine qx_iload_n C d_Q_isIn_0 rfl rfl ?_
  refine qx_iload_n C d_Q_isIn_1 rfl rfl ?_
  refine nx_bit C d_Q_isIn_2 d_Q_isIn_3 d_Q_isIn_4 (by omega) (by omega) ?_
  refine qx_iconst C d_Q_isIn_5 (v := iI (1)) rfl ?_
  refine nx_icmp_ne C 13 d_Q_isIn_6 (by decide) (by omega) (by omega) (fun z1 => ?_) (fun z1 => ?_)
  · refine qx_iconst C d_Q_isIn_13 (v := iI (0)) rfl ?_
    refine qx_zret C d_Q_isIn_14 (by decide) (Nat.zero_le _) (Nat.zero_le _) ⟨_, rfl, ?_, rfl⟩
    rw [show bit c s = 0 by omega]
  · refine qx_iconst C d_Q_isIn_9 (v := iI (1)) rfl ?_
    refine qx_goto C d_Q_isIn_10 (tgt := 14) (by decide) ?_
    refine qx_zret C d_Q_isIn_14 (by decide) (Nat.zero_le _) (Nat.zero_le _) ⟨_, rfl, ?_, rfl⟩
    rw [show bit c s = 1 by omega]
theorem ia_comm (a c : Int) : ia a c = ia c a := by unfold ia; rw [Nat.and_comm]
theorem io_0 {a : Int} (h : 0 ≤ a) : io a 0 = a := by
  unfold io
  rw [show (0 : Int).toNat = 0 from rfl, Nat.or_zero]
  omega
theorem c_areMost (l : Launch) (G : qh_G) (b : Nat) (h : qh_H) {a c : Int} (ha : set5 a) (hc : set5 c) (d : Nat) : qj l y_Q_areMost c_Q_areMost 2 (some .boolean) (d + 1) 0 0 G b [.int (iI a), .int (iI c)] h (if md_cnt c < 2 * md_cnt (ia c a) then 1 else 0) h := by
  have h5 := set5_and ha hc
  have h1 := md_cnt_r (c := ia a c)
  have h2 := md_cnt_r (c := c)
  refine qx_of (lo := [some (.int (iI a)), some (.int (iI c))]) (by decide) (fun w hw => List.mem_cons_of_mem _ hw) rfl (Nat.le_of_ble_eq_true rfl) rfl ?_
  intro X C
  refine qx_iconst C d_Q_areMost_0 (v := iI (2)) rfl ?_
  refine qx_iload_n C d_Q_areMost_1 rfl rfl ?_
  refine qx_iload_n C d_Q_areMost_2 rfl rfl ?_
  refine nx_iand C d_Q_areMost_3 (by omega) (by omega) ?_
  refine nx_call0 C s_Q_areMost_4 (c_bits l G b h h5 d) w_I_bitCount rfl rfl (Nat.le_of_ble_eq_true rfl) (by omega) (by decide) ?_
  refine nx_imul C d_Q_areMost_7 ?_
  refine qx_iload_n C d_Q_areMost_8 rfl rfl ?_
  refine nx_call0 C s_Q_areMost_9 (c_bits l G b h hc d) w_I_bitCount rfl rfl (Nat.le_of_ble_eq_true rfl) (by omega) (by decide) ?_
  refine nx_icmp_le C 19 d_Q_areMost_12 (by decide) (by omega) (by omega) (fun z1 => ?_) (fun z1 => ?_)
  · refine qx_iconst C d_Q_areMost_19 (v := iI (0)) rfl ?_
    refine qx_zret C d_Q_areMost_20 (by decide) (Nat.zero_le _) (Nat.zero_le _) ⟨_, rfl, ?_, rfl⟩
    rw [ia_comm, if_neg (by omega)]
  · refine qx_iconst C d_Q_areMost_15 (v := iI (1)) rfl ?_
    refine qx_goto C d_Q_areMost_16 (tgt := 20) (by decide) ?_
    refine qx_zret C d_Q_areMost_20 (by decide) (Nat.zero_le _) (Nat.zero_le _) ⟨_, rfl, ?_, rfl⟩
    rw [ia_comm, if_pos (by omega)]
/-- a server stands for A's -/
def cr_S (I A : md_A) (s : Nat) : Prop := (I (10 + s) 5 = 1 - A 1 s ∧ I (10 + s) 6 = A 15 s ∧ I (10 + s) 7 = A 2 s ∧ I (10 + s) 8 = A 3 s ∧ I (10 + s) 9 = A 13 s ∧ I (10 + s) 10 = A 14 s ∧ I (10 + s) 11 = A 20 s ∧ I (10 + s) 12 = A 16 s) ∧ ∀ o : Int, 0 ≤ o → o < 5 → I (40 + s) o = A 17 (5 * s + o) ∧ I (50 + s) o = A 18 (5 * s + o) ∧ I (60 + s) o = A 19 (5 * s + o)
set_option maxRecDepth 100000 in
theorem c_leads (l : Launch) (G : qh_G) (b : Nat) {ad : Nat → Nat} {iv : Nat → Option Nat} (J : cl_I ad iv) {g : qh_H} {I : md_A} {m : Nat → Nat} {E : cl_E} {N : Nat → Nat} {A : md_A} (hA : md_r A) {s : Nat} (hs : s < 5) (hS : cr_S I A s) (h01 : A 1 s = 0 ∨ A 1 s = 1) (d : Nat) : qj l y_S_leads c_S_leads 1 (some .boolean) d 0 0 G b [.ref (ad (10 + s))] (ch G ad iv g I m E N) (md_leads A s) (ch G ad iv g I m E N) := by
  have h13 := hA 13 s
  refine qx_of (lo := [some (.ref (ad (10 + s)))]) (by decide) (fun w hw => List.mem_cons_of_mem _ hw) rfl (Nat.le_of_ble_eq_true rfl) rfl ?_
  intro X C
  refine qx_aload_n C d_S_leads_0 rfl rfl ?_
  refine qx_get C d_S_leads_1 fl_S_21 (ch_S J hs) rfl ?_
  rw [hS.1.1]
  refine nx_if_eq C 19 d_S_leads_4 (by decide) (by omega) (fun z1 => ?_) (fun z1 => ?_)
  · refine qx_iconst C d_S_leads_19 (v := iI (0)) rfl ?_
    refine qx_zret C d_S_leads_20 (by decide) (Nat.zero_le _) (Nat.zero_le _) ⟨_, rfl, ?_, rfl⟩
    unfold md_leads; rw [if_neg (by omega)]
  · refine qx_aload_n C d_S_leads_7 rfl rfl ?_
    refine qx_get C d_S_leads_8 fl_S_29 (ch_S J hs) rfl ?_
    rw [hS.1.2.2.2.2.1]
    refine qx_iconst C d_S_leads_11 (v := iI (3)) rfl ?_
    refine nx_icmp_ne C 19 d_S_leads_12 (by decide) (by omega) (by omega) (fun z2 => ?_) (fun z2 => ?_)
    · refine qx_iconst C d_S_leads_19 (v := iI (0)) rfl ?_
      refine qx_zret C d_S_leads_20 (by decide) (Nat.zero_le _) (Nat.zero_le _) ⟨_, rfl, ?_, rfl⟩
      unfold md_leads; rw [if_neg (by omega)]
    · refine qx_iconst C d_S_leads_15 (v := iI (1)) rfl ?_
      refine qx_goto C d_S_leads_16 (tgt := 20) (by decide) ?_
      refine qx_zret C d_S_leads_20 (by decide) (Nat.zero_le _) (Nat.zero_le _) ⟨_, rfl, ?_, rfl⟩
      unfold md_leads; rw [if_pos (by omega)]
set_option maxRecDepth 100000 in
theorem c_mayAsk (l : Launch) (G : qh_G) (b : Nat) {ad : Nat → Nat} {iv : Nat → Option Nat} (J : cl_I ad iv) {g : qh_H} {I : md_A} {m : Nat → Nat} {E : cl_E} {N : Nat → Nat} {A : md_A} (hA : md_r A) {s : Nat} (hs : s < 5) (hS : cr_S I A s) (hL : cr_L G iv g I E N A s) (hB : md_B A s) (hcf : set5 (md_config A s)) (h01 : A 1 s = 0 ∨ A 1 s = 1) (d : Nat) : qj l y_S_mayAsk c_S_mayAsk 1 (some .boolean) (d + 3) 0 0 G b [.ref (ad (10 + s))] (ch G ad iv g I m E N) (if A 1 s = 0 ∧ ¬ A 13 s = 3 ∧ md_mine A s = 1 ∧ A 8 s < 40 then 1 else 0) (ch G ad iv g I m E N) := by
  have h13 := hA 13 s
  have hb01 := bit_01 (md_config A s) s
  refine qx_of (lo := [some (.ref (ad (10 + s)))]) (by decide) (fun w hw => List.mem_cons_of_mem _ hw) rfl (Nat.le_of_ble_eq_true rfl) rfl ?_
  intro X C
  refine qx_aload_n C d_S_mayAsk_0 rfl rfl ?_
  refine qx_get C d_S_mayAsk_1 fl_S_21 (ch_S J hs) rfl ?_
  rw [hS.1.1]
  refine nx_if_eq C 48 d_S_mayAsk_4 (by decide) (by omega) (fun z1 => ?_) (fun z1 => ?_)
  · refine qx_iconst C d_S_mayAsk_48 (v := iI (0)) rfl ?_
    refine qx_zret C d_S_mayAsk_49 (by decide) (Nat.zero_le _) (Nat.zero_le _) ⟨_, rfl, ?_, rfl⟩
    rw [if_neg (by omega)]
  · refine qx_aload_n C d_S_mayAsk_7 rfl rfl ?_
    refine qx_get C d_S_mayAsk_8 fl_S_29 (ch_S J hs) rfl ?_
    rw [hS.1.2.2.2.2.1]
    refine qx_iconst C d_S_mayAsk_11 (v := iI (3)) rfl ?_
    refine nx_icmp_eq C 48 d_S_mayAsk_12 (by decide) (by omega) (by omega) (fun z2 => ?_) (fun z2 => ?_)
    · refine qx_iconst C d_S_mayAsk_48 (v := iI (0)) rfl ?_
      refine qx_zret C d_S_mayAsk_49 (by decide) (Nat.zero_le _) (Nat.zero_le _) ⟨_, rfl, ?_, rfl⟩
      rw [if_neg (by omega)]
    · refine qx_aload_n C d_S_mayAsk_15 rfl rfl ?_
      refine qx_get C d_S_mayAsk_16 fl_S_40 (ch_S J hs) rfl ?_
      refine nx_call0 C (s_S_mayAsk_19 (ch_L J hs)) (c_config l G b J hA hs hL hB d) w_L_configuration rfl rfl (Nat.le_of_ble_eq_true rfl) (by omega) (by decide) ?_
      refine qx_aload_n C d_S_mayAsk_22 rfl rfl ?_
      refine qx_get C d_S_mayAsk_23 fl_S_32 (ch_S J hs) rfl ?_
      refine nx_call0 C s_S_mayAsk_26 (c_isIn l G b _ hcf (by omega) d) w_Q_isIn rfl rfl (Nat.le_of_ble_eq_true rfl) (by omega) (by decide) ?_
      refine nx_if_eq C 48 d_S_mayAsk_29 (by decide) (by omega) (fun z3 => ?_) (fun z3 => ?_)
      · refine qx_iconst C d_S_mayAsk_48 (v := iI (0)) rfl ?_
        refine qx_zret C d_S_mayAsk_49 (by decide) (Nat.zero_le _) (Nat.zero_le _) ⟨_, rfl, ?_, rfl⟩
        unfold md_mine
        rw [if_neg (by omega)]
      · refine qx_aload_n C d_S_mayAsk_32 rfl rfl ?_
        refine qx_get C d_S_mayAsk_33 fl_S_40 (ch_S J hs) rfl ?_
        refine qx_get C d_S_mayAsk_36 fl_S_52 (ch_L J hs) rfl ?_
        rw [hL.1]
        refine qx_bipush C d_S_mayAsk_39 (v := iI (40)) (by decide) ?_
        refine nx_icmp_ge C 48 d_S_mayAsk_41 (by decide) (by omega) (by omega) (fun z4 => ?_) (fun z4 => ?_)
        · refine qx_iconst C d_S_mayAsk_48 (v := iI (0)) rfl ?_
          refine qx_zret C d_S_mayAsk_49 (by decide) (Nat.zero_le _) (Nat.zero_le _) ⟨_, rfl, ?_, rfl⟩
          rw [if_neg (by omega)]
        · refine qx_iconst C d_S_mayAsk_44 (v := iI (1)) rfl ?_
          refine qx_goto C d_S_mayAsk_45 (tgt := 49) (by decide) ?_
          refine qx_zret C d_S_mayAsk_49 (by decide) (Nat.zero_le _) (Nat.zero_le _) ⟨_, rfl, ?_, rfl⟩
          unfold md_mine
          rw [if_pos (by omega)]
set_option maxRecDepth 100000 in
theorem c_fresh (l : Launch) (G : qh_G) (b : Nat) {ad : Nat → Nat} {iv : Nat → Option Nat} (J : cl_I ad iv) {g : qh_H} {I : md_A} {m : Nat → Nat} {E : cl_E} {N : Nat → Nat} {A : md_A} (hA : md_r A) {s : Nat} (hs : s < 5) (hS : cr_S I A s) (hL : cr_L G iv g I E N A s) (hB : md_B A s) (hc : 0 ≤ A 14 s ∧ A 14 s ≤ 1000100) (d : Nat) : qj l y_S_hasCommitOfItsTerm c_S_hasCommitOfItsTerm 1 (some .boolean) (d + 2) 0 0 G b [.ref (ad (10 + s))] (ch G ad iv g I m E N) (if md_termAt A s (A 14 s) = A 2 s then 1 else 0) (ch G ad iv g I m E N) := by
  have h2 := hA 2 s
  have h1 := md_termAt_r hA s (A 14 s)
  refine qx_of (lo := [some (.ref (ad (10 + s)))]) (by decide) (fun w hw => List.mem_cons_of_mem _ hw) rfl (Nat.le_of_ble_eq_true rfl) rfl ?_
  intro X C
  refine qx_aload_n C d_S_hasCommitOfItsTerm_0 rfl rfl ?_
  refine qx_get C d_S_hasCommitOfItsTerm_1 fl_S_40 (ch_S J hs) rfl ?_
  refine qx_aload_n C d_S_hasCommitOfItsTerm_4 rfl rfl ?_
  refine qx_get C d_S_hasCommitOfItsTerm_5 fl_S_55 (ch_S J hs) rfl ?_
  rw [hS.1.2.2.2.2.2.1]
  refine nx_call0 C (s_S_hasCommitOfItsTerm_8 (ch_L J hs)) (c_termAt l G b J hs hL hB (by omega) d) w_L_termAt rfl rfl (Nat.le_of_ble_eq_true rfl) (by omega) (by decide) ?_
  refine qx_aload_n C d_S_hasCommitOfItsTerm_11 rfl rfl ?_
  refine qx_get C d_S_hasCommitOfItsTerm_12 fl_S_62 (ch_S J hs) rfl ?_
  rw [hS.1.2.2.1]
  refine nx_icmp_ne C 22 d_S_hasCommitOfItsTerm_15 (by decide) (by omega) (by omega) (fun z1 => ?_) (fun z1 => ?_)
  · refine qx_iconst C d_S_hasCommitOfItsTerm_22 (v := iI (0)) rfl ?_
    refine qx_zret C d_S_hasCommitOfItsTerm_23 (by decide) (Nat.zero_le _) (Nat.zero_le _) ⟨_, rfl, ?_, rfl⟩
    rw [if_neg z1]
  · refine qx_iconst C d_S_hasCommitOfItsTerm_18 (v := iI (1)) rfl ?_
    refine qx_goto C d_S_hasCommitOfItsTerm_19 (tgt := 23) (by decide) ?_
    refine qx_zret C d_S_hasCommitOfItsTerm_23 (by decide) (Nat.zero_le _) (Nat.zero_le _) ⟨_, rfl, ?_, rfl⟩
    rw [if_pos z1]
set_option maxRecDepth 100000 in
theorem c_storedNow (l : Launch) (G : qh_G) (b : Nat) {ad : Nat → Nat} {iv : Nat → Option Nat} (J : cl_I ad iv) {g : qh_H} {I : md_A} {m : Nat → Nat} {E : cl_E} {N : Nat → Nat} {A : md_A} (hA : md_r A) {s : Nat} (hs : s < 5) (hS : cr_S I A s) (hL : cr_L G iv g I E N A s) (hB : md_B A s) (hc : A 4 s ≤ A 14 s ∧ A 14 s ≤ md_last A s) {key : Int} (hk : 0 ≤ key ∧ key < 4) (d : Nat) : qj l y_S_storedNow c_S_storedNow 2 (some .int) (d + 2) 0 0 G b [.ref (ad (10 + s)), .int (iI key)] (ch G ad iv g I m E N) (md_val A s key (A 14 s - A 4 s).toNat) (ch G ad iv g I m E N) := by
  have hl : md_last A s = A 4 s + A 8 s := rfl
  refine qx_of (lo := [some (.ref (ad (10 + s))), some (.int (iI key))]) (by decide) (fun w hw => List.mem_cons_of_mem _ hw) rfl (Nat.le_of_ble_eq_true rfl) rfl ?_
  intro X C
  refine qx_aload_n C d_S_storedNow_0 rfl rfl ?_
  refine qx_get C d_S_storedNow_1 fl_S_40 (ch_S J hs) rfl ?_
  refine qx_aload_n C d_S_storedNow_4 rfl rfl ?_
  refine qx_get C d_S_storedNow_5 fl_S_55 (ch_S J hs) rfl ?_
  refine qx_iload_n C d_S_storedNow_8 rfl rfl ?_
  rw [hS.1.2.2.2.2.2.1]
  refine nx_call0 C (s_S_storedNow_9 (ch_L J hs)) (c_stored l G b J hA hs hL hB hk (t := (A 14 s - A 4 s).toNat) (by omega) (by omega) d) w_L_storedUpTo rfl rfl (Nat.le_of_ble_eq_true rfl) (by omega) (by decide) ?_
  refine qx_iret C d_S_storedNow_12 (Nat.zero_le _) (Nat.zero_le _) ⟨_, rfl, ?_, rfl⟩
  rfl
set_option maxRecDepth 100000 in
theorem c_reached (l : Launch) (G : qh_G) (b : Nat) {ad : Nat → Nat} {iv : Nat → Option Nat} (J : cl_I ad iv) {g : qh_H} {I : md_A} {m : Nat → Nat} {E : cl_E} {N : Nat → Nat} {A : md_A} (hA : md_r A) {s : Nat} (hs : s < 5) {j k : Nat} (hj : (40 ≤ j ∧ j < 45) ∨ (50 ≤ j ∧ j < 55) ∨ (60 ≤ j ∧ j < 65)) (hk : ∀ o : Int, 0 ≤ o → o < 5 → I j o = A k (5 * s + o)) {mark : Int} (hm : rng mark) (d : Nat) : qj l y_S_reachedBy c_S_reachedBy 5 (some .int) d 0 0 G b [.ref (ad (10 + s)), .ref (ad j), .int (iI mark)] (ch G ad iv g I m E N) (md_reach A k s mark 5) (ch G ad iv g I m E N) := by
  refine qx_of (lo := [some (.ref (ad (10 + s))), some (.ref (ad j)), some (.int (iI mark)), none, none]) (by decide) (fun w hw => List.mem_cons_of_mem _ hw) rfl (Nat.le_of_ble_eq_true rfl) rfl ?_
  intro X C
  have Lp : ∀ (f o : Nat), o + f = 5 → X 10 [some (.ref (ad (10 + s))), some (.ref (ad j)), some (.int (iI mark)), some (.int (iI (md_reach A k s mark o))), some (.int (iI o))] [] (ch G ad iv g I m E N) 0 0 := by
    intro f
    induction f with
    | zero =>
      intro o ho
      refine qx_iload C d_S_reachedBy_10 rfl ?_
      refine qx_iconst C d_S_reachedBy_12 (v := iI (5)) rfl ?_
      refine nx_icmp_ge C 37 d_S_reachedBy_13 (by decide) (by omega) (by omega) (fun z1 => ?_) (fun z1 => ?_)
      · refine qx_iload_n C d_S_reachedBy_37 rfl rfl ?_
        refine qx_iret C d_S_reachedBy_38 (Nat.zero_le _) (Nat.zero_le _) ⟨_, rfl, ?_, rfl⟩
        rw [show o = 5 by omega]
      · exact absurd z1 (by omega)
    | succ f ih =>
      intro o ho
      have h5 := md_reach_5 (A := A) (k := k) (s := s) (mark := mark) (by omega) o (by omega)
      have h1 := set5_one (k := o) (by omega) (by omega)
      have hr := hA k (5 * s + o)
      refine qx_iload C d_S_reachedBy_10 rfl ?_
      refine qx_iconst C d_S_reachedBy_12 (v := iI (5)) rfl ?_
      refine nx_icmp_ge C 37 d_S_reachedBy_13 (by decide) (by omega) (by omega) (fun z1 => ?_) (fun z1 => ?_)
      · exact absurd z1 (by omega)
      · refine qx_aload_n C d_S_reachedBy_16 rfl rfl ?_
        refine qx_iload C d_S_reachedBy_17 rfl ?_
        refine cx_ia C J d_S_reachedBy_19 (by omega) (by omega) (by omega) ?_
        rw [hk o (by omega) (by omega)]
        refine qx_iload_n C d_S_reachedBy_20 rfl rfl ?_
        refine nx_icmp_lt C 31 d_S_reachedBy_21 (by decide) (by omega) (by omega) (fun z2 => ?_) (fun z2 => ?_)
        · refine nx_iinc C d_S_reachedBy_31 rfl (lo' := [_, _, _, _, some (.int _)]) rfl ?_
          refine qx_goto C d_S_reachedBy_34 (tgt := 10) (by decide) ?_
          have e : md_reach A k s mark (o + 1) = md_reach A k s mark o := by rw [md_reach_s, if_pos z2, io_0 h5.1]
          rw [← e]
          exact ih (o + 1) (by omega)
        · refine qx_iload_n C d_S_reachedBy_24 rfl rfl ?_
          refine qx_iconst C d_S_reachedBy_25 (v := iI (1)) rfl ?_
          refine qx_iload C d_S_reachedBy_26 rfl ?_
          refine nx_ishl1 C d_S_reachedBy_28 (by omega) ?_
          refine nx_ior C d_S_reachedBy_29 (by omega) (by omega) ?_
          refine nx_istore_n C d_S_reachedBy_30 rfl (Nat.le_of_ble_eq_true rfl) (lo' := [_, _, _, some (.int _), _]) rfl ?_
          refine nx_iinc C d_S_reachedBy_31 rfl (lo' := [_, _, _, _, some (.int _)]) rfl ?_
          refine qx_goto C d_S_reachedBy_34 (tgt := 10) (by decide) ?_
          have e : md_reach A k s mark (o + 1) = io (md_reach A k s mark o) (one o) := by rw [md_reach_s, if_neg z2]
          rw [← e]
          exact ih (o + 1) (by omega)
  refine qx_iconst C d_S_reachedBy_0 (v := iI (1)) rfl ?_
  refine qx_aload_n C d_S_reachedBy_1 rfl rfl ?_
  refine qx_get C d_S_reachedBy_2 fl_S_32 (ch_S J hs) rfl ?_
  refine nx_ishl1 C d_S_reachedBy_5 (by omega) ?_
  refine nx_istore_n C d_S_reachedBy_6 rfl (Nat.le_of_ble_eq_true rfl) (lo' := [_, _, _, some (.int _), _]) rfl ?_
  refine qx_iconst C d_S_reachedBy_7 (v := iI (0)) rfl ?_
  refine nx_istore C d_S_reachedBy_8 (Nat.le_of_ble_eq_true rfl) (lo' := [_, _, _, _, some (.int _)]) rfl ?_
  exact Lp 5 0 (by omega)
theorem c_holders (l : Launch) (G : qh_G) (b : Nat) {ad : Nat → Nat} {iv : Nat → Option Nat} (J : cl_I ad iv) {g : qh_H} {I : md_A} {m : Nat → Nat} {E : cl_E} {N : Nat → Nat} {A : md_A} (hA : md_r A) {s : Nat} (hs : s < 5) (hS : cr_S I A s) {i : Int} (hm : rng i) (d : Nat) : qj l y_S_holdersOf c_S_holdersOf 2 (some .int) (d + 1) 0 0 G b [.ref (ad (10 + s)), .int (iI i)] (ch G ad iv g I m E N) (md_reach A 18 s i 5) (ch G ad iv g I m E N) := by
  refine qx_of (lo := [some (.ref (ad (10 + s))), some (.int (iI i))]) (by decide) (fun w hw => List.mem_cons_of_mem _ hw) rfl (Nat.le_of_ble_eq_true rfl) rfl ?_
  intro X C
  refine qx_aload_n C d_S_holdersOf_0 rfl rfl ?_
  refine qx_aload_n C d_S_holdersOf_1 rfl rfl ?_
  refine qx_get C d_S_holdersOf_2 fl_S_15 (ch_S J hs) rfl ?_
  refine qx_iload_n C d_S_holdersOf_5 rfl rfl ?_
  refine nx_call0 C (s_S_holdersOf_6 (ch_S J hs)) (c_reached l G b J hA hs (by omega) (fun o h0 h5 => (hS.2 o h0 h5).2.1) hm d) w_S_reachedBy rfl rfl (Nat.le_of_ble_eq_true rfl) (by omega) (by decide) ?_
  refine qx_iret C d_S_holdersOf_9 (Nat.zero_le _) (Nat.zero_le _) ⟨_, rfl, ?_, rfl⟩
  rfl
theorem c_confirm (l : Launch) (G : qh_G) (b : Nat) {ad : Nat → Nat} {iv : Nat → Option Nat} (J : cl_I ad iv) {g : qh_H} {I : md_A} {m : Nat → Nat} {E : cl_E} {N : Nat → Nat} {A : md_A} (hA : md_r A) {s : Nat} (hs : s < 5) (hS : cr_S I A s) {i : Int} (hm : rng i) (d : Nat) : qj l y_S_confirmersOf c_S_confirmersOf 2 (some .int) (d + 1) 0 0 G b [.ref (ad (10 + s)), .int (iI i)] (ch G ad iv g I m E N) (md_reach A 19 s i 5) (ch G ad iv g I m E N) := by
  refine qx_of (lo := [some (.ref (ad (10 + s))), some (.int (iI i))]) (by decide) (fun w hw => List.mem_cons_of_mem _ hw) rfl (Nat.le_of_ble_eq_true rfl) rfl ?_
  intro X C
  refine qx_aload_n C d_S_confirmersOf_0 rfl rfl ?_
  refine qx_aload_n C d_S_confirmersOf_1 rfl rfl ?_
  refine qx_get C d_S_confirmersOf_2 fl_S_18 (ch_S J hs) rfl ?_
  refine qx_iload_n C d_S_confirmersOf_5 rfl rfl ?_
  refine nx_call0 C (s_S_confirmersOf_6 (ch_S J hs)) (c_reached l G b J hA hs (by omega) (fun o h0 h5 => (hS.2 o h0 h5).2.2) hm d) w_S_reachedBy rfl rfl (Nat.le_of_ble_eq_true rfl) (by omega) (by decide) ?_
  refine qx_iret C d_S_confirmersOf_9 (Nat.zero_le _) (Nat.zero_le _) ⟨_, rfl, ?_, rfl⟩
  rfl
