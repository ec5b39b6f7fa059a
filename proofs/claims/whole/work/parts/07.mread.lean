/-! the reference: what it reads -/
abbrev qj (l : Launch) (y : MethodName) (cc : ByteArray) (nL : Nat) (rt : Option FieldType) (d mc ms : Nat) (G : qh_G) (b : Nat) (av : List Value) (h : qh_H) (r : Int) (h2 : qh_H) : Prop :=
  qx_M l y (Cond.code y cc nL rt :: qu_W) (qr d mc ms) G b av h (fun oc h' => ∃ z : Int32, oc = .returned (some (.int z)) ∧ (z = iI r ∧ h' = h2))
abbrev qv (l : Launch) (y : MethodName) (cc : ByteArray) (nL : Nat) (rt : Option FieldType) (d mc ms : Nat) (G : qh_G) (b : Nat) (av : List Value) (h : qh_H) (h2 : qh_H) : Prop :=
  qx_M l y (Cond.code y cc nL rt :: qu_W) (qr d mc ms) G b av h (fun oc h' => oc = .returned none ∧ h' = h2)
theorem nx_call0 {l : Launch} {G : qh_G} {b : Nat} {own nm : String} {cc : ByteArray} {nL : Nat} {ret : Option FieldType} {tb : List (Nat × Nat × Nat × Nat)} {post : Outcome → qh_H → Prop} {X : qw_T} {pc : Nat} {lo : List (Option Value)} {st : List Value} {h : qh_H} {k n d mc ms : Nat} {y : MethodName} {cY : ByteArray} {nY : Nat} {rY : Option FieldType} {e : Nat} {av rest : List Value} {r : Int} {h2 : qh_H} (C : qw_C l G b own nm cc nL ret tb (qr d mc ms) post X)
    (hsite : qx_Site l G own cc pc y av rest h) (hM : qj l y cY nY rY e 0 0 G b av h r h2) (hy : Cond.code y cY nY rY ∈ qu_W ∧ Cond.initialized y.cls ∈ qu_W) (hst : st = av.reverse ++ rest) (hll : lo.length = nL) (hro : (rest.map fun v => v.category).sum ≤ 8) (hed : e < d ∧ k ≤ mc ∧ n ≤ ms) (hnY : nY ≤ 8)
    (kk : X (pc + 3) lo (.int (iI r) :: rest) h2 k n) : X pc lo st h k n :=
  qx_runi C hsite hM hy hst hll hro (qr_ok hed.1 hnY hed.2.1 hed.2.2) (fun z h' hq => by obtain ⟨rfl, rfl⟩ := hq; exact kk)
theorem nx_callv {l : Launch} {G : qh_G} {b : Nat} {own nm : String} {cc : ByteArray} {nL : Nat} {ret : Option FieldType} {tb : List (Nat × Nat × Nat × Nat)} {post : Outcome → qh_H → Prop} {X : qw_T} {pc : Nat} {lo : List (Option Value)} {st : List Value} {h : qh_H} {k n d mc ms : Nat} {y : MethodName} {cY : ByteArray} {nY : Nat} {rY : Option FieldType} {e : Nat} {av rest : List Value} {h2 : qh_H} (C : qw_C l G b own nm cc nL ret tb (qr d mc ms) post X)
    (hsite : qx_Site l G own cc pc y av rest h) (hM : qv l y cY nY rY e 0 0 G b av h h2) (hy : Cond.code y cY nY rY ∈ qu_W ∧ Cond.initialized y.cls ∈ qu_W) (hst : st = av.reverse ++ rest) (hll : lo.length = nL) (hro : (rest.map fun v => v.category).sum ≤ 8) (hed : e < d ∧ k ≤ mc ∧ n ≤ ms) (hnY : nY ≤ 8)
    (kk : X (pc + 3) lo rest h2 k n) : X pc lo st h k n :=
  qx_runv C hsite hM hy hst hll hro (qr_ok hed.1 hnY hed.2.1 hed.2.2) (fun h' hq => by subst hq; exact kk)
def md_last (A : md_A) (s : Int) : Int := A 4 s + A 8 s
def md_cell (A : md_A) (s i : Int) : Int := if A 4 s < i ∧ i ≤ md_last A s then 48 * s + i - A 4 s - 1 else -1
def md_termAt (A : md_A) (s i : Int) : Int := if i = A 4 s then A 5 s else if md_cell A s i < 0 then -1 else A 9 (md_cell A s i)
/-- a server's snapshot index and size, in bounds -/
abbrev md_B (A : md_A) (s : Int) : Prop := 0 ≤ s ∧ s < 5 ∧ 0 ≤ A 4 s ∧ A 4 s ≤ 1000000 ∧ 0 ≤ A 8 s ∧ A 8 s ≤ 48
set_option maxRecDepth 100000 in
theorem m_last (l : Launch) (G : qh_G) (b : Nat) {o : Nat} {ad : Nat → Nat} {iv : Nat → Option Nat} (I : md_I o ad iv) (g : qh_H) {A : md_A} {s : Int} (hs : md_B A s) (d : Nat) : qj l y_D_last c_D_last 2 (some .int) d 0 0 G b [.ref o, .int (iI s)] (md_h G o ad iv g A) (md_last A s) (md_h G o ad iv g A) := by
  refine qx_of (lo := [some (.ref o), some (.int (iI s))]) (by decide) (fun w hw => List.mem_cons_of_mem _ hw) rfl (Nat.le_of_ble_eq_true rfl) rfl ?_
  intro X C
  refine qx_aload_n C d_D_last_0 rfl rfl ?_
  refine mx_gi C d_D_last_1 fl_D_20 rfl ?_
  refine qx_iload_n C d_D_last_4 rfl rfl ?_
  refine mx_ia C I 4 5 d_D_last_5 (by unfold md_a; omega) rfl rfl (by omega) (by omega) ?_
  refine qx_aload_n C d_D_last_6 rfl rfl ?_
  refine mx_gi C d_D_last_7 fl_D_32 rfl ?_
  refine qx_iload_n C d_D_last_10 rfl rfl ?_
  refine mx_ia C I 8 5 d_D_last_11 (by unfold md_a; omega) rfl rfl (by omega) (by omega) ?_
  refine nx_iadd C d_D_last_12 ?_
  refine qx_iret C d_D_last_13 (Nat.zero_le _) (Nat.zero_le _) ⟨_, rfl, ?_, rfl⟩
  rfl
set_option maxRecDepth 100000 in
theorem m_cell (l : Launch) (G : qh_G) (b : Nat) {o : Nat} {ad : Nat → Nat} {iv : Nat → Option Nat} (I : md_I o ad iv) (g : qh_H) {A : md_A} {s i : Int} (hs : md_B A s) (hi : rng i) (d : Nat) : qj l y_D_cell c_D_cell 3 (some .int) (d + 1) 0 0 G b [.ref o, .int (iI s), .int (iI i)] (md_h G o ad iv g A) (md_cell A s i) (md_h G o ad iv g A) := by
  have hl : md_last A s = A 4 s + A 8 s := rfl
  refine qx_of (lo := [some (.ref o), some (.int (iI s)), some (.int (iI i))]) (by decide) (fun w hw => List.mem_cons_of_mem _ hw) rfl (Nat.le_of_ble_eq_true rfl) rfl ?_
  intro X C
  refine qx_iload_n C d_D_cell_0 rfl rfl ?_
  refine qx_aload_n C d_D_cell_1 rfl rfl ?_
  refine mx_gi C d_D_cell_2 fl_D_20 rfl ?_
  refine qx_iload_n C d_D_cell_5 rfl rfl ?_
  refine mx_ia C I 4 5 d_D_cell_6 (by unfold md_a; omega) rfl rfl (by omega) (by omega) ?_
  refine nx_icmp_le C 37 d_D_cell_7 (by decide) (by omega) (by omega) (fun hc => ?_) (fun hc => ?_)
  · refine qx_iconst C d_D_cell_37 (v := iI (-1)) rfl ?_
    refine qx_iret C d_D_cell_38 (Nat.zero_le _) (Nat.zero_le _) ⟨_, rfl, ?_, rfl⟩
    unfold md_cell
    rw [if_neg (by omega)]
  · refine qx_iload_n C d_D_cell_10 rfl rfl ?_
    refine qx_aload_n C d_D_cell_11 rfl rfl ?_
    refine qx_iload_n C d_D_cell_12 rfl rfl ?_
    refine nx_call0 C (s_D_cell_13 md_o) (m_last l G b I g hs d) w_D_last rfl rfl (Nat.le_of_ble_eq_true rfl) (by omega) (by decide) ?_
    refine nx_icmp_gt C 37 d_D_cell_16 (by decide) (by omega) (by omega) (fun hc => ?_) (fun hc => ?_)
    · refine qx_iconst C d_D_cell_37 (v := iI (-1)) rfl ?_
      refine qx_iret C d_D_cell_38 (Nat.zero_le _) (Nat.zero_le _) ⟨_, rfl, ?_, rfl⟩
      unfold md_cell
      rw [if_neg (by omega)]
    · refine qx_bipush C d_D_cell_19 (v := iI (48)) (by decide) ?_
      refine qx_iload_n C d_D_cell_21 rfl rfl ?_
      refine nx_imul C d_D_cell_22 ?_
      refine qx_iload_n C d_D_cell_23 rfl rfl ?_
      refine nx_iadd C d_D_cell_24 ?_
      refine qx_aload_n C d_D_cell_25 rfl rfl ?_
      refine mx_gi C d_D_cell_26 fl_D_20 rfl ?_
      refine qx_iload_n C d_D_cell_29 rfl rfl ?_
      refine mx_ia C I 4 5 d_D_cell_30 (by unfold md_a; omega) rfl rfl (by omega) (by omega) ?_
      refine nx_isub C d_D_cell_31 ?_
      refine qx_iconst C d_D_cell_32 (v := iI (1)) rfl ?_
      refine nx_isub C d_D_cell_33 ?_
      refine qx_goto C d_D_cell_34 (tgt := 38) (by decide) ?_
      refine qx_iret C d_D_cell_38 (Nat.zero_le _) (Nat.zero_le _) ⟨_, rfl, ?_, rfl⟩
      unfold md_cell
      rw [if_pos (by omega)]

abbrev md_r (A : md_A) : Prop := ∀ (k : Nat) (i : Int), rng (A k i)
/-- the latest MEMBERS among the first n entries behind the snapshot -/
def md_lm (A : md_A) (s : Int) : Nat → Int
  | 0 => 0
  | n + 1 => if A 10 (48 * s + n) = 2 then A 4 s + n + 1 else md_lm A s n
theorem md_lm_s (A : md_A) (s : Int) (n : Nat) : md_lm A s (n + 1) = if A 10 (48 * s + n) = 2 then A 4 s + n + 1 else md_lm A s n := rfl
def md_mem (A : md_A) (s : Int) (n : Nat) : Int := if md_lm A s n = 0 then A 6 s else A 11 (md_cell A s (md_lm A s n))
def md_config (A : md_A) (s : Int) : Int := md_mem A s (A 8 s).toNat
/-- what the first n entries behind the snapshot give a key -/
def md_val (A : md_A) (s key : Int) : Nat → Int
  | 0 => A 7 (4 * s + key)
  | n + 1 => if A 10 (48 * s + n) = 1 ∧ A 11 (48 * s + n) = key then A 12 (48 * s + n) else md_val A s key n
theorem md_val_s (A : md_A) (s key : Int) (n : Nat) : md_val A s key (n + 1) = if A 10 (48 * s + n) = 1 ∧ A 11 (48 * s + n) = key then A 12 (48 * s + n) else md_val A s key n := rfl
def md_cnt (c : Int) : Int := bit c 0 + bit c 1 + bit c 2 + bit c 3 + bit c 4
def md_most (A : md_A) (s bits : Int) : Int := if md_cnt (md_config A s) < 2 * md_cnt (ia (md_config A s) bits) then 1 else 0
def md_mine (A : md_A) (s : Int) : Int := bit (md_config A s) s
def md_leads (A : md_A) (s : Int) : Int := if A 1 s = 0 ∧ A 13 s = 3 then 1 else 0
def md_old (A : md_A) (s : Int) : Int := if md_termAt A s (A 14 s) = A 2 s then 0 else 1
/-- who of the first n has the mark -/
def md_reach (A : md_A) (k : Nat) (s mark : Int) : Nat → Int
  | 0 => one s
  | n + 1 => io (md_reach A k s mark n) (if A k (5 * s + n) < mark then 0 else one n)
theorem md_reach_s (A : md_A) (k : Nat) (s mark : Int) (n : Nat) : md_reach A k s mark (n + 1) = io (md_reach A k s mark n) (if A k (5 * s + n) < mark then 0 else one n) := rfl
theorem md_cell_in {A : md_A} {s : Int} {n : Nat} (h : (n : Int) < A 8 s) : md_cell A s (A 4 s + 1 + n) = 48 * s + n := by
  unfold md_cell md_last
  rw [if_pos (by omega)]
  omega
theorem md_lm_in (A : md_A) (s : Int) : ∀ n : Nat, md_lm A s n = 0 ∨ ∃ j : Nat, j < n ∧ md_lm A s n = A 4 s + 1 + j
  | 0 => Or.inl rfl
  | n + 1 => by
    unfold md_lm
    split
    · exact Or.inr ⟨n, by omega, by omega⟩
    · rcases md_lm_in A s n with h | ⟨j, h1, h2⟩
      · exact Or.inl h
      · exact Or.inr ⟨j, by omega, h2⟩
set_option maxRecDepth 100000 in
theorem m_isServer (l : Launch) (G : qh_G) (b : Nat) (h : qh_H) {s : Int} (hs : rng s) (d : Nat) : qj l y_D_isServer c_D_isServer 1 (some .boolean) d 0 0 G b [.int (iI s)] h (if 0 ≤ s ∧ s < 5 then 1 else 0) h := by
  refine qx_of (lo := [some (.int (iI s))]) (by decide) (fun w hw => List.mem_cons_of_mem _ hw) rfl (Nat.le_of_ble_eq_true rfl) rfl ?_
  intro X C
  refine qx_iload_n C d_D_isServer_0 rfl rfl ?_
  refine nx_if_lt C 13 d_D_isServer_1 (by decide) (by omega) (fun hc => ?_) (fun hc => ?_)
  · refine qx_iconst C d_D_isServer_13 (v := iI (0)) rfl ?_
    refine qx_zret C d_D_isServer_14 (by decide) (Nat.zero_le _) (Nat.zero_le _) ⟨_, rfl, ?_, rfl⟩
    rw [if_neg (by omega)]
  · refine qx_iload_n C d_D_isServer_4 rfl rfl ?_
    refine qx_iconst C d_D_isServer_5 (v := iI (5)) rfl ?_
    refine nx_icmp_ge C 13 d_D_isServer_6 (by decide) (by omega) (by omega) (fun hc => ?_) (fun hc => ?_)
    · refine qx_iconst C d_D_isServer_13 (v := iI (0)) rfl ?_
      refine qx_zret C d_D_isServer_14 (by decide) (Nat.zero_le _) (Nat.zero_le _) ⟨_, rfl, ?_, rfl⟩
      rw [if_neg (by omega)]
    · refine qx_iconst C d_D_isServer_9 (v := iI (1)) rfl ?_
      refine qx_goto C d_D_isServer_10 (tgt := 14) (by decide) ?_
      refine qx_zret C d_D_isServer_14 (by decide) (Nat.zero_le _) (Nat.zero_le _) ⟨_, rfl, ?_, rfl⟩
      rw [if_pos (by omega)]
set_option maxRecDepth 100000 in
theorem m_isKey (l : Launch) (G : qh_G) (b : Nat) (h : qh_H) {s : Int} (hs : rng s) (d : Nat) : qj l y_D_isKey c_D_isKey 1 (some .boolean) d 0 0 G b [.int (iI s)] h (if 0 ≤ s ∧ s < 4 then 1 else 0) h := by
  refine qx_of (lo := [some (.int (iI s))]) (by decide) (fun w hw => List.mem_cons_of_mem _ hw) rfl (Nat.le_of_ble_eq_true rfl) rfl ?_
  intro X C
  refine qx_iload_n C d_D_isKey_0 rfl rfl ?_
  refine nx_if_lt C 13 d_D_isKey_1 (by decide) (by omega) (fun hc => ?_) (fun hc => ?_)
  · refine qx_iconst C d_D_isKey_13 (v := iI (0)) rfl ?_
    refine qx_zret C d_D_isKey_14 (by decide) (Nat.zero_le _) (Nat.zero_le _) ⟨_, rfl, ?_, rfl⟩
    rw [if_neg (by omega)]
  · refine qx_iload_n C d_D_isKey_4 rfl rfl ?_
    refine qx_iconst C d_D_isKey_5 (v := iI (4)) rfl ?_
    refine nx_icmp_ge C 13 d_D_isKey_6 (by decide) (by omega) (by omega) (fun hc => ?_) (fun hc => ?_)
    · refine qx_iconst C d_D_isKey_13 (v := iI (0)) rfl ?_
      refine qx_zret C d_D_isKey_14 (by decide) (Nat.zero_le _) (Nat.zero_le _) ⟨_, rfl, ?_, rfl⟩
      rw [if_neg (by omega)]
    · refine qx_iconst C d_D_isKey_9 (v := iI (1)) rfl ?_
      refine qx_goto C d_D_isKey_10 (tgt := 14) (by decide) ?_
      refine qx_zret C d_D_isKey_14 (by decide) (Nat.zero_le _) (Nat.zero_le _) ⟨_, rfl, ?_, rfl⟩
      rw [if_pos (by omega)]
set_option maxRecDepth 100000 in
theorem m_thrown (l : Launch) (G : qh_G) (b : Nat) {o : Nat} {ad : Nat → Nat} {iv : Nat → Option Nat} (I : md_I o ad iv) (g : qh_H) (A : md_A) (d : Nat) : qj l y_D_thrown c_D_thrown 1 (some .int) d 0 0 G b [.ref o] (md_h G o ad iv g A) (A 0 0) (md_h G o ad iv g A) := by
  refine qx_of (lo := [some (.ref o)]) (by decide) (fun w hw => List.mem_cons_of_mem _ hw) rfl (Nat.le_of_ble_eq_true rfl) rfl ?_
  intro X C
  refine qx_aload_n C d_D_thrown_0 rfl rfl ?_
  refine mx_gi C d_D_thrown_1 fl_D_92 rfl ?_
  refine qx_iret C d_D_thrown_4 (Nat.zero_le _) (Nat.zero_le _) ⟨_, rfl, ?_, rfl⟩
  rfl
set_option maxRecDepth 100000 in
theorem m_fail (l : Launch) (G : qh_G) (b : Nat) {o : Nat} {ad : Nat → Nat} {iv : Nat → Option Nat} (I : md_I o ad iv) (g : qh_H) (A : md_A) {c : Int} (d : Nat) : qj l y_D_fail c_D_fail 2 (some .int) d 0 0 G b [.ref o, .int (iI c)] (md_h G o ad iv g A) 0 (md_h G o ad iv g (md_u A 0 0 c)) := by
  refine qx_of (lo := [some (.ref o), some (.int (iI c))]) (by decide) (fun w hw => List.mem_cons_of_mem _ hw) rfl (Nat.le_of_ble_eq_true rfl) rfl ?_
  intro X C
  refine qx_aload_n C d_D_fail_0 rfl rfl ?_
  refine qx_iload_n C d_D_fail_1 rfl rfl ?_
  refine mx_pi C I d_D_fail_2 fp_D_92 (by decide) ?_
  refine qx_iconst C d_D_fail_5 (v := iI (0)) rfl ?_
  refine qx_iret C d_D_fail_6 (Nat.zero_le _) (Nat.zero_le _) ⟨_, rfl, ?_, rfl⟩
  rfl
set_option maxRecDepth 100000 in
theorem m_termAt (l : Launch) (G : qh_G) (b : Nat) {o : Nat} {ad : Nat → Nat} {iv : Nat → Option Nat} (I : md_I o ad iv) (g : qh_H) {A : md_A} {s i : Int} (hs : md_B A s) (hi : rng i) (d : Nat) : qj l y_D_termAt c_D_termAt 4 (some .int) (d + 2) 0 0 G b [.ref o, .int (iI s), .int (iI i)] (md_h G o ad iv g A) (md_termAt A s i) (md_h G o ad iv g A) := by
  have hc : md_cell A s i = -1 ∨ (0 ≤ md_cell A s i ∧ md_cell A s i < 240) := by
    unfold md_cell md_last
    split <;> omega
  refine qx_of (lo := [some (.ref o), some (.int (iI s)), some (.int (iI i)), none]) (by decide) (fun w hw => List.mem_cons_of_mem _ hw) rfl (Nat.le_of_ble_eq_true rfl) rfl ?_
  intro X C
  refine qx_iload_n C d_D_termAt_0 rfl rfl ?_
  refine qx_aload_n C d_D_termAt_1 rfl rfl ?_
  refine mx_gi C d_D_termAt_2 fl_D_20 rfl ?_
  refine qx_iload_n C d_D_termAt_5 rfl rfl ?_
  refine mx_ia C I 4 5 d_D_termAt_6 (by unfold md_a; omega) rfl rfl (by omega) (by omega) ?_
  refine nx_icmp_ne C 17 d_D_termAt_7 (by decide) (by omega) (by omega) (fun h1 => ?_) (fun h1 => ?_)
  · refine qx_aload_n C d_D_termAt_17 rfl rfl ?_
    refine qx_iload_n C d_D_termAt_18 rfl rfl ?_
    refine qx_iload_n C d_D_termAt_19 rfl rfl ?_
    refine nx_call0 C (s_D_termAt_20 md_o) (m_cell l G b I g hs hi d) w_D_cell rfl rfl (Nat.le_of_ble_eq_true rfl) (by omega) (by decide) ?_
    refine nx_istore_n C d_D_termAt_23 rfl (Nat.le_of_ble_eq_true rfl) (lo' := [_, _, _, some (.int _)]) rfl ?_
    refine qx_iload_n C d_D_termAt_24 rfl rfl ?_
    refine nx_if_ge C 32 d_D_termAt_25 (by decide) (by omega) (fun h2 => ?_) (fun h2 => ?_)
    · refine qx_aload_n C d_D_termAt_32 rfl rfl ?_
      refine mx_gi C d_D_termAt_33 fl_D_35 rfl ?_
      refine qx_iload_n C d_D_termAt_36 rfl rfl ?_
      refine mx_ia C I 9 240 d_D_termAt_37 (by unfold md_a; omega) rfl rfl (by omega) (by omega) ?_
      refine qx_iret C d_D_termAt_38 (Nat.zero_le _) (Nat.zero_le _) ⟨_, rfl, ?_, rfl⟩
      unfold md_termAt
      rw [if_neg (by omega), if_neg (by omega)]
    · refine qx_iconst C d_D_termAt_28 (v := iI (-1)) rfl ?_
      refine qx_goto C d_D_termAt_29 (tgt := 38) (by decide) ?_
      refine qx_iret C d_D_termAt_38 (Nat.zero_le _) (Nat.zero_le _) ⟨_, rfl, ?_, rfl⟩
      unfold md_termAt
      rw [if_neg (by omega), if_pos (by omega)]
  · refine qx_aload_n C d_D_termAt_10 rfl rfl ?_
    refine mx_gi C d_D_termAt_11 fl_D_23 rfl ?_
    refine qx_iload_n C d_D_termAt_14 rfl rfl ?_
    refine mx_ia C I 5 5 d_D_termAt_15 (by unfold md_a; omega) rfl rfl (by omega) (by omega) ?_
    refine qx_iret C d_D_termAt_16 (Nat.zero_le _) (Nat.zero_le _) ⟨_, rfl, ?_, rfl⟩
    unfold md_termAt
    rw [if_pos (by omega)]
theorem md_last_r {A : md_A} {s : Int} (hs : md_B A s) : rng (md_last A s) := by unfold md_last; omega
set_option maxRecDepth 100000 in
theorem m_lastTerm (l : Launch) (G : qh_G) (b : Nat) {o : Nat} {ad : Nat → Nat} {iv : Nat → Option Nat} (I : md_I o ad iv) (g : qh_H) {A : md_A} {s : Int} (hs : md_B A s) (d : Nat) : qj l y_D_lastTerm c_D_lastTerm 2 (some .int) (d + 3) 0 0 G b [.ref o, .int (iI s)] (md_h G o ad iv g A) (md_termAt A s (md_last A s)) (md_h G o ad iv g A) := by
  refine qx_of (lo := [some (.ref o), some (.int (iI s))]) (by decide) (fun w hw => List.mem_cons_of_mem _ hw) rfl (Nat.le_of_ble_eq_true rfl) rfl ?_
  intro X C
  refine qx_aload_n C d_D_lastTerm_0 rfl rfl ?_
  refine qx_iload_n C d_D_lastTerm_1 rfl rfl ?_
  refine qx_aload_n C d_D_lastTerm_2 rfl rfl ?_
  refine qx_iload_n C d_D_lastTerm_3 rfl rfl ?_
  refine nx_call0 C (s_D_lastTerm_4 md_o) (m_last l G b I g hs d) w_D_last rfl rfl (Nat.le_of_ble_eq_true rfl) (by omega) (by decide) ?_
  refine nx_call0 C (s_D_lastTerm_7 md_o) (m_termAt l G b I g hs (md_last_r hs) d) w_D_termAt rfl rfl (Nat.le_of_ble_eq_true rfl) (by omega) (by decide) ?_
  refine qx_iret C d_D_lastTerm_10 (Nat.zero_le _) (Nat.zero_le _) ⟨_, rfl, ?_, rfl⟩
  rfl
set_option maxRecDepth 100000 in
theorem m_latestMembers (l : Launch) (G : qh_G) (b : Nat) {o : Nat} {ad : Nat → Nat} {iv : Nat → Option Nat} (I : md_I o ad iv) (g : qh_H) {A : md_A} (hA : md_r A) {s : Int} (hs : md_B A s) {t : Nat} (ht : (t : Int) ≤ A 8 s) {to : Int} (hto : to = A 4 s + t) (d : Nat) : qj l y_D_latestMembers c_D_latestMembers 5 (some .int) (d + 2) 0 0 G b [.ref o, .int (iI s), .int (iI to)] (md_h G o ad iv g A) (md_lm A s t) (md_h G o ad iv g A) := by
  refine qx_of (lo := [some (.ref o), some (.int (iI s)), some (.int (iI to)), none, none]) (by decide) (fun w hw => List.mem_cons_of_mem _ hw) rfl (Nat.le_of_ble_eq_true rfl) rfl ?_
  intro X C
  have L : ∀ (r j : Nat) (f i : Int), j + r = t → f = md_lm A s j → i = A 4 s + 1 + j → X 12 [some (.ref o), some (.int (iI s)), some (.int (iI to)), some (.int (iI f)), some (.int (iI i))] [] (md_h G o ad iv g A) 0 0 := by
    intro r
    induction r with
    | zero =>
      intro j f i hj hf hi
      refine qx_iload C d_D_latestMembers_12 rfl ?_
      refine qx_iload_n C d_D_latestMembers_14 rfl rfl ?_
      refine nx_icmp_gt C 43 d_D_latestMembers_15 (by decide) (by omega) (by omega) (fun hc => ?_) (fun hc => ?_)
      · refine qx_iload_n C d_D_latestMembers_43 rfl rfl ?_
        refine qx_iret C d_D_latestMembers_44 (Nat.zero_le _) (Nat.zero_le _) ⟨_, rfl, ?_, rfl⟩
        rw [hf, show j = t by omega]
      · exact absurd hc (by omega)
    | succ r ih =>
      intro j f i hj hf hi
      have hcell : md_cell A s i = 48 * s + j := by rw [hi]; exact md_cell_in (by omega)
      have hq := hA 10 (48 * s + j)
      refine qx_iload C d_D_latestMembers_12 rfl ?_
      refine qx_iload_n C d_D_latestMembers_14 rfl rfl ?_
      refine nx_icmp_gt C 43 d_D_latestMembers_15 (by decide) (by omega) (by omega) (fun hc => ?_) (fun hc => ?_)
      · exact absurd hc (by omega)
      · refine qx_aload_n C d_D_latestMembers_18 rfl rfl ?_
        refine mx_gi C d_D_latestMembers_19 fl_D_38 rfl ?_
        refine qx_aload_n C d_D_latestMembers_22 rfl rfl ?_
        refine qx_iload_n C d_D_latestMembers_23 rfl rfl ?_
        refine qx_iload C d_D_latestMembers_24 rfl ?_
        refine nx_call0 C (s_D_latestMembers_26 md_o) (m_cell l G b I g hs (by omega) d) w_D_cell rfl rfl (Nat.le_of_ble_eq_true rfl) (by omega) (by decide) ?_
        rw [hcell]
        refine mx_ia C I 10 240 d_D_latestMembers_29 (by unfold md_a; omega) rfl rfl (by omega) (by omega) ?_
        refine qx_iconst C d_D_latestMembers_30 (v := iI (2)) rfl ?_
        refine nx_icmp_ne C 37 d_D_latestMembers_31 (by decide) (by omega) (by omega) (fun h2 => ?_) (fun h2 => ?_)
        · refine nx_iinc C d_D_latestMembers_37 rfl (lo' := [_, _, _, _, some (.int _)]) rfl ?_
          refine qx_goto C d_D_latestMembers_40 (tgt := 12) (by decide) ?_
          exact ih (j + 1) _ _ (by omega) (by rw [hf, md_lm_s, if_neg h2]) (by omega)
        · refine qx_iload C d_D_latestMembers_34 rfl ?_
          refine nx_istore_n C d_D_latestMembers_36 rfl (Nat.le_of_ble_eq_true rfl) (lo' := [_, _, _, some (.int _), _]) rfl ?_
          refine nx_iinc C d_D_latestMembers_37 rfl (lo' := [_, _, _, _, some (.int _)]) rfl ?_
          refine qx_goto C d_D_latestMembers_40 (tgt := 12) (by decide) ?_
          exact ih (j + 1) _ _ (by omega) (by rw [md_lm_s, if_pos h2]; omega) (by omega)
  refine qx_iconst C d_D_latestMembers_0 (v := iI (0)) rfl ?_
  refine nx_istore_n C d_D_latestMembers_1 rfl (Nat.le_of_ble_eq_true rfl) (lo' := [_, _, _, some (.int _), _]) rfl ?_
  refine qx_aload_n C d_D_latestMembers_2 rfl rfl ?_
  refine mx_gi C d_D_latestMembers_3 fl_D_20 rfl ?_
  refine qx_iload_n C d_D_latestMembers_6 rfl rfl ?_
  refine mx_ia C I 4 5 d_D_latestMembers_7 (by unfold md_a; omega) rfl rfl (by omega) (by omega) ?_
  refine qx_iconst C d_D_latestMembers_8 (v := iI (1)) rfl ?_
  refine nx_iadd C d_D_latestMembers_9 ?_
  refine nx_istore C d_D_latestMembers_10 (Nat.le_of_ble_eq_true rfl) (lo' := [_, _, _, _, some (.int _)]) rfl ?_
  exact L t 0 _ _ (by omega) rfl (by omega)
set_option maxRecDepth 100000 in
theorem m_membersAt (l : Launch) (G : qh_G) (b : Nat) {o : Nat} {ad : Nat → Nat} {iv : Nat → Option Nat} (I : md_I o ad iv) (g : qh_H) {A : md_A} (hA : md_r A) {s : Int} (hs : md_B A s) {t : Nat} (ht : (t : Int) ≤ A 8 s) {to : Int} (hto : to = A 4 s + t) (d : Nat) : qj l y_D_membersAt c_D_membersAt 4 (some .int) (d + 3) 0 0 G b [.ref o, .int (iI s), .int (iI to)] (md_h G o ad iv g A) (md_mem A s t) (md_h G o ad iv g A) := by
  have hmr : 0 ≤ md_lm A s t ∧ md_lm A s t ≤ 1000100 := by rcases md_lm_in A s t with h | ⟨j, h1, h2⟩ <;> omega
  refine qx_of (lo := [some (.ref o), some (.int (iI s)), some (.int (iI to)), none]) (by decide) (fun w hw => List.mem_cons_of_mem _ hw) rfl (Nat.le_of_ble_eq_true rfl) rfl ?_
  intro X C
  refine qx_aload_n C d_D_membersAt_0 rfl rfl ?_
  refine qx_iload_n C d_D_membersAt_1 rfl rfl ?_
  refine qx_iload_n C d_D_membersAt_2 rfl rfl ?_
  refine nx_call0 C (s_D_membersAt_3 md_o) (m_latestMembers l G b I g hA hs ht hto d) w_D_latestMembers rfl rfl (Nat.le_of_ble_eq_true rfl) (by omega) (by decide) ?_
  refine nx_istore_n C d_D_membersAt_6 rfl (Nat.le_of_ble_eq_true rfl) (lo' := [_, _, _, some (.int _)]) rfl ?_
  refine qx_iload_n C d_D_membersAt_7 rfl rfl ?_
  refine nx_if_ne C 20 d_D_membersAt_8 (by decide) (by omega) (fun hc => ?_) (fun hc => ?_)
  · have hcell : 0 ≤ md_cell A s (md_lm A s t) ∧ md_cell A s (md_lm A s t) < 240 := by
      rcases md_lm_in A s t with h | ⟨j, h1, h2⟩
      · exact absurd h hc
      · rw [h2, md_cell_in (by omega)]; omega
    refine qx_aload_n C d_D_membersAt_20 rfl rfl ?_
    refine mx_gi C d_D_membersAt_21 fl_D_41 rfl ?_
    refine qx_aload_n C d_D_membersAt_24 rfl rfl ?_
    refine qx_iload_n C d_D_membersAt_25 rfl rfl ?_
    refine qx_iload_n C d_D_membersAt_26 rfl rfl ?_
    refine nx_call0 C (s_D_membersAt_27 md_o) (m_cell l G b I g hs (by omega) d) w_D_cell rfl rfl (Nat.le_of_ble_eq_true rfl) (by omega) (by decide) ?_
    refine mx_ia C I 11 240 d_D_membersAt_30 (by unfold md_a; omega) rfl rfl (by omega) (by omega) ?_
    refine qx_iret C d_D_membersAt_31 (Nat.zero_le _) (Nat.zero_le _) ⟨_, rfl, ?_, rfl⟩
    unfold md_mem
    rw [if_neg hc]
  · refine qx_aload_n C d_D_membersAt_11 rfl rfl ?_
    refine mx_gi C d_D_membersAt_12 fl_D_26 rfl ?_
    refine qx_iload_n C d_D_membersAt_15 rfl rfl ?_
    refine mx_ia C I 6 5 d_D_membersAt_16 (by unfold md_a; omega) rfl rfl (by omega) (by omega) ?_
    refine qx_goto C d_D_membersAt_17 (tgt := 31) (by decide) ?_
    refine qx_iret C d_D_membersAt_31 (Nat.zero_le _) (Nat.zero_le _) ⟨_, rfl, ?_, rfl⟩
    unfold md_mem
    rw [if_pos hc]
theorem md_sz {A : md_A} {s : Int} (hs : md_B A s) : (((A 8 s).toNat : Nat) : Int) = A 8 s := by omega
set_option maxRecDepth 100000 in
theorem m_config (l : Launch) (G : qh_G) (b : Nat) {o : Nat} {ad : Nat → Nat} {iv : Nat → Option Nat} (I : md_I o ad iv) (g : qh_H) {A : md_A} (hA : md_r A) {s : Int} (hs : md_B A s) (d : Nat) : qj l y_D_config c_D_config 2 (some .int) (d + 4) 0 0 G b [.ref o, .int (iI s)] (md_h G o ad iv g A) (md_config A s) (md_h G o ad iv g A) := by
  have hz := md_sz hs
  refine qx_of (lo := [some (.ref o), some (.int (iI s))]) (by decide) (fun w hw => List.mem_cons_of_mem _ hw) rfl (Nat.le_of_ble_eq_true rfl) rfl ?_
  intro X C
  refine qx_aload_n C d_D_config_0 rfl rfl ?_
  refine qx_iload_n C d_D_config_1 rfl rfl ?_
  refine qx_aload_n C d_D_config_2 rfl rfl ?_
  refine qx_iload_n C d_D_config_3 rfl rfl ?_
  refine nx_call0 C (s_D_config_4 md_o) (m_last l G b I g hs d) w_D_last rfl rfl (Nat.le_of_ble_eq_true rfl) (by omega) (by decide) ?_
  refine nx_call0 C (s_D_config_7 md_o) (m_membersAt l G b I g hA hs (t := (A 8 s).toNat) (by omega) (by unfold md_last; omega) d) w_D_membersAt rfl rfl (Nat.le_of_ble_eq_true rfl) (by omega) (by decide) ?_
  refine qx_iret C d_D_config_10 (Nat.zero_le _) (Nat.zero_le _) ⟨_, rfl, ?_, rfl⟩
  rfl
set_option maxRecDepth 100000 in
theorem m_valueAt (l : Launch) (G : qh_G) (b : Nat) {o : Nat} {ad : Nat → Nat} {iv : Nat → Option Nat} (I : md_I o ad iv) (g : qh_H) {A : md_A} (hA : md_r A) {s key : Int} (hs : md_B A s) (hk : 0 ≤ key ∧ key < 4) {t : Nat} (ht : (t : Int) ≤ A 8 s) {to : Int} (hto : to = A 4 s + t) (d : Nat) : qj l y_D_valueAt c_D_valueAt 7 (some .int) (d + 2) 0 0 G b [.ref o, .int (iI s), .int (iI key), .int (iI to)] (md_h G o ad iv g A) (md_val A s key t) (md_h G o ad iv g A) := by
  refine qx_of (lo := [some (.ref o), some (.int (iI s)), some (.int (iI key)), some (.int (iI to)), none, none, none]) (by decide) (fun w hw => List.mem_cons_of_mem _ hw) rfl (Nat.le_of_ble_eq_true rfl) rfl ?_
  intro X C
  have L : ∀ (r j : Nat) (f i : Int) (z : Option Value), j + r = t → f = md_val A s key j → i = A 4 s + 1 + j → X 22 [some (.ref o), some (.int (iI s)), some (.int (iI key)), some (.int (iI to)), some (.int (iI f)), some (.int (iI i)), z] [] (md_h G o ad iv g A) 0 0 := by
    intro r
    induction r with
    | zero =>
      intro j f i z hj hf hi
      refine qx_iload C d_D_valueAt_22 rfl ?_
      refine qx_iload_n C d_D_valueAt_24 rfl rfl ?_
      refine nx_icmp_gt C 74 d_D_valueAt_25 (by decide) (by omega) (by omega) (fun hc => ?_) (fun hc => ?_)
      · refine qx_iload C d_D_valueAt_74 rfl ?_
        refine qx_iret C d_D_valueAt_76 (Nat.zero_le _) (Nat.zero_le _) ⟨_, rfl, ?_, rfl⟩
        rw [hf, show j = t by omega]
      · exact absurd hc (by omega)
    | succ r ih =>
      intro j f i z hj hf hi
      have hcell : md_cell A s i = 48 * s + j := by rw [hi]; exact md_cell_in (by omega)
      have hq := hA 10 (48 * s + j)
      have hq2 := hA 11 (48 * s + j)
      refine qx_iload C d_D_valueAt_22 rfl ?_
      refine qx_iload_n C d_D_valueAt_24 rfl rfl ?_
      refine nx_icmp_gt C 74 d_D_valueAt_25 (by decide) (by omega) (by omega) (fun hc => ?_) (fun hc => ?_)
      · exact absurd hc (by omega)
      · refine qx_aload_n C d_D_valueAt_28 rfl rfl ?_
        refine qx_iload_n C d_D_valueAt_29 rfl rfl ?_
        refine qx_iload C d_D_valueAt_30 rfl ?_
        refine nx_call0 C (s_D_valueAt_32 md_o) (m_cell l G b I g hs (by omega) d) w_D_cell rfl rfl (Nat.le_of_ble_eq_true rfl) (by omega) (by decide) ?_
        rw [hcell]
        refine nx_istore C d_D_valueAt_35 (Nat.le_of_ble_eq_true rfl) (lo' := [_, _, _, _, _, _, some (.int _)]) rfl ?_
        refine qx_aload_n C d_D_valueAt_37 rfl rfl ?_
        refine mx_gi C d_D_valueAt_38 fl_D_38 rfl ?_
        refine qx_iload C d_D_valueAt_41 rfl ?_
        refine mx_ia C I 10 240 d_D_valueAt_43 (by unfold md_a; omega) rfl rfl (by omega) (by omega) ?_
        refine qx_iconst C d_D_valueAt_44 (v := iI (1)) rfl ?_
        refine nx_icmp_ne C 68 d_D_valueAt_45 (by decide) (by omega) (by omega) (fun h2 => ?_) (fun h2 => ?_)
        · refine nx_iinc C d_D_valueAt_68 rfl (lo' := [_, _, _, _, _, some (.int _), _]) rfl ?_
          refine qx_goto C d_D_valueAt_71 (tgt := 22) (by decide) ?_
          exact ih (j + 1) _ _ _ (by omega) (by rw [hf, md_val_s, if_neg (fun q => h2 q.1)]) (by omega)
        · refine qx_aload_n C d_D_valueAt_48 rfl rfl ?_
          refine mx_gi C d_D_valueAt_49 fl_D_41 rfl ?_
          refine qx_iload C d_D_valueAt_52 rfl ?_
          refine mx_ia C I 11 240 d_D_valueAt_54 (by unfold md_a; omega) rfl rfl (by omega) (by omega) ?_
          refine qx_iload_n C d_D_valueAt_55 rfl rfl ?_
          refine nx_icmp_ne C 68 d_D_valueAt_56 (by decide) (by omega) (by omega) (fun h3 => ?_) (fun h3 => ?_)
          · refine nx_iinc C d_D_valueAt_68 rfl (lo' := [_, _, _, _, _, some (.int _), _]) rfl ?_
            refine qx_goto C d_D_valueAt_71 (tgt := 22) (by decide) ?_
            exact ih (j + 1) _ _ _ (by omega) (by rw [hf, md_val_s, if_neg (fun q => h3 q.2)]) (by omega)
          · refine qx_aload_n C d_D_valueAt_59 rfl rfl ?_
            refine mx_gi C d_D_valueAt_60 fl_D_44 rfl ?_
            refine qx_iload C d_D_valueAt_63 rfl ?_
            refine mx_ia C I 12 240 d_D_valueAt_65 (by unfold md_a; omega) rfl rfl (by omega) (by omega) ?_
            refine nx_istore C d_D_valueAt_66 (Nat.le_of_ble_eq_true rfl) (lo' := [_, _, _, _, some (.int _), _, _]) rfl ?_
            refine nx_iinc C d_D_valueAt_68 rfl (lo' := [_, _, _, _, _, some (.int _), _]) rfl ?_
            refine qx_goto C d_D_valueAt_71 (tgt := 22) (by decide) ?_
            exact ih (j + 1) _ _ _ (by omega) (by rw [md_val_s, if_pos ⟨h2, h3⟩]) (by omega)
  refine qx_aload_n C d_D_valueAt_0 rfl rfl ?_
  refine mx_gi C d_D_valueAt_1 fl_D_29 rfl ?_
  refine qx_iconst C d_D_valueAt_4 (v := iI (4)) rfl ?_
  refine qx_iload_n C d_D_valueAt_5 rfl rfl ?_
  refine nx_imul C d_D_valueAt_6 ?_
  refine qx_iload_n C d_D_valueAt_7 rfl rfl ?_
  refine nx_iadd C d_D_valueAt_8 ?_
  refine mx_ia C I 7 20 d_D_valueAt_9 (by unfold md_a; omega) rfl rfl (by omega) (by omega) ?_
  refine nx_istore C d_D_valueAt_10 (Nat.le_of_ble_eq_true rfl) (lo' := [_, _, _, _, some (.int _), _, _]) rfl ?_
  refine qx_aload_n C d_D_valueAt_12 rfl rfl ?_
  refine mx_gi C d_D_valueAt_13 fl_D_20 rfl ?_
  refine qx_iload_n C d_D_valueAt_16 rfl rfl ?_
  refine mx_ia C I 4 5 d_D_valueAt_17 (by unfold md_a; omega) rfl rfl (by omega) (by omega) ?_
  refine qx_iconst C d_D_valueAt_18 (v := iI (1)) rfl ?_
  refine nx_iadd C d_D_valueAt_19 ?_
  refine nx_istore C d_D_valueAt_20 (Nat.le_of_ble_eq_true rfl) (lo' := [_, _, _, _, _, some (.int _), _]) rfl ?_
  exact L t 0 _ _ _ (by omega) rfl (by omega)
theorem md_cnt_r {c : Int} : 0 ≤ md_cnt c ∧ md_cnt c ≤ 5 := by
  unfold md_cnt
  have h0 := bit_01 c 0
  have h1 := bit_01 c 1
  have h2 := bit_01 c 2
  have h3 := bit_01 c 3
  have h4 := bit_01 c 4
  omega
set_option maxRecDepth 100000 in
theorem m_count (l : Launch) (G : qh_G) (b : Nat) (h : qh_H) {c : Int} (hc5 : set5 c) (d : Nat) : qj l y_D_count c_D_count 3 (some .int) d 0 0 G b [.int (iI c)] h (md_cnt c) h := by
  have h0 := bit_01 c 0
  have h1 := bit_01 c 1
  have h2 := bit_01 c 2
  have h3 := bit_01 c 3
  have h4 := bit_01 c 4
  refine qx_of (lo := [some (.int (iI c)), none, none]) (by decide) (fun w hw => List.mem_cons_of_mem _ hw) rfl (Nat.le_of_ble_eq_true rfl) rfl ?_
  intro X C
  refine qx_iconst C d_D_count_0 (v := iI (0)) rfl ?_
  refine nx_istore_n C d_D_count_1 rfl (Nat.le_of_ble_eq_true rfl) (lo' := [_, some (.int _), _]) rfl ?_
  refine qx_iconst C d_D_count_2 (v := iI (0)) rfl ?_
  refine nx_istore_n C d_D_count_3 rfl (Nat.le_of_ble_eq_true rfl) (lo' := [_, _, some (.int _)]) rfl ?_
  refine qx_iload_n C d_D_count_4 rfl rfl ?_
  refine qx_iconst C d_D_count_5 (v := iI (5)) rfl ?_
  refine nx_icmp_ge C 23 d_D_count_6 (by decide) (by omega) (by omega) (fun hc => ?_) (fun hc => ?_)
  · exact absurd hc (by omega)
  refine qx_iload_n C d_D_count_9 rfl rfl ?_
  refine qx_iload_n C d_D_count_10 rfl rfl ?_
  refine qx_iload_n C d_D_count_11 rfl rfl ?_
  refine nx_bit C d_D_count_12 d_D_count_13 d_D_count_14 (by omega) (by omega) ?_
  refine nx_iadd C d_D_count_15 ?_
  refine nx_istore_n C d_D_count_16 rfl (Nat.le_of_ble_eq_true rfl) (lo' := [_, some (.int _), _]) rfl ?_
  refine nx_iinc C d_D_count_17 rfl (lo' := [_, _, some (.int _)]) rfl ?_
  refine qx_goto C d_D_count_20 (tgt := 4) (by decide) ?_
  refine qx_iload_n C d_D_count_4 rfl rfl ?_
  refine qx_iconst C d_D_count_5 (v := iI (5)) rfl ?_
  refine nx_icmp_ge C 23 d_D_count_6 (by decide) (by omega) (by omega) (fun hc => ?_) (fun hc => ?_)
  · exact absurd hc (by omega)
  refine qx_iload_n C d_D_count_9 rfl rfl ?_
  refine qx_iload_n C d_D_count_10 rfl rfl ?_
  refine qx_iload_n C d_D_count_11 rfl rfl ?_
  refine nx_bit C d_D_count_12 d_D_count_13 d_D_count_14 (by omega) (by omega) ?_
  refine nx_iadd C d_D_count_15 ?_
  refine nx_istore_n C d_D_count_16 rfl (Nat.le_of_ble_eq_true rfl) (lo' := [_, some (.int _), _]) rfl ?_
  refine nx_iinc C d_D_count_17 rfl (lo' := [_, _, some (.int _)]) rfl ?_
  refine qx_goto C d_D_count_20 (tgt := 4) (by decide) ?_
  refine qx_iload_n C d_D_count_4 rfl rfl ?_
  refine qx_iconst C d_D_count_5 (v := iI (5)) rfl ?_
  refine nx_icmp_ge C 23 d_D_count_6 (by decide) (by omega) (by omega) (fun hc => ?_) (fun hc => ?_)
  · exact absurd hc (by omega)
  refine qx_iload_n C d_D_count_9 rfl rfl ?_
  refine qx_iload_n C d_D_count_10 rfl rfl ?_
  refine qx_iload_n C d_D_count_11 rfl rfl ?_
  refine nx_bit C d_D_count_12 d_D_count_13 d_D_count_14 (by omega) (by omega) ?_
  refine nx_iadd C d_D_count_15 ?_
  refine nx_istore_n C d_D_count_16 rfl (Nat.le_of_ble_eq_true rfl) (lo' := [_, some (.int _), _]) rfl ?_
  refine nx_iinc C d_D_count_17 rfl (lo' := [_, _, some (.int _)]) rfl ?_
  refine qx_goto C d_D_count_20 (tgt := 4) (by decide) ?_
  refine qx_iload_n C d_D_count_4 rfl rfl ?_
  refine qx_iconst C d_D_count_5 (v := iI (5)) rfl ?_
  refine nx_icmp_ge C 23 d_D_count_6 (by decide) (by omega) (by omega) (fun hc => ?_) (fun hc => ?_)
  · exact absurd hc (by omega)
  refine qx_iload_n C d_D_count_9 rfl rfl ?_
  refine qx_iload_n C d_D_count_10 rfl rfl ?_
  refine qx_iload_n C d_D_count_11 rfl rfl ?_
  refine nx_bit C d_D_count_12 d_D_count_13 d_D_count_14 (by omega) (by omega) ?_
  refine nx_iadd C d_D_count_15 ?_
  refine nx_istore_n C d_D_count_16 rfl (Nat.le_of_ble_eq_true rfl) (lo' := [_, some (.int _), _]) rfl ?_
  refine nx_iinc C d_D_count_17 rfl (lo' := [_, _, some (.int _)]) rfl ?_
  refine qx_goto C d_D_count_20 (tgt := 4) (by decide) ?_
  refine qx_iload_n C d_D_count_4 rfl rfl ?_
  refine qx_iconst C d_D_count_5 (v := iI (5)) rfl ?_
  refine nx_icmp_ge C 23 d_D_count_6 (by decide) (by omega) (by omega) (fun hc => ?_) (fun hc => ?_)
  · exact absurd hc (by omega)
  refine qx_iload_n C d_D_count_9 rfl rfl ?_
  refine qx_iload_n C d_D_count_10 rfl rfl ?_
  refine qx_iload_n C d_D_count_11 rfl rfl ?_
  refine nx_bit C d_D_count_12 d_D_count_13 d_D_count_14 (by omega) (by omega) ?_
  refine nx_iadd C d_D_count_15 ?_
  refine nx_istore_n C d_D_count_16 rfl (Nat.le_of_ble_eq_true rfl) (lo' := [_, some (.int _), _]) rfl ?_
  refine nx_iinc C d_D_count_17 rfl (lo' := [_, _, some (.int _)]) rfl ?_
  refine qx_goto C d_D_count_20 (tgt := 4) (by decide) ?_
  refine qx_iload_n C d_D_count_4 rfl rfl ?_
  refine qx_iconst C d_D_count_5 (v := iI (5)) rfl ?_
  refine nx_icmp_ge C 23 d_D_count_6 (by decide) (by omega) (by omega) (fun hc => ?_) (fun hc => ?_)
  · refine qx_iload_n C d_D_count_23 rfl rfl ?_
    refine qx_iret C d_D_count_24 (Nat.zero_le _) (Nat.zero_le _) ⟨_, rfl, ?_, rfl⟩
    unfold md_cnt
    rw [show (0 : Int) + 1 = 1 from rfl, show (1 : Int) + 1 = 2 from rfl, show (2 : Int) + 1 = 3 from rfl, show (3 : Int) + 1 = 4 from rfl]
    congr 1
    omega
  · exact absurd hc (by omega)
set_option maxRecDepth 100000 in
theorem m_most (l : Launch) (G : qh_G) (b : Nat) {o : Nat} {ad : Nat → Nat} {iv : Nat → Option Nat} (I : md_I o ad iv) (g : qh_H) {A : md_A} (hA : md_r A) {s bits : Int} (hs : md_B A s) (hcf : set5 (md_config A s)) (hb5 : set5 bits) (d : Nat) : qj l y_D_most c_D_most 4 (some .boolean) (d + 5) 0 0 G b [.ref o, .int (iI s), .int (iI bits)] (md_h G o ad iv g A) (md_most A s bits) (md_h G o ad iv g A) := by
  have h1 := md_cnt_r (c := md_config A s)
  have h2 := md_cnt_r (c := ia (md_config A s) bits)
  refine qx_of (lo := [some (.ref o), some (.int (iI s)), some (.int (iI bits)), none]) (by decide) (fun w hw => List.mem_cons_of_mem _ hw) rfl (Nat.le_of_ble_eq_true rfl) rfl ?_
  intro X C
  refine qx_aload_n C d_D_most_0 rfl rfl ?_
  refine qx_iload_n C d_D_most_1 rfl rfl ?_
  refine nx_call0 C (s_D_most_2 md_o) (m_config l G b I g hA hs d) w_D_config rfl rfl (Nat.le_of_ble_eq_true rfl) (by omega) (by decide) ?_
  refine nx_istore_n C d_D_most_5 rfl (Nat.le_of_ble_eq_true rfl) (lo' := [_, _, _, some (.int _)]) rfl ?_
  refine qx_iconst C d_D_most_6 (v := iI (2)) rfl ?_
  refine qx_iload_n C d_D_most_7 rfl rfl ?_
  refine qx_iload_n C d_D_most_8 rfl rfl ?_
  refine nx_iand C d_D_most_9 (by omega) (by omega) ?_
  refine nx_call0 C s_D_most_10 (m_count l G b (md_h G o ad iv g A) (set5_and hcf hb5) d) w_D_count rfl rfl (Nat.le_of_ble_eq_true rfl) (by omega) (by decide) ?_
  refine nx_imul C d_D_most_13 ?_
  refine qx_iload_n C d_D_most_14 rfl rfl ?_
  refine nx_call0 C s_D_most_15 (m_count l G b (md_h G o ad iv g A) hcf d) w_D_count rfl rfl (Nat.le_of_ble_eq_true rfl) (by omega) (by decide) ?_
  refine nx_icmp_le C 25 d_D_most_18 (by decide) (by omega) (by omega) (fun hc => ?_) (fun hc => ?_)
  · refine qx_iconst C d_D_most_25 (v := iI (0)) rfl ?_
    refine qx_zret C d_D_most_26 (by decide) (Nat.zero_le _) (Nat.zero_le _) ⟨_, rfl, ?_, rfl⟩
    unfold md_most
    rw [if_neg (by omega)]
  · refine qx_iconst C d_D_most_21 (v := iI (1)) rfl ?_
    refine qx_goto C d_D_most_22 (tgt := 26) (by decide) ?_
    refine qx_zret C d_D_most_26 (by decide) (Nat.zero_le _) (Nat.zero_le _) ⟨_, rfl, ?_, rfl⟩
    unfold md_most
    rw [if_pos (by omega)]
set_option maxRecDepth 100000 in
theorem m_isMine (l : Launch) (G : qh_G) (b : Nat) {o : Nat} {ad : Nat → Nat} {iv : Nat → Option Nat} (I : md_I o ad iv) (g : qh_H) {A : md_A} (hA : md_r A) {s : Int} (hs : md_B A s) (hcf : set5 (md_config A s)) (d : Nat) : qj l y_D_isMine c_D_isMine 2 (some .boolean) (d + 5) 0 0 G b [.ref o, .int (iI s)] (md_h G o ad iv g A) (md_mine A s) (md_h G o ad iv g A) := by
  have h1 := bit_01 (md_config A s) s
  refine qx_of (lo := [some (.ref o), some (.int (iI s))]) (by decide) (fun w hw => List.mem_cons_of_mem _ hw) rfl (Nat.le_of_ble_eq_true rfl) rfl ?_
  intro X C
  refine qx_aload_n C d_D_isMine_0 rfl rfl ?_
  refine qx_iload_n C d_D_isMine_1 rfl rfl ?_
  refine nx_call0 C (s_D_isMine_2 md_o) (m_config l G b I g hA hs d) w_D_config rfl rfl (Nat.le_of_ble_eq_true rfl) (by omega) (by decide) ?_
  refine qx_iload_n C d_D_isMine_5 rfl rfl ?_
  refine nx_bit C d_D_isMine_6 d_D_isMine_7 d_D_isMine_8 (by omega) (by omega) ?_
  refine qx_iconst C d_D_isMine_9 (v := iI (1)) rfl ?_
  refine nx_icmp_ne C 17 d_D_isMine_10 (by decide) (by omega) (by omega) (fun hc => ?_) (fun hc => ?_)
  · refine qx_iconst C d_D_isMine_17 (v := iI (0)) rfl ?_
    refine qx_zret C d_D_isMine_18 (by decide) (Nat.zero_le _) (Nat.zero_le _) ⟨_, rfl, ?_, rfl⟩
    unfold md_mine
    congr 1
    omega
  · refine qx_iconst C d_D_isMine_13 (v := iI (1)) rfl ?_
    refine qx_goto C d_D_isMine_14 (tgt := 18) (by decide) ?_
    refine qx_zret C d_D_isMine_18 (by decide) (Nat.zero_le _) (Nat.zero_le _) ⟨_, rfl, ?_, rfl⟩
    unfold md_mine
    congr 1
    omega
set_option maxRecDepth 100000 in
theorem m_leads (l : Launch) (G : qh_G) (b : Nat) {o : Nat} {ad : Nat → Nat} {iv : Nat → Option Nat} (I : md_I o ad iv) (g : qh_H) {A : md_A} (hA : md_r A) {s : Int} (hs : 0 ≤ s ∧ s < 5) (d : Nat) : qj l y_D_leads c_D_leads 2 (some .boolean) d 0 0 G b [.ref o, .int (iI s)] (md_h G o ad iv g A) (md_leads A s) (md_h G o ad iv g A) := by
  have h1 := hA 1 s
  have h2 := hA 13 s
  refine qx_of (lo := [some (.ref o), some (.int (iI s))]) (by decide) (fun w hw => List.mem_cons_of_mem _ hw) rfl (Nat.le_of_ble_eq_true rfl) rfl ?_
  intro X C
  refine qx_aload_n C d_D_leads_0 rfl rfl ?_
  refine mx_gi C d_D_leads_1 fl_D_7 rfl ?_
  refine qx_iload_n C d_D_leads_4 rfl rfl ?_
  refine mx_za C I 1 5 d_D_leads_5 (by unfold md_a; omega) rfl rfl (by omega) (by omega) ?_
  refine nx_if_ne C 23 d_D_leads_6 (by decide) (by omega) (fun hc => ?_) (fun hc => ?_)
  · refine qx_iconst C d_D_leads_23 (v := iI (0)) rfl ?_
    refine qx_zret C d_D_leads_24 (by decide) (Nat.zero_le _) (Nat.zero_le _) ⟨_, rfl, ?_, rfl⟩
    unfold md_leads
    rw [if_neg (fun q => hc q.1)]
  · refine qx_aload_n C d_D_leads_9 rfl rfl ?_
    refine mx_gi C d_D_leads_10 fl_D_47 rfl ?_
    refine qx_iload_n C d_D_leads_13 rfl rfl ?_
    refine mx_ia C I 13 5 d_D_leads_14 (by unfold md_a; omega) rfl rfl (by omega) (by omega) ?_
    refine qx_iconst C d_D_leads_15 (v := iI (3)) rfl ?_
    refine nx_icmp_ne C 23 d_D_leads_16 (by decide) (by omega) (by omega) (fun h3 => ?_) (fun h3 => ?_)
    · refine qx_iconst C d_D_leads_23 (v := iI (0)) rfl ?_
      refine qx_zret C d_D_leads_24 (by decide) (Nat.zero_le _) (Nat.zero_le _) ⟨_, rfl, ?_, rfl⟩
      unfold md_leads
      rw [if_neg (fun q => h3 q.2)]
    · refine qx_iconst C d_D_leads_19 (v := iI (1)) rfl ?_
      refine qx_goto C d_D_leads_20 (tgt := 24) (by decide) ?_
      refine qx_zret C d_D_leads_24 (by decide) (Nat.zero_le _) (Nat.zero_le _) ⟨_, rfl, ?_, rfl⟩
      unfold md_leads
      rw [if_pos ⟨hc, h3⟩]
theorem md_termAt_r {A : md_A} (hA : md_r A) (s i : Int) : rng (md_termAt A s i) := by
  unfold md_termAt
  split
  · exact hA _ _
  · split
    · omega
    · exact hA _ _
set_option maxRecDepth 100000 in
theorem m_isOld (l : Launch) (G : qh_G) (b : Nat) {o : Nat} {ad : Nat → Nat} {iv : Nat → Option Nat} (I : md_I o ad iv) (g : qh_H) {A : md_A} (hA : md_r A) {s : Int} (hs : md_B A s) (d : Nat) : qj l y_D_isOld c_D_isOld 2 (some .boolean) (d + 3) 0 0 G b [.ref o, .int (iI s)] (md_h G o ad iv g A) (md_old A s) (md_h G o ad iv g A) := by
  have h1 := hA 2 s
  have h2 := md_termAt_r hA s (A 14 s)
  refine qx_of (lo := [some (.ref o), some (.int (iI s))]) (by decide) (fun w hw => List.mem_cons_of_mem _ hw) rfl (Nat.le_of_ble_eq_true rfl) rfl ?_
  intro X C
  refine qx_aload_n C d_D_isOld_0 rfl rfl ?_
  refine qx_iload_n C d_D_isOld_1 rfl rfl ?_
  refine qx_aload_n C d_D_isOld_2 rfl rfl ?_
  refine mx_gi C d_D_isOld_3 fl_D_50 rfl ?_
  refine qx_iload_n C d_D_isOld_6 rfl rfl ?_
  refine mx_ia C I 14 5 d_D_isOld_7 (by unfold md_a; omega) rfl rfl (by omega) (by omega) ?_
  refine nx_call0 C (s_D_isOld_8 md_o) (m_termAt l G b I g hs (hA 14 s) d) w_D_termAt rfl rfl (Nat.le_of_ble_eq_true rfl) (by omega) (by decide) ?_
  refine qx_aload_n C d_D_isOld_11 rfl rfl ?_
  refine mx_gi C d_D_isOld_12 fl_D_13 rfl ?_
  refine qx_iload_n C d_D_isOld_15 rfl rfl ?_
  refine mx_ia C I 2 5 d_D_isOld_16 (by unfold md_a; omega) rfl rfl (by omega) (by omega) ?_
  refine nx_icmp_eq C 24 d_D_isOld_17 (by decide) (by omega) (by omega) (fun hc => ?_) (fun hc => ?_)
  · refine qx_iconst C d_D_isOld_24 (v := iI (0)) rfl ?_
    refine qx_zret C d_D_isOld_25 (by decide) (Nat.zero_le _) (Nat.zero_le _) ⟨_, rfl, ?_, rfl⟩
    unfold md_old
    rw [if_pos hc]
  · refine qx_iconst C d_D_isOld_20 (v := iI (1)) rfl ?_
    refine qx_goto C d_D_isOld_21 (tgt := 25) (by decide) ?_
    refine qx_zret C d_D_isOld_25 (by decide) (Nat.zero_le _) (Nat.zero_le _) ⟨_, rfl, ?_, rfl⟩
    unfold md_old
    rw [if_neg hc]
theorem md_reach_5 {A : md_A} {k : Nat} {s mark : Int} (hs : 0 ≤ s ∧ s < 5) : ∀ n : Nat, n ≤ 5 → set5 (md_reach A k s mark n)
  | 0, _ => set5_one hs.1 hs.2
  | n + 1, h => by
    rw [md_reach_s]
    refine set5_or (md_reach_5 hs n (by omega)) ?_
    split
    · omega
    · exact set5_one (by omega) (by omega)
set_option maxRecDepth 100000 in
theorem m_having (l : Launch) (G : qh_G) (b : Nat) {o : Nat} {ad : Nat → Nat} {iv : Nat → Option Nat} (I : md_I o ad iv) (g : qh_H) {A : md_A} (hA : md_r A) {s i : Int} (hs : 0 ≤ s ∧ s < 5) (hi : rng i) (d : Nat) : qj l y_D_having c_D_having 5 (some .int) d 0 0 G b [.ref o, .int (iI s), .int (iI i)] (md_h G o ad iv g A) (md_reach A 18 s i 5) (md_h G o ad iv g A) := by
  refine qx_of (lo := [some (.ref o), some (.int (iI s)), some (.int (iI i)), none, none]) (by decide) (fun w hw => List.mem_cons_of_mem _ hw) rfl (Nat.le_of_ble_eq_true rfl) rfl ?_
  intro X C
  have L : ∀ (r j : Nat) (f q : Int), j + r = 5 → f = md_reach A 18 s i j → q = j → X 7 [some (.ref o), some (.int (iI s)), some (.int (iI i)), some (.int (iI f)), some (.int (iI q))] [] (md_h G o ad iv g A) 0 0 := by
    intro r
    induction r with
    | zero =>
      intro j f q hj hf hq
      refine qx_iload C d_D_having_7 rfl ?_
      refine qx_iconst C d_D_having_9 (v := iI (5)) rfl ?_
      refine nx_icmp_ge C 45 d_D_having_10 (by decide) (by omega) (by omega) (fun hc => ?_) (fun hc => ?_)
      · refine qx_iload_n C d_D_having_45 rfl rfl ?_
        refine qx_iret C d_D_having_46 (Nat.zero_le _) (Nat.zero_le _) ⟨_, rfl, ?_, rfl⟩
        rw [hf, show j = 5 by omega]
      · exact absurd hc (by omega)
    | succ r ih =>
      intro j f q hj hf hq
      have h1 := hA 18 (5 * s + q)
      have h5 := md_reach_5 (A := A) (k := 18) (mark := i) hs j (by omega)
      rw [← hf] at h5
      have h6 := set5_one (k := q) (by omega) (by omega)
      refine qx_iload C d_D_having_7 rfl ?_
      refine qx_iconst C d_D_having_9 (v := iI (5)) rfl ?_
      refine nx_icmp_ge C 45 d_D_having_10 (by decide) (by omega) (by omega) (fun hc => ?_) (fun hc => ?_)
      · exact absurd hc (by omega)
      · refine qx_iload_n C d_D_having_13 rfl rfl ?_
        refine qx_aload_n C d_D_having_14 rfl rfl ?_
        refine mx_gi C d_D_having_15 fl_D_62 rfl ?_
        refine qx_iconst C d_D_having_18 (v := iI (5)) rfl ?_
        refine qx_iload_n C d_D_having_19 rfl rfl ?_
        refine nx_imul C d_D_having_20 ?_
        refine qx_iload C d_D_having_21 rfl ?_
        refine nx_iadd C d_D_having_23 ?_
        refine mx_ia C I 18 25 d_D_having_24 (by unfold md_a; omega) rfl rfl (by omega) (by omega) ?_
        refine qx_iload_n C d_D_having_25 rfl rfl ?_
        refine nx_icmp_lt C 36 d_D_having_26 (by decide) (by omega) (by omega) (fun h2 => ?_) (fun h2 => ?_)
        · refine qx_iconst C d_D_having_36 (v := iI (0)) rfl ?_
          refine nx_ior C d_D_having_37 (by omega) (by omega) ?_
          refine nx_istore_n C d_D_having_38 rfl (Nat.le_of_ble_eq_true rfl) (lo' := [_, _, _, some (.int _), _]) rfl ?_
          refine nx_iinc C d_D_having_39 rfl (lo' := [_, _, _, _, some (.int _)]) rfl ?_
          refine qx_goto C d_D_having_42 (tgt := 7) (by decide) ?_
          exact ih (j + 1) _ _ (by omega) (by rw [md_reach_s, ← hq, if_pos h2, ← hf]) (by omega)
        · refine qx_iconst C d_D_having_29 (v := iI (1)) rfl ?_
          refine qx_iload C d_D_having_30 rfl ?_
          refine nx_ishl1 C d_D_having_32 (by omega) ?_
          refine qx_goto C d_D_having_33 (tgt := 37) (by decide) ?_
          refine nx_ior C d_D_having_37 (by omega) (by omega) ?_
          refine nx_istore_n C d_D_having_38 rfl (Nat.le_of_ble_eq_true rfl) (lo' := [_, _, _, some (.int _), _]) rfl ?_
          refine nx_iinc C d_D_having_39 rfl (lo' := [_, _, _, _, some (.int _)]) rfl ?_
          refine qx_goto C d_D_having_42 (tgt := 7) (by decide) ?_
          exact ih (j + 1) _ _ (by omega) (by rw [md_reach_s, ← hq, if_neg h2, ← hf]) (by omega)
  refine qx_iconst C d_D_having_0 (v := iI (1)) rfl ?_
  refine qx_iload_n C d_D_having_1 rfl rfl ?_
  refine nx_ishl1 C d_D_having_2 (by omega) ?_
  refine nx_istore_n C d_D_having_3 rfl (Nat.le_of_ble_eq_true rfl) (lo' := [_, _, _, some (.int _), _]) rfl ?_
  refine qx_iconst C d_D_having_4 (v := iI (0)) rfl ?_
  refine nx_istore C d_D_having_5 (Nat.le_of_ble_eq_true rfl) (lo' := [_, _, _, _, some (.int _)]) rfl ?_
  exact L 5 0 _ _ (by omega) rfl (by omega)
