/-! the reference: what it reads -/
abbrev qj (l : Launch) (y : MethodName) (cc : ByteArray) (nL : Nat) (rt : Option FieldType) (d mc ms : Nat) (G : qh_G) (b : Nat) (av : List Value) (h : qh_H) (r : Int) (h2 : qh_H) : Prop :=
  qx_M l y (Cond.code y cc nL rt :: qu_W) (qr d mc ms) G b av h (fun oc h' => ∃ z : Int32, oc = .returned (some (.int z)) ∧ (z = iI r ∧ h' = h2))
abbrev qv (l : Launch) (y : MethodName) (cc : ByteArray) (nL : Nat) (rt : Option FieldType) (d mc ms : Nat) (G : qh_G) (b : Nat) (av : List Value) (h : qh_H) (h2 : qh_H) : Prop :=
  qx_M l y (Cond.code y cc nL rt :: qu_W) (qr d mc ms) G b av h (fun oc h' => oc = .returned none ∧ h' = h2)
theorem nx_call0 {l : Launch} {G : qh_G} {b : Nat} {own nm : String} {cc : ByteArray} {nL : Nat} {ret : Option FieldType} {tb : List (Nat × Nat × Nat × Nat)} {post : Outcome → qh_H → Prop} {X : qw_T} {pc : Nat} {lo : List (Option Value)} {st : List Value} {h : qh_H} {k n d mc ms : Nat} {y : MethodName} {cY : ByteArray} {nY : Nat} {rY : Option FieldType} {e : Nat} {av rest : List Value} {r : Int} {h2 : qh_H} (C : qw_C l G b own nm cc nL ret tb (qr d mc ms) post X)
    (hsite : qx_Site l G own cc pc y av rest h) (hM : qj l y cY nY rY e 0 0 G b av h r h2) (hy : Cond.code y cY nY rY ∈ qu_W ∧ Cond.initialized y.cls ∈ qu_W) (hst : st = av.reverse ++ rest) (hll : lo.length = nL) (hro : (rest.map fun v => v.category).sum ≤ 8) (hed : e < d ∧ k ≤ mc ∧ n ≤ ms) (hnY : nY ≤ 8)
    (kk : X (pc + 3) lo (.int (iI r) :: rest) h2 k n) : X pc lo st h k n :=
  qx_runi C hsite hM hy hst hll hro (qr_ok hed.1 hnY hed.2.1 hed.2.2) (fun z h' hq => by obtain ⟨rfl, rfl⟩ := hq; exact kk)
theorem nx_callv {l : Launch} {G : qh_G} {b : Nat} {own nm : String} {cc : ByteArray} {nL : Nat} {ret : Option FieldType} {tb : List (Nat × Nat × Nat × Nat)} {post : Outcome → qh_H → Prop} {X : qw_T} {pc : Nat} {lo : List (Option Value)} {st : List Value} {h : qh_H} {k n d mc ms : Nat} {y : MethodName} {cY : ByteArray} {nY : Nat} {rY : Option FieldType} {e : Nat} {av rest : List Value} {h2 : qh_H} (C : qw_C l G b own nm cc nL ret tb (qr d mc ms) post X)
    (hsite : qx_Site l G own cc pc y av rest h) (hM : qv l y cY nY rY e 0 0 G b av h h2) (hy : Cond.code y cY nY rY ∈ qu_W ∧ Cond.initialized y.cls ∈ qu_W) (hst : st = av.reverse ++ rest) (hll : lo.length = nL) (hro : (rest.map fun v => v.category).sum ≤ 8) (hed : e < d ∧ k ≤ mc ∧ n ≤ ms) (hnY : nY ≤ 8)
    (kk : X (pc + 3) lo rest h2 k n) : X pc lo st h k n :=
  qx_runv C hsite hM hy hst hll hro (qr_ok hed.1 hnY hed.2.1 hed.2.2) (fun h' hq => by subst hq; exact kk)
def md_last (A : md_A) (s : Int) : Int := A 4 s + A 8 s
def md_cell (A : md_A) (s i : Int) : Int := if A 4 s < i ∧ i ≤ md_last A s then 48 * s + i - A 4 s - 1 else -1
def md_termAt (A : md_A) (s i : Int) : Int := if i = A 4 s then A 5 s else if md_cell A s i < 0 then -1 else A 9 (md_cell A s i)
/-- a server's snapshot index and size, in bounds -/
abbrev md_B (A : md_A) (s : Int) : Prop := 0 ≤ s ∧ s < 5 ∧ 0 ≤ A 4 s ∧ A 4 s ≤ 1000000 ∧ 0 ≤ A 8 s ∧ A 8 s ≤ 48
set_option maxRecDepth 100000 in
theorem m_last (l : Launch) (G : qh_G) (b : Nat) {o : Nat} {ad : Nat → Nat} {iv : Nat → Option Nat} (I : md_I o ad iv) (g : qh_H) {A : md_A} {s : Int} (hs : md_B A s) (d : Nat) : qj l y_D_last c_D_last 2 (some .int) d 0 0 G b [.ref o, .int (iI s)] (md_h G o ad iv g A) (md_last A s) (md_h G o ad iv g A) := by
  refine qx_of (lo := [some (.ref o), some (.int (iI s))]) (by decide) (fun w hw => List.mem_cons_of_mem _ hw) rfl (Nat.le_of_ble_eq_true rfl) rfl ?_
  intro X C
  refine qx_aload_n C d_D_last_0 rfl rfl ?_
  refine mx_gi C d_D_last_1 fl_D_20 rfl ?_
  refine qx_iload_n C d_D_last_4 rfl rfl ?_
  refine mx_ia C I 4 5 d_D_last_5 (by unfold md_a; omega) rfl rfl (by omega) (by omega) ?_
  refine qx_aload_n C d_D_last_6 rfl rfl ?_
  refine mx_gi C d_D_last_7 fl_D_32 rfl ?_
  refine qx_iload_n C d_D_last_10 rfl rfl ?_
  refine mx_ia C I 8 5 d_D_last_11 (by unfold md_a; omega) rfl rfl (by omega) (by omega) ?_
  refine nx_iadd C d_D_last_12 ?_
  refine qx_iret C d_D_last_13 (Nat.zero_le _) (Nat.zero_le _) ⟨_, rfl, ?_, rfl⟩
  rfl
set_option maxRecDepth 100000 in
theorem m_cell (l : Launch) (G : qh_G) (b : Nat) {o : Nat} {ad : Nat → Nat} {iv : Nat → Option Nat} (I : md_I o ad iv) (g : qh_H) {A : md_A} {s i : Int} (hs : md_B A s) (hi : rng i) (d : Nat) : qj l y_D_cell c_D_cell 3 (some .int) (d + 1) 0 0 G b [.ref o, .int (iI s), .int (iI i)] (md_h G o ad iv g A) (md_cell A s i) (md_h G o ad iv g A) := by
  have hl : md_last A s = A 4 s + A 8 s := rfl
  refine qx_of (lo := [some (.ref o), some (.int (iI s)), some (.int (iI i))]) (by decide) (fun w hw => List.mem_cons_of_mem _ hw) rfl (Nat.le_of_ble_eq_true rfl) rfl ?_
  intro X C
  refine qx_iload_n C d_D_cell_0 rfl rfl ?_
  refine qx_aload_n C d_D_cell_1 rfl rfl ?_
  refine mx_gi C d_D_cell_2 fl_D_20 rfl ?_
  refine qx_iload_n C d_D_cell_5 rfl rfl ?_
  refine mx_ia C I 4 5 d_D_cell_6 (by unfold md_a; omega) rfl rfl (by omega) (by omega) ?_
  refine nx_icmp_le C 37 d_D_cell_7 (by decide) (by omega) (by omega) (fun hc => ?_) (fun hc => ?_)
  · refine qx_iconst C d_D_cell_37 (v := iI (-1)) rfl ?_
    refine qx_iret C d_D_cell_38 (Nat.zero_le _) (Nat.zero_le _) ⟨_, rfl, ?_, rfl⟩
    unfold md_cell
    rw [if_neg (by omega)]
  · refine qx_iload_n C d_D_cell_10 rfl rfl ?_
    refine qx_aload_n C d_D_cell_11 rfl rfl ?_
    refine qx_iload_n C d_D_cell_12 rfl rfl ?_
    refine nx_call0 C (s_D_cell_13 md_o) (m_last l G b I g hs d) w_D_last rfl rfl (Nat.le_of_ble_eq_true rfl) (by omega) (by decide) ?_
    refine nx_icmp_gt C 37 d_D_cell_16 (by decide) (by omega) (by omega) (fun hc => ?_) (fun hc => ?_)
    · refine qx_iconst C d_D_cell_37 (v := iI (-1)) rfl ?_
      refine qx_iret C d_D_cell_38 (Nat.zero_le _) (Nat.zero_le _) ⟨_, rfl, ?_, rfl⟩
      unfold md_cell
      rw [if_neg (by omega)]
    · refine qx_bipush C d_D_cell_19 (v := iI (48)) (by decide) ?_
      refine qx_iload_n C d_D_cell_21 rfl rfl ?_
      refine nx_imul C d_D_cell_22 ?_
      refine qx_iload_n C d_D_cell_23 rfl rfl ?_
      refine nx_iadd C d_D_cell_24 ?_
      refine qx_aload_n C d_D_cell_25 rfl rfl ?_
      refine mx_gi C d_D_cell_26 fl_D_20 rfl ?_
      refine qx_iload_n C d_D_cell_29 rfl rfl ?_
      refine mx_ia C I 4 5 d_D_cell_30 (by unfold md_a; omega) rfl rfl (by omega) (by omega) ?_
      refine nx_isub C d_D_cell_31 ?_
      refine qx_iconst C d_D_cell_32 (v := iI (1)) rfl ?_
      refine nx_isub C d_D_cell_33 ?_
      refine qx_goto C d_D_cell_34 (tgt := 38) (by decide) ?_
      refine qx_iret C d_D_cell_38 (Nat.zero_le _) (Nat.zero_le _) ⟨_, rfl, ?_, rfl⟩
      unfold md_cell
      rw [if_pos (by omega)]
