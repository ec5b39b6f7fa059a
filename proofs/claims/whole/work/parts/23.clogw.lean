/-! the class: a log's writers; contracts whose last state is known by a property -/
abbrev qp (l : Launch) (y : MethodName) (cc : ByteArray) (nL : Nat) (rt : Option FieldType) (d mc ms : Nat) (G : qh_G) (b : Nat) (av : List Value) (h : qh_H) (r : Int) (P : qh_H → Prop) : Prop :=
  qx_M l y (Cond.code y cc nL rt :: qu_W) (qr d mc ms) G b av h (fun oc h' => ∃ z : Int32, oc = .returned (some (.int z)) ∧ (z = iI r ∧ P h'))
abbrev qpv (l : Launch) (y : MethodName) (cc : ByteArray) (nL : Nat) (rt : Option FieldType) (d mc ms : Nat) (G : qh_G) (b : Nat) (av : List Value) (h : qh_H) (P : qh_H → Prop) : Prop :=
  qx_M l y (Cond.code y cc nL rt :: qu_W) (qr d mc ms) G b av h (fun oc h' => oc = .returned none ∧ P h')
abbrev qpq (l : Launch) (y : MethodName) (cc : ByteArray) (nL : Nat) (rt : Option FieldType) (d mc ms : Nat) (G : qh_G) (b : Nat) (av : List Value) (h : qh_H) (P : Option Nat → qh_H → Prop) : Prop :=
  qx_M l y (Cond.code y cc nL rt :: qu_W) (qr d mc ms) G b av h (fun oc h' => ∃ z : Option Nat, oc = .returned (some (va_rf z)) ∧ P z h')
section CP
variable {l : Launch} {G : qh_G} {b : Nat} {own nm : String} {cc : ByteArray} {nL : Nat} {ret : Option FieldType} {tb : List (Nat × Nat × Nat × Nat)} {post : Outcome → qh_H → Prop} {X : qw_T} {pc : Nat} {lo : List (Option Value)} {st : List Value} {h : qh_H} {k n d mc ms : Nat}
theorem nx_callp {y : MethodName} {cY : ByteArray} {nY : Nat} {rY : Option FieldType} {e mc' ms' : Nat} {av rest : List Value} {r : Int} {P : qh_H → Prop} (C : qw_C l G b own nm cc nL ret tb (qr d mc ms) post X)
    (hsite : qx_Site l G own cc pc y av rest h) (hM : qp l y cY nY rY e mc' ms' G b av h r P) (hy : Cond.code y cY nY rY ∈ qu_W ∧ Cond.initialized y.cls ∈ qu_W) (hst : st = av.reverse ++ rest) (hll : lo.length = nL) (hro : (rest.map fun v => v.category).sum ≤ 8) (hed : e < d ∧ k + mc' ≤ mc ∧ n + ms' ≤ ms) (hnY : nY ≤ 8)
    (kk : ∀ h2, P h2 → X (pc + 3) lo (.int (iI r) :: rest) h2 (k + mc') (n + ms')) : X pc lo st h k n :=
  qx_runi C hsite hM hy hst hll hro (qr_ok hed.1 hnY hed.2.1 hed.2.2) (fun z h' hq => by obtain ⟨rfl, hq⟩ := hq; exact kk h' hq)
theorem nx_callpv {y : MethodName} {cY : ByteArray} {nY : Nat} {rY : Option FieldType} {e mc' ms' : Nat} {av rest : List Value} {P : qh_H → Prop} (C : qw_C l G b own nm cc nL ret tb (qr d mc ms) post X)
    (hsite : qx_Site l G own cc pc y av rest h) (hM : qpv l y cY nY rY e mc' ms' G b av h P) (hy : Cond.code y cY nY rY ∈ qu_W ∧ Cond.initialized y.cls ∈ qu_W) (hst : st = av.reverse ++ rest) (hll : lo.length = nL) (hro : (rest.map fun v => v.category).sum ≤ 8) (hed : e < d ∧ k + mc' ≤ mc ∧ n + ms' ≤ ms) (hnY : nY ≤ 8)
    (kk : ∀ h2, P h2 → X (pc + 3) lo rest h2 (k + mc') (n + ms')) : X pc lo st h k n :=
  qx_runv C hsite hM hy hst hll hro (qr_ok hed.1 hnY hed.2.1 hed.2.2) (fun h' hq => kk h' hq)
theorem nx_callpq {y : MethodName} {cY : ByteArray} {nY : Nat} {rY : Option FieldType} {e mc' ms' : Nat} {av rest : List Value} {P : Option Nat → qh_H → Prop} (C : qw_C l G b own nm cc nL ret tb (qr d mc ms) post X)
    (hsite : qx_Site l G own cc pc y av rest h) (hM : qpq l y cY nY rY e mc' ms' G b av h P) (hy : Cond.code y cY nY rY ∈ qu_W ∧ Cond.initialized y.cls ∈ qu_W) (hst : st = av.reverse ++ rest) (hll : lo.length = nL) (hro : (rest.map fun v => v.category).sum ≤ 8) (hed : e < d ∧ k + mc' ≤ mc ∧ n + ms' ≤ ms) (hnY : nY ≤ 8)
    (kk : ∀ r h2, P r h2 → X (pc + 3) lo (va_rf r :: rest) h2 (k + mc') (n + ms')) : X pc lo st h k n :=
  qx_runq C hsite hM hy hst hll hro (qr_ok hed.1 hnY hed.2.1 hed.2.2) (fun z h' hq => kk z h' hq)
end CP
theorem md_uu {A : md_A} {k : Nat} {i v w : Int} : md_u (md_u A k i v) k i w = md_u A k i w := by
  funext j x
  unfold md_u
  by_cases h : j = k ∧ x = i
  · rw [if_pos h, if_pos h]
  · rw [if_neg h, if_neg h, if_neg h]
/-- only the log of s was written -/
def cr_o (s : Nat) (I : md_A) (E : cl_E) (I' : md_A) (E' : cl_E) : Prop := (∀ j, j ≠ 20 + s → I' j = I j) ∧ ∀ j, j ≠ 30 + s → E' j = E j
theorem cr_o.rf (s : Nat) (I : md_A) (E : cl_E) : cr_o s I E I E := ⟨fun _ _ => rfl, fun _ _ => rfl⟩
theorem cr_o.tr {s : Nat} {I I' I'' : md_A} {E E' E'' : cl_E} (h1 : cr_o s I E I' E') (h2 : cr_o s I' E' I'' E'') : cr_o s I E I'' E'' := ⟨fun j h => (h2.1 j h).trans (h1.1 j h), fun j h => (h2.2 j h).trans (h1.2 j h)⟩
theorem cr_o.u {s : Nat} {I I' : md_A} {E E' : cl_E} (h1 : cr_o s I E I' E') {k v : Int} : cr_o s I E (md_u I' (20 + s) k v) E' := ⟨fun j h => (cl_uI _ _ _ h).trans (h1.1 j h), h1.2⟩
theorem cr_o.e {s : Nat} {I I' : md_A} {E E' : cl_E} (h1 : cr_o s I E I' E') {k : Nat} {v : Option Nat} : cr_o s I E I' (cl_uE E' (30 + s) k v) := ⟨h1.1, fun j h => (cl_uEk _ _ _ h).trans (h1.2 j h)⟩
theorem c_addF (l : Launch) (G : qh_G) (b : Nat) {ad : Nat → Nat} {iv : Nat → Option Nat} (J : cl_I ad iv) {g : qh_H} {I : md_A} {m : Nat → Nat} {E : cl_E} {N : Nat → Nat} {s : Nat} (hs : s < 5) {q : Nat} (hc : I (20 + s) 2 = 48) (d : Nat) : qj l y_L_add c_L_add 2 (some .boolean) d 0 0 G b [.ref (ad (20 + s)), .ref q] (ch G ad iv g I m E N) 0 (ch G ad iv g I m E N) := by
  refine qx_of (lo := [some (.ref (ad (20 + s))), some (.ref q)]) (by decide) (fun w hw => List.mem_cons_of_mem _ hw) rfl (Nat.le_of_ble_eq_true rfl) rfl ?_
  intro X C
  refine qx_aload_n C d_L_add_0 rfl rfl ?_
  refine qx_get C d_L_add_1 fl_L_27 (ch_L J hs) rfl ?_
  rw [hc]
  refine qx_bipush C d_L_add_4 (v := iI (48)) (by decide) ?_
  refine nx_icmp_lt C 11 d_L_add_6 (by decide) (by omega) (by omega) (fun z1 => ?_) (fun z1 => ?_)
  · exact absurd z1 (by omega)
  · refine qx_iconst C d_L_add_9 (v := iI (0)) rfl ?_
    refine qx_zret C d_L_add_10 (by decide) (Nat.zero_le _) (Nat.zero_le _) ⟨_, rfl, ?_, rfl⟩
    rfl
theorem c_addT (l : Launch) (G : qh_G) (b : Nat) {ad : Nat → Nat} {iv : Nat → Option Nat} (J : cl_I ad iv) {g : qh_H} {I : md_A} {m : Nat → Nat} {E : cl_E} {N : Nat → Nat} {s : Nat} (hs : s < 5) {q : Nat} {vs : List Value} (hq : (ch G ad iv g I m E N) q = some (.inr (1, vs))) {cn : Int} (hc : I (20 + s) 2 = cn) (h0 : 0 ≤ cn) (h1 : cn < 48) (d : Nat) : qj l y_L_add c_L_add 2 (some .boolean) d 0 0 G b [.ref (ad (20 + s)), .ref q] (ch G ad iv g I m E N) 1 (ch G ad iv g (md_u I (20 + s) 2 (cn + 1)) m (cl_uE E (30 + s) cn.toNat (some q)) N) := by
  refine qx_of (lo := [some (.ref (ad (20 + s))), some (.ref q)]) (by decide) (fun w hw => List.mem_cons_of_mem _ hw) rfl (Nat.le_of_ble_eq_true rfl) rfl ?_
  intro X C
  refine qx_aload_n C d_L_add_0 rfl rfl ?_
  refine qx_get C d_L_add_1 fl_L_27 (ch_L J hs) rfl ?_
  rw [hc]
  refine qx_bipush C d_L_add_4 (v := iI (48)) (by decide) ?_
  refine nx_icmp_lt C 11 d_L_add_6 (by decide) (by omega) (by omega) (fun z1 => ?_) (fun z1 => ?_)
  · refine qx_aload_n C d_L_add_11 rfl rfl ?_
    refine qx_get C d_L_add_12 fl_L_11 (ch_L J hs) rfl ?_
    refine qx_aload_n C d_L_add_15 rfl rfl ?_
    refine qx_get C d_L_add_16 fl_L_27 (ch_L J hs) rfl ?_
    rw [hc]
    refine qx_aload_n C d_L_add_19 rfl rfl ?_
    refine cx_sl C J hs d_L_add_20 h0 h1 hq ?_
    refine qx_aload_n C d_L_add_21 rfl rfl ?_
    refine qx_dup C d_L_add_22 rfl ?_
    refine qx_get C d_L_add_23 fl_L_27 (ch_L J hs) rfl ?_
    rw [hc]
    refine qx_iconst C d_L_add_26 (v := iI (1)) rfl ?_
    refine nx_iadd C d_L_add_27 ?_
    refine cx_pL C J hs d_L_add_28 fp_L_27 ?_
    refine qx_iconst C d_L_add_31 (v := iI (1)) rfl ?_
    refine qx_zret C d_L_add_32 (by decide) (Nat.zero_le _) (Nat.zero_le _) ⟨_, rfl, ?_, rfl⟩
    rfl
  · exact absurd z1 (by omega)
theorem c_cut (l : Launch) (G : qh_G) (b : Nat) {ad : Nat → Nat} {iv : Nat → Option Nat} (J : cl_I ad iv) {g : qh_H} {I : md_A} {m : Nat → Nat} {E : cl_E} {N : Nat → Nat} {A : md_A} {s : Nat} (hs : s < 5) (hL : cr_L G iv g I E N A s) (hB : md_B A s) {i : Int} (hi : -1000000 ≤ i ∧ i ≤ 4000000) {I2 : md_A} (h2 : I2 = if A 4 s < i ∧ i ≤ md_last A s then md_u I (20 + s) 2 (i - A 4 s - 1) else I) (d : Nat) : qv l y_L_cutFrom c_L_cutFrom 3 none d 0 0 G b [.ref (ad (20 + s)), .int (iI i)] (ch G ad iv g I m E N) (ch G ad iv g I2 m E N) := by
  have hl : md_last A s = A 4 s + A 8 s := rfl
  obtain ⟨hct, hN, hE⟩ := hL
  obtain ⟨va, -, hsn, hva⟩ := cr_hsn (I := I) (m := m) (E := E) (N := N) J hN
  refine qx_of (lo := [some (.ref (ad (20 + s))), some (.int (iI i)), none]) (by decide) (fun w hw => List.mem_cons_of_mem _ hw) rfl (Nat.le_of_ble_eq_true rfl) rfl ?_
  intro X C
  refine qx_iload_n C d_L_cutFrom_0 rfl rfl ?_
  refine qx_aload_n C d_L_cutFrom_1 rfl rfl ?_
  refine qx_get C d_L_cutFrom_2 fl_L_17 (ch_L J hs) rfl ?_
  refine qx_get C d_L_cutFrom_5 fl_L_21 hsn rfl ?_
  refine nx_isub C d_L_cutFrom_8 ?_
  refine qx_iconst C d_L_cutFrom_9 (v := iI (1)) rfl ?_
  refine nx_isub C d_L_cutFrom_10 ?_
  refine nx_istore_n C d_L_cutFrom_11 rfl (Nat.le_of_ble_eq_true rfl) (lo' := [_, _, some (.int _)]) rfl ?_
  refine qx_iload_n C d_L_cutFrom_12 rfl rfl ?_
  refine nx_if_lt C 29 d_L_cutFrom_13 (by decide) (by omega) (fun z1 => ?_) (fun z1 => ?_)
  · rw [if_neg (by omega)] at h2
    subst h2
    exact qx_vret C d_L_cutFrom_29 (Nat.zero_le _) (Nat.zero_le _) ⟨rfl, rfl⟩
  · refine qx_iload_n C d_L_cutFrom_16 rfl rfl ?_
    refine qx_aload_n C d_L_cutFrom_17 rfl rfl ?_
    refine qx_get C d_L_cutFrom_18 fl_L_27 (ch_L J hs) rfl ?_
    rw [hct]
    refine nx_icmp_ge C 29 d_L_cutFrom_21 (by decide) (by omega) (by omega) (fun z2 => ?_) (fun z2 => ?_)
    · rw [if_neg (by omega)] at h2
      subst h2
      exact qx_vret C d_L_cutFrom_29 (Nat.zero_le _) (Nat.zero_le _) ⟨rfl, rfl⟩
    · rw [if_pos (by omega)] at h2
      subst h2
      refine qx_aload_n C d_L_cutFrom_24 rfl rfl ?_
      refine qx_iload_n C d_L_cutFrom_25 rfl rfl ?_
      refine cx_pL C J hs d_L_cutFrom_26 fp_L_27 ?_
      exact qx_vret C d_L_cutFrom_29 (Nat.zero_le _) (Nat.zero_le _) ⟨rfl, rfl⟩
/-- the log behind one entry taken over -/
theorem cr_L_cut {G : qh_G} {iv : Nat → Option Nat} {g : qh_H} {I : md_A} {E : cl_E} {N : Nat → Nat} {A : md_A} {s : Nat} (hL : cr_L G iv g I E N A s) {c : Int} (hc : 0 ≤ c ∧ c ≤ A 8 s) : cr_L G iv g (md_u I (20 + s) 2 c) E N (md_u A 8 s c) s := by
  obtain ⟨hct, hN, hE⟩ := hL
  refine ⟨by rw [md_us, md_us], hN, fun i hi => ?_⟩
  rw [md_us] at hi
  exact hE i (by omega)
theorem cr_L_push {G : qh_G} {iv : Nat → Option Nat} {g : qh_H} {I : md_A} {E : cl_E} {N : Nat → Nat} {A : md_A} {s : Nat} (hL : cr_L G iv g I E N A s) (h8 : 0 ≤ A 8 s) {q : Option Nat} {t so su va : Int} (hq : cr_E iv g q t so su va) : cr_L G iv g (md_u I (20 + s) 2 (A 8 s + 1)) (cl_uE E (30 + s) (A 8 s).toNat q) N (md_push A s t so su va) s := by
  obtain ⟨hct, hN, hE⟩ := hL
  refine ⟨by rw [md_us, md_push_8], ?_, fun i hi => ?_⟩
  · unfold md_push
    exact hN
  · rw [md_push_8] at hi
    unfold md_push
    by_cases h : i = (A 8 s).toNat
    · have e : cl_uE E (30 + s) (A 8 s).toNat q (30 + s) i = q := if_pos ⟨rfl, h⟩
      rw [e, show (48 * (s : Int) + i) = 48 * s + A 8 s by omega]
      have h9 : md_u (md_u (md_u (md_u (md_u A 9 (48 * s + A 8 s) t) 10 (48 * s + A 8 s) so) 11 (48 * s + A 8 s) su) 12 (48 * s + A 8 s) va) 8 s (A 8 s + 1) 9 (48 * s + A 8 s) = t := by
        rw [md_uk (by decide), md_uk (by decide), md_uk (by decide), md_uk (by decide), md_us]
      have h10 : md_u (md_u (md_u (md_u (md_u A 9 (48 * s + A 8 s) t) 10 (48 * s + A 8 s) so) 11 (48 * s + A 8 s) su) 12 (48 * s + A 8 s) va) 8 s (A 8 s + 1) 10 (48 * s + A 8 s) = so := by
        rw [md_uk (by decide), md_uk (by decide), md_uk (by decide), md_us]
      have h11 : md_u (md_u (md_u (md_u (md_u A 9 (48 * s + A 8 s) t) 10 (48 * s + A 8 s) so) 11 (48 * s + A 8 s) su) 12 (48 * s + A 8 s) va) 8 s (A 8 s + 1) 11 (48 * s + A 8 s) = su := by
        rw [md_uk (by decide), md_uk (by decide), md_us]
      have h12 : md_u (md_u (md_u (md_u (md_u A 9 (48 * s + A 8 s) t) 10 (48 * s + A 8 s) so) 11 (48 * s + A 8 s) su) 12 (48 * s + A 8 s) va) 8 s (A 8 s + 1) 12 (48 * s + A 8 s) = va := by
        rw [md_uk (by decide), md_us]
      rw [h9, h10, h11, h12]
      exact hq
    · have e : cl_uE E (30 + s) (A 8 s).toNat q (30 + s) i = E (30 + s) i := if_neg (fun z => h z.2)
      rw [e]
      have hi2 : (i : Int) < A 8 s := by omega
      have hk : ∀ k, k ≠ 8 → md_u (md_u (md_u (md_u (md_u A 9 (48 * s + A 8 s) t) 10 (48 * s + A 8 s) so) 11 (48 * s + A 8 s) su) 12 (48 * s + A 8 s) va) 8 s (A 8 s + 1) k (48 * s + i) = A k (48 * s + i) := fun k hk => by
        rw [md_uk hk, md_ui (by omega), md_ui (by omega), md_ui (by omega), md_ui (by omega)]
      rw [hk 9 (by decide), hk 10 (by decide), hk 11 (by decide), hk 12 (by decide)]
      exact hE i hi2
