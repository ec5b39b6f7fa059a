/-! the class: a snapshot at an index; a log cut behind a snapshot -/
theorem ch_newq {G : qh_G} {ad : Nat → Nat} {iv : Nat → Option Nat} {g : qh_H} {I : md_A} {m : Nat → Nat} {E : cl_E} {N : Nat → Nat} {a : Nat} {x : Option va_E} (ha : iv a = none) : va_up (ch G ad iv g I m E N) a x = ch G ad iv (va_up g a x) I m E N := ch_new ha
set_option maxRecDepth 100000 in
theorem c_snapAt (l : Launch) (G : qh_G) (b : Nat) {ad : Nat → Nat} {iv : Nat → Option Nat} (J : cl_I ad iv) {g : qh_H} {I : md_A} {m : Nat → Nat} {E : cl_E} {N : Nat → Nat} {A : md_A} (hA : md_r A) {s : Nat} (hs : s < 5) (hL : cr_L G iv g I E N A s) (hB : md_B A s) {t : Nat} (ht : (t : Int) ≤ A 8 s) {to : Int} (hto : to = A 4 s + t) (d : Nat) : qpq l y_L_snapshotAt c_L_snapshotAt 4 (some (.object "QuorumLog$Snapshot")) (d + 2) 2 8 G b [.ref (ad (20 + s)), .int (iI to)] (ch G ad iv g I m E N) (fun r h' => ∃ q g', r = some q ∧ h' = ch G ad iv g' I m E N ∧ cr_g g g' ∧ cr_N G iv g' q to (md_termAt A s to) (md_mem A s t) (fun k => md_val A s k t)) := by
  have hl : md_last A s = A 4 s + A 8 s := rfl
  have hlx := md_lmX_r hB (t := t) ht
  refine qx_of (lo := [some (.ref (ad (20 + s))), some (.int (iI to)), none, none]) (by decide) (fun w hw => List.mem_cons_of_mem _ hw) rfl (Nat.le_of_ble_eq_true rfl) rfl ?_
  intro X C
  refine qx_iconst C d_L_snapshotAt_0 (v := iI (4)) rfl ?_
  refine qx_newa C d_L_snapshotAt_1 rfl (t := 0) rfl ac_int (N := 4) (a0 := (4, .inl (fun _ => iI 0))) (fun _ => rfl) (by decide) (by decide) (by decide) (Nat.le_of_ble_eq_true rfl) (Nat.le_of_ble_eq_true rfl) (fun q0 hq0 => ?_)
  obtain ⟨i0, g0⟩ := ch_none hq0
  rw [ch_newq i0]
  have Lp : ∀ (f j : Nat) (F : Nat → Int32), j + f = 4 → (∀ i : Nat, i < j → F i = iI (md_val A s i t)) → X 6 [some (.ref (ad (20 + s))), some (.int (iI to)), some (.ref q0), some (.int (iI j))] [] (ch G ad iv (va_up g q0 (some (.inl (G.2 0, 4, .inl F)))) I m E N) (0 + 1) (0 + 4) := by
    intro f
    induction f with
    | zero =>
      intro j F hj hF
      have gg : cr_g g (va_up g q0 (some (.inl (G.2 0, 4, .inl F)))) := (cr_g.rf g).new g0
      refine qx_iload_n C d_L_snapshotAt_6 rfl rfl ?_
      refine qx_iconst C d_L_snapshotAt_7 (v := iI (4)) rfl ?_
      refine nx_icmp_ge C 26 d_L_snapshotAt_8 (by decide) (by omega) (by omega) (fun z1 => ?_) (fun z1 => ?_)
      · refine qx_new C d_L_snapshotAt_26 nw_L_22 (Nat.le_of_ble_eq_true rfl) (Nat.le_of_ble_eq_true rfl) (fun q hq => ?_)
        obtain ⟨i1, g1⟩ := ch_none hq
        have hne : q ≠ q0 := fun e => by rw [e, va_up_self] at g1; cases g1
        have g2 : g q = none := by rw [va_up_o _ _ hne] at g1; exact g1
        rw [ch_newq i1]
        have gg2 : cr_g g (va_up (va_up g q0 (some (.inl (G.2 0, 4, .inl F)))) q (some (.inr (7, [.int 0, .int 0, .int 0, .null])))) := gg.new g2
        have hL2 := hL.g gg2
        refine qx_dup C d_L_snapshotAt_29 rfl ?_
        refine qx_iload_n C d_L_snapshotAt_30 rfl rfl ?_
        refine qx_aload_n C d_L_snapshotAt_31 rfl rfl ?_
        refine qx_iload_n C d_L_snapshotAt_32 rfl rfl ?_
        refine nx_call0 C (s_L_snapshotAt_33 (ch_L J hs)) (c_termAt l G b J hs hL2 hB (by omega) d) w_L_termAt rfl rfl (Nat.le_of_ble_eq_true rfl) (by omega) (by decide) ?_
        refine qx_aload_n C d_L_snapshotAt_36 rfl rfl ?_
        refine qx_aload_n C d_L_snapshotAt_37 rfl rfl ?_
        refine qx_iload_n C d_L_snapshotAt_38 rfl rfl ?_
        refine nx_call0 C (s_L_snapshotAt_39 (ch_L J hs)) (c_latest l G b J hA hs hL2 hB ht hto d) w_L_latestMembersUpTo rfl rfl (Nat.le_of_ble_eq_true rfl) (by omega) (by decide) ?_
        refine nx_call0 C (s_L_snapshotAt_42 (ch_L J hs)) (c_membersAt l G b J hs hL2 hB (by omega) d) w_L_membersAt rfl rfl (Nat.le_of_ble_eq_true rfl) (by omega) (by decide) ?_
        rw [md_mem_X hB ht]
        refine qx_aload_n C d_L_snapshotAt_45 rfl rfl ?_
        refine nx_callv C s_L_snapshotAt_46 (c_Ninit l G b ((ch_g J i1).trans (va_up_self _ _ _)) d) w_N_init rfl rfl (Nat.le_of_ble_eq_true rfl) (by omega) (by decide) ?_
        rw [ch_newq i1, va_up_up]
        refine qx_aret C d_L_snapshotAt_49 (Or.inr ⟨_, rfl⟩) (Nat.le_of_ble_eq_true rfl) (Nat.le_of_ble_eq_true rfl) ⟨some q, rfl, q, _, rfl, rfl, gg.new g2, i1, q0, i0, va_up_self _ _ _, F, ?_, fun i hi => hF i (by omega)⟩
        rw [va_up_o _ _ (Ne.symm hne), va_up_self]
      · exact absurd z1 (by omega)
    | succ f ih =>
      intro j F hj hF
      have gg : cr_g g (va_up g q0 (some (.inl (G.2 0, 4, .inl F)))) := (cr_g.rf g).new g0
      have hL2 := hL.g gg
      refine qx_iload_n C d_L_snapshotAt_6 rfl rfl ?_
      refine qx_iconst C d_L_snapshotAt_7 (v := iI (4)) rfl ?_
      refine nx_icmp_ge C 26 d_L_snapshotAt_8 (by decide) (by omega) (by omega) (fun z1 => ?_) (fun z1 => ?_)
      · exact absurd z1 (by omega)
      · refine qx_aload_n C d_L_snapshotAt_11 rfl rfl ?_
        refine qx_iload_n C d_L_snapshotAt_12 rfl rfl ?_
        refine qx_aload_n C d_L_snapshotAt_13 rfl rfl ?_
        refine qx_iload_n C d_L_snapshotAt_14 rfl rfl ?_
        refine qx_iload_n C d_L_snapshotAt_15 rfl rfl ?_
        refine nx_call0 C (s_L_snapshotAt_16 (ch_L J hs)) (c_stored l G b J hA hs hL2 hB (key := j) (by omega) ht hto d) w_L_storedUpTo rfl rfl (Nat.le_of_ble_eq_true rfl) (by omega) (by decide) ?_
        refine qx_iast C d_L_snapshotAt_19 ((ch_g J i0).trans (va_up_self _ _ _)) (iI_in (by omega) (by omega) (by decide)) ?_
        rw [ch_newq i0, va_up_up, iI_clamp (by omega) (by omega)]
        refine nx_iinc C d_L_snapshotAt_20 rfl (lo' := [_, _, _, some (.int _)]) rfl ?_
        refine qx_goto C d_L_snapshotAt_23 (tgt := 6) (by decide) ?_
        refine ih (j + 1) _ (by omega) (fun i hi => ?_)
        unfold upd
        by_cases hij : i = (j : Int).toNat
        · rw [if_pos hij, show i = j by omega]
        · rw [if_neg hij]
          exact hF i (by omega)
  refine nx_astore_n C d_L_snapshotAt_3 rfl (Nat.le_of_ble_eq_true rfl) (lo' := [_, _, some (.ref _), _]) rfl ?_
  refine qx_iconst C d_L_snapshotAt_4 (v := iI (0)) rfl ?_
  refine nx_istore_n C d_L_snapshotAt_5 rfl (Nat.le_of_ble_eq_true rfl) (lo' := [_, _, _, some (.int _)]) rfl ?_
  exact Lp 4 0 _ (by omega) (fun i hi => absurd hi (by omega))
/-- entries moved down -/
def cl_sh (E : cl_E) (s gone k : Nat) : cl_E := fun a i => if a = 30 + s ∧ i < k then E (30 + s) (i + gone) else E a i
theorem cl_sh_s (E : cl_E) (s gone k : Nat) : cl_uE (cl_sh E s gone k) (30 + s) k (E (30 + s) (k + gone)) = cl_sh E s gone (k + 1) := by
  funext a i
  unfold cl_uE cl_sh
  by_cases h : a = 30 + s ∧ i = k
  · rw [if_pos h, if_pos ⟨h.1, by omega⟩, h.2]
  · rw [if_neg h]
    by_cases h2 : a = 30 + s ∧ i < k
    · rw [if_pos h2, if_pos ⟨h2.1, by omega⟩]
    · rw [if_neg h2, if_neg (by omega)]
theorem cl_sh_0 (E : cl_E) (s gone : Nat) : cl_sh E s gone 0 = E := by
  funext a i
  exact if_neg (by omega)
/-- how many entries a log keeps behind a snapshot -/
def md_left (A : md_A) (s ix t : Int) : Int := if ¬ md_termAt A s ix = -1 ∧ md_termAt A s ix = t then md_last A s - ix else 0
theorem md_left_in {A : md_A} {s ix t : Int} (hB : md_B A s) : 0 ≤ md_left A s ix t ∧ md_left A s ix t ≤ A 8 s := by
  have hl : md_last A s = A 4 s + A 8 s := rfl
  unfold md_left
  by_cases h : ¬ md_termAt A s ix = -1 ∧ md_termAt A s ix = t
  · rw [if_pos h]
    by_cases h1 : ix = A 4 s
    · omega
    · by_cases h2 : A 4 s < ix ∧ ix ≤ md_last A s
      · omega
      · exfalso
        have hcl : md_cell A s ix = -1 := by unfold md_cell; rw [if_neg h2]
        have := h.1
        unfold md_termAt at this
        rw [if_neg h1, hcl, if_pos (by decide)] at this
        exact this rfl
  · rw [if_neg h]
    omega
set_option maxRecDepth 100000 in
theorem c_begin (l : Launch) (G : qh_G) (b : Nat) {ad : Nat → Nat} {iv : Nat → Option Nat} (J : cl_I ad iv) {g : qh_H} {I : md_A} {m : Nat → Nat} {E : cl_E} {N : Nat → Nat} {A : md_A} (hA : md_r A) {s : Nat} (hs : s < 5) (hL : cr_L G iv g I E N A s) (hB : md_B A s) {q : Nat} {ix t me : Int} {V : Int → Int} (hq : cr_N G iv g q ix t me V) (hix : 0 ≤ ix ∧ ix ≤ 1000100) (ht : rng t) {lf : Int} (hlf : lf = md_left A s ix t) (d : Nat) : qv l y_L_beginBehind c_L_beginBehind 6 none (d + 2) 0 0 G b [.ref (ad (20 + s)), .ref q] (ch G ad iv g I m E N) (ch G ad iv g (md_u I (20 + s) 2 lf) m (cl_sh E s (A 8 s - lf).toNat lf.toNat) (va_up N (20 + s) q)) := by
  have hl : md_last A s = A 4 s + A 8 s := rfl
  have hr := md_termAt_r hA s ix
  have hli := md_left_in (ix := ix) (t := t) hB
  obtain ⟨vb, -, hqn, hvb⟩ := cr_hsn (I := I) (m := m) (E := E) (N := N) J hq
  refine qx_of (lo := [some (.ref (ad (20 + s))), some (.ref q), none, none, none, none]) (by decide) (fun w hw => List.mem_cons_of_mem _ hw) rfl (Nat.le_of_ble_eq_true rfl) rfl ?_
  intro X C
  have Lp : ∀ (f j : Nat), j + f = lf.toNat → ∀ l2 : Option Value, X 47 [some (.ref (ad (20 + s))), some (.ref q), l2, some (.int (iI lf)), some (.int (iI (A 8 s - lf))), some (.int (iI j))] [] (ch G ad iv g I m (cl_sh E s (A 8 s - lf).toNat j) N) 0 0 := by
    intro f
    induction f with
    | zero =>
      intro j hj l2
      refine qx_iload C d_L_beginBehind_47 rfl ?_
      refine qx_iload_n C d_L_beginBehind_49 rfl rfl ?_
      refine nx_icmp_ge C 76 d_L_beginBehind_50 (by decide) (by omega) (by omega) (fun z1 => ?_) (fun z1 => ?_)
      · refine qx_aload_n C d_L_beginBehind_76 rfl rfl ?_
        refine qx_iload_n C d_L_beginBehind_77 rfl rfl ?_
        refine cx_pL C J hs d_L_beginBehind_78 fp_L_27 ?_
        refine qx_aload_n C d_L_beginBehind_81 rfl rfl ?_
        refine qx_aload_n C d_L_beginBehind_82 rfl rfl ?_
        refine cx_nL C J hs d_L_beginBehind_83 fp_L_17 ?_
        rw [show j = lf.toNat by omega]
        exact qx_vret C d_L_beginBehind_86 (Nat.zero_le _) (Nat.zero_le _) ⟨rfl, rfl⟩
      · exact absurd z1 (by omega)
    | succ f ih =>
      intro j hj l2
      obtain ⟨a, ha, hae⟩ := cr_he (G := G) (I := I) (m := m) (E := cl_sh E s (A 8 s - lf).toNat j) (N := N) J (hL.2.2 (j + (A 8 s - lf).toNat) (by omega))
      have hv : cl_sh E s (A 8 s - lf).toNat j (30 + s) ((j : Int) + (A 8 s - lf)).toNat = some a := by
        rw [← ha]
        unfold cl_sh
        rw [if_neg (by omega)]
        congr 1
        omega
      refine qx_iload C d_L_beginBehind_47 rfl ?_
      refine qx_iload_n C d_L_beginBehind_49 rfl rfl ?_
      refine nx_icmp_ge C 76 d_L_beginBehind_50 (by decide) (by omega) (by omega) (fun z1 => ?_) (fun z1 => ?_)
      · exact absurd z1 (by omega)
      · refine qx_aload_n C d_L_beginBehind_53 rfl rfl ?_
        refine qx_get C d_L_beginBehind_54 fl_L_11 (ch_L J hs) rfl ?_
        refine qx_iload C d_L_beginBehind_57 rfl ?_
        refine qx_aload_n C d_L_beginBehind_59 rfl rfl ?_
        refine qx_get C d_L_beginBehind_60 fl_L_11 (ch_L J hs) rfl ?_
        refine qx_iload C d_L_beginBehind_63 rfl ?_
        refine qx_iload C d_L_beginBehind_65 rfl ?_
        refine nx_iadd C d_L_beginBehind_67 ?_
        refine cx_el C J hs d_L_beginBehind_68 (by omega) (by omega) hv ?_
        refine cx_sl C J hs d_L_beginBehind_69 (by omega) (by omega) hae ?_
        refine nx_iinc C d_L_beginBehind_70 rfl (lo' := [_, _, _, _, _, some (.int _)]) rfl ?_
        refine qx_goto C d_L_beginBehind_73 (tgt := 47) (by decide) ?_
        have e : cl_uE (cl_sh E s (A 8 s - lf).toNat j) (30 + s) (j : Int).toNat (some a) = cl_sh E s (A 8 s - lf).toNat (j + 1) := by
          rw [← ha, ← cl_sh_s]
          rfl
        rw [e]
        exact ih (j + 1) (by omega) _
  have Go : ∀ l2 l4 l5 : Option Value, X 35 [some (.ref (ad (20 + s))), some (.ref q), l2, none, l4, l5] [.int (iI lf)] (ch G ad iv g I m E N) 0 0 := by
    intro l2 l4 l5
    refine nx_istore_n C d_L_beginBehind_35 rfl (Nat.le_of_ble_eq_true rfl) (lo' := [_, _, _, some (.int _), _, _]) rfl ?_
    refine qx_aload_n C d_L_beginBehind_36 rfl rfl ?_
    refine qx_get C d_L_beginBehind_37 fl_L_27 (ch_L J hs) rfl ?_
    rw [hL.1]
    refine qx_iload_n C d_L_beginBehind_40 rfl rfl ?_
    refine nx_isub C d_L_beginBehind_41 ?_
    refine nx_istore C d_L_beginBehind_42 (Nat.le_of_ble_eq_true rfl) (lo' := [_, _, _, _, some (.int _), _]) rfl ?_
    refine qx_iconst C d_L_beginBehind_44 (v := iI (0)) rfl ?_
    refine nx_istore C d_L_beginBehind_45 (Nat.le_of_ble_eq_true rfl) (lo' := [_, _, _, _, _, some (.int _)]) rfl ?_
    have := Lp lf.toNat 0 (by omega) l2
    rw [cl_sh_0] at this
    exact this
  refine qx_aload_n C d_L_beginBehind_0 rfl rfl ?_
  refine qx_aload_n C d_L_beginBehind_1 rfl rfl ?_
  refine qx_get C d_L_beginBehind_2 fl_L_21 hqn rfl ?_
  refine nx_call0 C (s_L_beginBehind_5 (ch_L J hs)) (c_termAt l G b J hs hL hB (by omega) d) w_L_termAt rfl rfl (Nat.le_of_ble_eq_true rfl) (by omega) (by decide) ?_
  refine nx_istore_n C d_L_beginBehind_8 rfl (Nat.le_of_ble_eq_true rfl) (lo' := [_, _, some (.int _), _, _, _]) rfl ?_
  refine qx_iload_n C d_L_beginBehind_9 rfl rfl ?_
  refine qx_iconst C d_L_beginBehind_10 (v := iI (-1)) rfl ?_
  refine nx_icmp_eq C 34 d_L_beginBehind_11 (by decide) (by omega) (by omega) (fun z1 => ?_) (fun z1 => ?_)
  · refine qx_iconst C d_L_beginBehind_34 (v := iI (0)) rfl ?_
    unfold md_left at hlf
    rw [if_neg (fun z => z.1 z1)] at hlf
    rw [← hlf]
    exact Go _ _ _
  · refine qx_iload_n C d_L_beginBehind_14 rfl rfl ?_
    refine qx_aload_n C d_L_beginBehind_15 rfl rfl ?_
    refine qx_get C d_L_beginBehind_16 fl_L_38 hqn rfl ?_
    refine nx_icmp_ne C 34 d_L_beginBehind_19 (by decide) (by omega) (by omega) (fun z2 => ?_) (fun z2 => ?_)
    · refine qx_iconst C d_L_beginBehind_34 (v := iI (0)) rfl ?_
      unfold md_left at hlf
      rw [if_neg (fun z => z2 z.2)] at hlf
      rw [← hlf]
      exact Go _ _ _
    · refine qx_aload_n C d_L_beginBehind_22 rfl rfl ?_
      refine nx_call0 C (s_L_beginBehind_23 (ch_L J hs)) (c_last l G b J hs hL hB d) w_L_last rfl rfl (Nat.le_of_ble_eq_true rfl) (by omega) (by decide) ?_
      refine qx_aload_n C d_L_beginBehind_26 rfl rfl ?_
      refine qx_get C d_L_beginBehind_27 fl_L_21 hqn rfl ?_
      refine nx_isub C d_L_beginBehind_30 ?_
      refine qx_goto C d_L_beginBehind_31 (tgt := 35) (by decide) ?_
      unfold md_left at hlf
      rw [if_pos ⟨z1, z2⟩] at hlf
      rw [← hlf]
      exact Go _ _ _
