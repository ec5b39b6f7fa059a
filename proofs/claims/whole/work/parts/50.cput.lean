/-! the class: what throws -/
abbrev qt_f (l : Launch) : Prop := l.flags = pinnedFlags ++ [noTraceFlag]
theorem cx_throw (l : Launch) (G : qh_G) (b : Nat) {ad : Nat → Nat} {iv : Nat → Option Nat} (J : cl_I ad iv) {g : qh_H} {I : md_A} {m : Nat → Nat} {E : cl_E} {N : Nat → Nat} {A : md_A} (h : cr G iv g I m E N A) {nm : String} {cc : ByteArray} {nL : Nat} {ret : Option FieldType} {d mc ms : Nat} {post : Outcome → qh_H → Prop} {X : qw_T} {pc : Nat} {lo : List (Option Value)} {st : List Value} {k n : Nat} (C : qw_C l G b "QuorumLog" nm cc nL ret [] (qr d mc ms) post X) (hf : qt_f l) {ix ic ik c : Nat} {cls tx : String} {T0 : u_T}
    (hcl : Cond.classLink "QuorumLog" ix cls ∈ qu_W) (hinst : Cond.instantiable cls 6 ∈ qu_W) (hini : Cond.initialized cls ∈ qu_W) (hat : ∀ a ∈ Bundle.ownAtoms "QuorumLog" ic cls qt_N, a ∈ qu_W ∨ (a ∈ tables_1 ∧ qu_xw a = true) ∨ ∃ x ∈ qu_St, a = .isRef (.static Bundle.tN x.1 x.2)) (hfc : Bundle.fit cls = true) (hci : qu_Cl[8 + c]? = some (cls, T0, 0))
    (hd0 : decode cc pc = .ok (.new ix, 3)) (hd1 : decode cc (pc + 3) = .ok (.dup, 1)) (hd2 : decode cc (pc + 4) = .ok (.ldc ik, 2)) (hd3 : decode cc (pc + 6) = .ok (.invokespecial ic, 3)) (hd4 : decode cc (pc + 9) = .ok (.athrow, 1))
    (hstr : Cond.stringRef "QuorumLog" ik tx ∈ tables_1) (hll : lo.length = nL) (h1 : k + 1 ≤ mc ∧ n + 6 ≤ ms ∧ 6 ≤ d) (h4 : (st.map fun v => v.category).sum ≤ 8)
    (kk : ∀ (a : Nat) (h' : qh_H), h' a = some (.inr (8 + c, [])) → cr_T G ad iv g A h' → post (.threw a) h') : X pc lo st (ch G ad iv g I m E N) k n :=
  qx_throwS C (names := qt_N) hf hd0 hd1 hd2 hd3 hd4 hcl hinst hini hstr hat hfc (by decide +kernel) hci hll h1.1 h1.2.1 (by show 2 + 3 < d; omega) (by show (st.map fun v => v.category).sum + 1 + (13 * (2 + 1) + 42) ≤ 32 * d; omega) (fun a ha => by
    obtain ⟨i1, g1⟩ := ch_none ha
    have gg : cr_g g (va_up g a (some (.inr (8 + c, [])))) := (cr_g.rf g).new g1
    rw [ch_newq i1]
    exact kk a _ ((ch_g J i1).trans (va_up_self _ _ _)) (cr_T.of gg (h.gr gg)))
theorem qt_cA : Cond.classLink "QuorumLog" 110 "java/lang/IllegalArgumentException" ∈ qu_W := qu_in 580 (by decide +kernel) (by decide +kernel)
theorem qt_iA : Cond.instantiable "java/lang/IllegalArgumentException" 6 ∈ qu_W := qu_in 581 (by decide +kernel) (by decide +kernel)
theorem qt_nA : Cond.initialized "java/lang/IllegalArgumentException" ∈ qu_W := qu_in 14 (by decide +kernel) (by decide +kernel)
theorem qt_cS : Cond.classLink "QuorumLog" 121 "java/lang/IllegalStateException" ∈ qu_W := qu_in 648 (by decide +kernel) (by decide +kernel)
theorem qt_iS : Cond.instantiable "java/lang/IllegalStateException" 6 ∈ qu_W := qu_in 649 (by decide +kernel) (by decide +kernel)
theorem qt_nS : Cond.initialized "java/lang/IllegalStateException" ∈ qu_W := qu_in 15 (by decide +kernel) (by decide +kernel)
theorem qt_cU : Cond.classLink "QuorumLog" 94 "java/lang/UnsupportedOperationException" ∈ qu_W := qu_in 664 (by decide +kernel) (by decide +kernel)
theorem qt_iU : Cond.instantiable "java/lang/UnsupportedOperationException" 6 ∈ qu_W := qu_in 665 (by decide +kernel) (by decide +kernel)
theorem qt_nU : Cond.initialized "java/lang/UnsupportedOperationException" ∈ qu_W := qu_in 16 (by decide +kernel) (by decide +kernel)
theorem qt_s248 : Cond.stringRef "QuorumLog" 248 "no such server or key" ∈ tables_1 := List.mem_of_getElem? (i := 621) (by decide +kernel)
theorem qt_s123 : Cond.stringRef "QuorumLog" 123 "down or no leader" ∈ tables_1 := List.mem_of_getElem? (i := 657) (by decide +kernel)
theorem qt_s96 : Cond.stringRef "QuorumLog" 96 "the log is too long" ∈ tables_1 := List.mem_of_getElem? (i := 673) (by decide +kernel)
theorem qt_s112 : Cond.stringRef "QuorumLog" 112 "no such server" ∈ tables_1 := List.mem_of_getElem? (i := 687) (by decide +kernel)
theorem qt_s119 : Cond.stringRef "QuorumLog" 119 "a member already, none, or the only one" ∈ tables_1 := List.mem_of_getElem? (i := 688) (by decide +kernel)
theorem qt_s139 : Cond.stringRef "QuorumLog" 139 "the log is too long, or a change or the term is open" ∈ tables_1 := List.mem_of_getElem? (i := 694) (by decide +kernel)
theorem qt_s145 : Cond.stringRef "QuorumLog" 145 "too many reads, or the term is open" ∈ tables_1 := List.mem_of_getElem? (i := 706) (by decide +kernel)
/-- the end of a call that throws -/
def qt_P (G : qh_G) (ad : Nat → Nat) (iv : Nat → Option Nat) (g : qh_H) (A : md_A) (c : Int) (oc : Outcome) (h' : qh_H) : Prop := ∃ (q a : Nat), c = q ∧ q ≠ 0 ∧ oc = .threw a ∧ h' a = some (.inr (8 + q, [])) ∧ cr_T G ad iv g A h'
/-- the end of a call that may throw: c is 0, or which exception -/
def qt_E (G : qh_G) (ad : Nat → Nat) (iv : Nat → Option Nat) (g : qh_H) (A : md_A) (c r : Int) (A2 : md_A) (oc : Outcome) (h' : qh_H) : Prop := (c = 0 ∧ oc = .returned (some (.int (iI r))) ∧ cr_T G ad iv g A2 h') ∨ qt_P G ad iv g A c oc h'
def md_lE (A : md_A) (x key : Int) : Int := if ¬ ((0 ≤ x ∧ x < 5) ∧ 0 ≤ key ∧ key < 4) then 1 else if md_leads A x = 0 then 2 else 0
set_option maxRecDepth 100000 in
theorem c_leaderFor (l : Launch) (G : qh_G) (b : Nat) {ad : Nat → Nat} {iv : Nat → Option Nat} (J : cl_I ad iv) {g : qh_H} {I : md_A} {m : Nat → Nat} {E : cl_E} {N : Nat → Nat} (hf : qt_f l) {A : md_A} (h : cr G iv g I m E N A) (hS : md_S A) {x key : Int} (hx : rng x) (hk : rng key) (d : Nat) : qx_M l y_Q_leaderFor (Cond.code y_Q_leaderFor c_Q_leaderFor 3 (some (.object "QuorumLog$Server")) :: qu_W) (qr (d + 6) 1 6) G b [.ref (ad 0), .int (iI x), .int (iI key)] (ch G ad iv g I m E N) (fun oc h' => (md_lE A x key = 0 ∧ oc = .returned (some (.ref (ad (10 + x.toNat)))) ∧ h' = (ch G ad iv g I m E N)) ∨ qt_P G ad iv g A (md_lE A x key) oc h') := by
  obtain ⟨hv, hSs⟩ := hS
  refine qx_of (lo := [some (.ref (ad 0)), some (.int (iI x)), some (.int (iI key))]) (by decide) (fun w hw => List.mem_cons_of_mem _ hw) rfl (Nat.le_of_ble_eq_true rfl) rfl ?_
  intro X C
  have No : ¬ ((0 ≤ x ∧ x < 5) ∧ 0 ≤ key ∧ key < 4) → X 14 [some (.ref (ad 0)), some (.int (iI x)), some (.int (iI key))] [] (ch G ad iv g I m E N) 0 0 := by
    intro hc
    refine cx_throw l G b J h C hf (c := 1) qt_cA qt_iA qt_nA ha_A (by decide +kernel) rfl d_Q_leaderFor_14 d_Q_leaderFor_17 d_Q_leaderFor_18 d_Q_leaderFor_20 d_Q_leaderFor_23 qt_s248 rfl (by omega) (Nat.zero_le _) (fun a h' q1 q2 => Or.inr ⟨1, a, ?_, by decide, rfl, q1, q2⟩)
    unfold md_lE
    rw [if_pos hc]
    rfl
  refine qx_iload_n C d_Q_leaderFor_0 rfl rfl ?_
  refine nx_call0 C s_Q_leaderFor_1 (c_isServer l G b _ hx d) w_Q_isServer rfl rfl (Nat.le_of_ble_eq_true rfl) (by omega) (by decide) ?_
  by_cases h5 : 0 ≤ x ∧ x < 5
  · rw [if_pos h5]
    obtain ⟨s, hs, rfl⟩ := k5_ex h5.1 h5.2
    obtain ⟨hT, hn, h01, -⟩ := hSs s hs
    refine nx_if_eq C 14 d_Q_leaderFor_4 (by decide) (by omega) (fun z1 => ?_) (fun z1 => ?_)
    · exact absurd z1 (by omega)
    · refine qx_iload_n C d_Q_leaderFor_7 rfl rfl ?_
      refine nx_call0 C s_Q_leaderFor_8 (c_isKey l G b _ hk d) w_Q_isKey rfl rfl (Nat.le_of_ble_eq_true rfl) (by omega) (by decide) ?_
      by_cases h4 : 0 ≤ key ∧ key < 4
      · rw [if_pos h4]
        refine nx_if_ne C 24 d_Q_leaderFor_11 (by decide) (by omega) (fun z2 => ?_) (fun z2 => ?_)
        · refine qx_aload_n C d_Q_leaderFor_24 rfl rfl ?_
          refine qx_get C d_Q_leaderFor_25 fl_Q_11 (ch_Q J) rfl ?_
          refine qx_iload_n C d_Q_leaderFor_28 rfl rfl ?_
          refine cx_sv C J d_Q_leaderFor_29 rfl hs ?_
          refine nx_call0 C (s_Q_leaderFor_30 (ch_S J hs)) (c_leads l G b J hv.1.1 hs (h.1 s hs) h01 d) w_S_leads rfl rfl (Nat.le_of_ble_eq_true rfl) (by omega) (by decide) ?_
          by_cases hl : md_leads A s = 0
          · rw [hl]
            refine nx_if_ne C 46 d_Q_leaderFor_33 (by decide) (by omega) (fun z3 => ?_) (fun z3 => ?_)
            · exact absurd z3 (by omega)
            · refine cx_throw l G b J h C hf (c := 2) qt_cS qt_iS qt_nS ha_S (by decide +kernel) rfl d_Q_leaderFor_36 d_Q_leaderFor_39 d_Q_leaderFor_40 d_Q_leaderFor_42 d_Q_leaderFor_45 qt_s123 rfl (by omega) (Nat.zero_le _) (fun a h' q1 q2 => Or.inr ⟨2, a, ?_, by decide, rfl, q1, q2⟩)
              unfold md_lE
              rw [if_neg (fun z => z ⟨h5, h4⟩), if_pos hl]
              rfl
          · have hl1 := md_leads_01 A s
            refine nx_if_ne C 46 d_Q_leaderFor_33 (by decide) (by omega) (fun z3 => ?_) (fun z3 => ?_)
            · refine qx_aload_n C d_Q_leaderFor_46 rfl rfl ?_
              refine qx_get C d_Q_leaderFor_47 fl_Q_11 (ch_Q J) rfl ?_
              refine qx_iload_n C d_Q_leaderFor_50 rfl rfl ?_
              refine cx_sv C J d_Q_leaderFor_51 rfl hs ?_
              refine qx_aret C d_Q_leaderFor_52 (Or.inr ⟨_, rfl⟩) (Nat.zero_le _) (Nat.zero_le _) (Or.inl ⟨?_, rfl, rfl⟩)
              unfold md_lE
              rw [if_neg (fun z => z ⟨h5, h4⟩), if_neg hl]
            · exact absurd z3 (by omega)
        · exact absurd z2 (by omega)
      · rw [if_neg h4]
        refine nx_if_ne C 24 d_Q_leaderFor_11 (by decide) (by omega) (fun z2 => ?_) (fun z2 => ?_)
        · exact absurd z2 (by omega)
        · exact No (fun z => h4 z.2)
  · rw [if_neg h5]
    refine nx_if_eq C 14 d_Q_leaderFor_4 (by decide) (by omega) (fun z1 => ?_) (fun z1 => ?_)
    · exact No (fun z => h5 z.1)
    · exact absurd z1 (by omega)
theorem md_lE_0 {A : md_A} {x key : Int} (h : md_lE A x key = 0) : ((0 ≤ x ∧ x < 5) ∧ 0 ≤ key ∧ key < 4) ∧ ¬ md_leads A x = 0 := by
  unfold md_lE at h
  split at h
  · cases h
  · rename_i h1
    split at h
    · cases h
    · rename_i h2
      exact ⟨Decidable.not_not.mp h1, h2⟩
theorem md_lE_put {A : md_A} {x key : Int} (h : md_lE A x key ≠ 0) : md_putE A x key = md_lE A x key := by
  unfold md_lE at h
  unfold md_lE md_putE
  split
  · rfl
  · rename_i h1
    rw [if_neg h1] at h
    split
    · rfl
    · rename_i h2
      rw [if_neg h2] at h
      exact absurd rfl h
theorem md_lE_read {A : md_A} {x key : Int} (h : md_lE A x key ≠ 0) : md_readE A x key = md_lE A x key := by
  unfold md_lE at h
  unfold md_lE md_readE
  split
  · rfl
  · rename_i h1
    rw [if_neg h1] at h
    split
    · rfl
    · rename_i h2
      rw [if_neg h2] at h
      exact absurd rfl h
set_option maxRecDepth 100000 in
theorem c_put (l : Launch) (G : qh_G) (b : Nat) {ad : Nat → Nat} {iv : Nat → Option Nat} (J : cl_I ad iv) {g : qh_H} {I : md_A} {m : Nat → Nat} {E : cl_E} {N : Nat → Nat} (hf : qt_f l) {A : md_A} (h : cr G iv g I m E N A) (hS : md_S A) {x key val : Int} (hx : rng x) (hk : rng key) (hva : rng val) (d : Nat) : qx_M l y_Q_put (Cond.code y_Q_put c_Q_put 5 (some .int) :: qu_W) (qr (d + 7) 2 12) G b [.ref (ad 0), .int (iI x), .int (iI key), .int (iI val)] (ch G ad iv g I m E N) (qt_E G ad iv g A (md_putE A x key) (md_last A x + 1) (md_append A x 1 key val)) := by
  refine qx_of (lo := [some (.ref (ad 0)), some (.int (iI x)), some (.int (iI key)), some (.int (iI val)), none]) (by decide) (fun w hw => List.mem_cons_of_mem _ hw) rfl (Nat.le_of_ble_eq_true rfl) rfl ?_
  intro X C
  refine qx_aload_n C d_Q_put_0 rfl rfl ?_
  refine qx_iload_n C d_Q_put_1 rfl rfl ?_
  refine qx_iload_n C d_Q_put_2 rfl rfl ?_
  refine qx_runt C (s_Q_put_3 (ch_Q J)) (c_leaderFor l G b J hf h hS hx hk d) w_Q_leaderFor rfl rfl (Nat.le_of_ble_eq_true rfl) (qr_ok (by omega) (by decide) (by decide) (by decide)) (fun a h' q => ?_) (fun v h' q => ?_)
  · rcases q with ⟨-, q, -⟩ | ⟨c, a', e1, e2, e3, e4, e5⟩
    · cases q
    · exact Or.inr ⟨c, a', (md_lE_put (by omega)).trans e1, e2, e3, e4, e5⟩
  · rcases q with ⟨q0, q1, rfl⟩ | ⟨c, a', e1, e2, e3, e4, e5⟩
    rotate_left
    · cases e3
    cases q1
    obtain ⟨hv, hSs⟩ := hS
    obtain ⟨⟨h5, h4⟩, hl⟩ := md_lE_0 q0
    obtain ⟨s, hs, rfl⟩ := k5_ex h5.1 h5.2
    obtain ⟨hT, hn, h01, -⟩ := hSs s hs
    have hz := md_sz hT.1
    have hla : md_last A s = A 4 s + A 8 s := rfl
    rw [show ((s : Int)).toNat = s from Int.toNat_natCast s]
    show X 6 _ [.ref (ad (10 + s))] _ 1 6
    refine nx_astore C d_Q_put_6 (Nat.le_of_ble_eq_true rfl) (lo' := [_, _, _, _, some (.ref _)]) rfl ?_
    refine qx_aload C d_Q_put_8 rfl ?_
    refine qx_get C d_Q_put_10 fl_Q_85 (ch_S J hs) rfl ?_
    refine qx_get C d_Q_put_13 fl_Q_89 (ch_L J hs) rfl ?_
    rw [(h.2.1 s hs).1]
    refine qx_bipush C d_Q_put_16 (v := iI (24)) (by decide) ?_
    refine nx_icmp_lt C 31 d_Q_put_18 (by decide) (by omega) (by omega) (fun z1 => ?_) (fun z1 => ?_)
    · refine qx_aload_n C d_Q_put_31 rfl rfl ?_
      refine qx_aload C d_Q_put_32 rfl ?_
      refine qx_new C d_Q_put_34 nw_Q_101 (Nat.le_of_ble_eq_true rfl) (Nat.le_of_ble_eq_true rfl) (fun q hq => ?_)
      obtain ⟨i1, g1⟩ := ch_none hq
      rw [ch_newq i1]
      refine qx_dup C d_Q_put_37 rfl ?_
      refine qx_aload C d_Q_put_38 rfl ?_
      refine qx_get C d_Q_put_40 fl_Q_61 (ch_S J hs) rfl ?_
      rw [(h.1 s hs).1.2.2.1]
      refine qx_iconst C d_Q_put_43 (v := iI (1)) rfl ?_
      refine qx_iload_n C d_Q_put_44 rfl rfl ?_
      refine qx_iload_n C d_Q_put_45 rfl rfl ?_
      refine nx_callv C s_Q_put_46 (c_Einit l G b ((ch_g J i1).trans (va_up_self _ _ _)) d) w_E_init rfl rfl (Nat.le_of_ble_eq_true rfl) (by omega) (by decide) ?_
      rw [ch_newq i1, va_up_up]
      have gg : ∀ y : Option va_E, cr_g g (va_up g q y) := fun y => (cr_g.rf g).new g1
      refine nx_callp C (s_Q_put_49 (ch_Q J)) (c_append l G b J (h.gr (gg _)) hv.1 hs (fun s' hs' => (hSs s' hs').1.1) (by omega) (by rw [md_push_config hT.1, if_neg (by decide)]; exact hT.2.1) (by omega) hv.2 hn (by omega) hk hva ⟨q, rfl, i1, va_up_self _ _ _⟩ d) w_Q_append rfl rfl (Nat.le_of_ble_eq_true rfl) (by omega) (by decide) (fun hh hP => ?_)
      obtain ⟨g2, I2, E2, N2, rfl, hg2, h2, j1, j2, j3⟩ := hP
      refine qx_iret C d_Q_put_52 (Nat.le_of_ble_eq_true rfl) (Nat.le_of_ble_eq_true rfl) (Or.inl ⟨?_, rfl, cr_T.of ((gg _).tr hg2) h2⟩)
      unfold md_putE
      rw [if_neg (fun z => z ⟨h5, h4⟩), if_neg hl, if_neg (by omega)]
    · refine cx_throw l G b J h C hf (c := 3) qt_cU qt_iU qt_nU ha_U (by decide +kernel) rfl d_Q_put_21 d_Q_put_24 d_Q_put_25 d_Q_put_27 d_Q_put_30 qt_s96 rfl (by omega) (Nat.zero_le _) (fun a h' q1 q2 => Or.inr ⟨3, a, ?_, by decide, rfl, q1, q2⟩)
      unfold md_putE
      rw [if_neg (fun z => z ⟨h5, h4⟩), if_neg hl, if_pos (by omega)]
      rfl
theorem chg_or : ∀ m : Nat, m < 32 → ∀ k : Nat, k < 5 → (bit (m : Int) (k : Int) = 1 → io (m : Int) (one (k : Int)) = m) ∧ (bit (m : Int) (k : Int) = 0 → io (m : Int) (one (k : Int)) = ix (m : Int) (one (k : Int)) ∧ ix (m : Int) (one (k : Int)) ≠ m ∧ ix (m : Int) (one (k : Int)) ≠ 0) := by decide +kernel
theorem chg_and : ∀ m : Nat, m < 32 → ∀ k : Nat, k < 5 → iI (m : Int) &&& (iI (one (k : Int)) ^^^ iI (-1)) = iI (if bit (m : Int) (k : Int) = 1 then ix (m : Int) (one (k : Int)) else m) := by decide +kernel
theorem chg_x : ∀ m : Nat, m < 32 → ∀ k : Nat, k < 5 → bit (m : Int) (k : Int) = 1 → ix (m : Int) (one (k : Int)) ≠ m ∧ (ix (m : Int) (one (k : Int)) = 0 ↔ (m : Int) = one (k : Int)) := by decide +kernel
set_option maxRecDepth 100000 in
theorem c_change (l : Launch) (G : qh_G) (b : Nat) {ad : Nat → Nat} {iv : Nat → Option Nat} (J : cl_I ad iv) {g : qh_H} {I : md_A} {m : Nat → Nat} {E : cl_E} {N : Nat → Nat} (hf : qt_f l) {A : md_A} (h : cr G iv g I m E N A) (hS : md_S A) {x on j : Int} (hx : rng x) (hon : rng on) (hj : j = 0 ∨ j = 1) (d : Nat) : qx_M l y_Q_change (Cond.code y_Q_change c_Q_change 8 (some .int) :: qu_W) (qr (d + 7) 1 6) G b [.ref (ad 0), .int (iI x), .int (iI on), .int (iI j)] (ch G ad iv g I m E N) (qt_E G ad iv g A (md_changeE A x on j) (md_last A x + 1) (md_append A x 2 (ix (md_config A x) (one on)) 0)) := by
  obtain ⟨hv, hSs⟩ := hS
  refine qx_of (lo := [some (.ref (ad 0)), some (.int (iI x)), some (.int (iI on)), some (.int (iI j)), none, none, none, none]) (by decide) (fun w hw => List.mem_cons_of_mem _ hw) rfl (Nat.le_of_ble_eq_true rfl) rfl ?_
  intro X C
  have No : ¬ ((0 ≤ x ∧ x < 5) ∧ 0 ≤ on ∧ on < 5) → X 14 [some (.ref (ad 0)), some (.int (iI x)), some (.int (iI on)), some (.int (iI j)), none, none, none, none] [] (ch G ad iv g I m E N) 0 0 := by
    intro hc
    refine cx_throw l G b J h C hf (c := 1) qt_cA qt_iA qt_nA ha_A (by decide +kernel) rfl d_Q_change_14 d_Q_change_17 d_Q_change_18 d_Q_change_20 d_Q_change_23 qt_s112 rfl (by omega) (Nat.zero_le _) (fun a h' q1 q2 => Or.inr ⟨1, a, ?_, by decide, rfl, q1, q2⟩)
    unfold md_changeE
    rw [if_pos hc]
    rfl
  refine qx_iload_n C d_Q_change_0 rfl rfl ?_
  refine nx_call0 C s_Q_change_1 (c_isServer l G b _ hx d) w_Q_isServer rfl rfl (Nat.le_of_ble_eq_true rfl) (by omega) (by decide) ?_
  by_cases h5 : 0 ≤ x ∧ x < 5
  · rw [if_pos h5]
    obtain ⟨s, hs, rfl⟩ := k5_ex h5.1 h5.2
    obtain ⟨hT, hn, h01, -⟩ := hSs s hs
    have hz := md_sz hT.1
    have hla : md_last A s = A 4 s + A 8 s := rfl
    refine nx_if_eq C 14 d_Q_change_4 (by decide) (by omega) (fun z1 => ?_) (fun z1 => ?_)
    · exact absurd z1 (by omega)
    · refine qx_iload_n C d_Q_change_7 rfl rfl ?_
      refine nx_call0 C s_Q_change_8 (c_isServer l G b _ hon d) w_Q_isServer rfl rfl (Nat.le_of_ble_eq_true rfl) (by omega) (by decide) ?_
      by_cases h4 : 0 ≤ on ∧ on < 5
      · rw [if_pos h4]
        obtain ⟨o1, ho1, rfl⟩ := k5_ex h4.1 h4.2
        have hv5 : ¬ ¬ ((0 ≤ (s : Int) ∧ (s : Int) < 5) ∧ 0 ≤ (o1 : Int) ∧ (o1 : Int) < 5) := fun z => z ⟨h5, h4⟩
        obtain ⟨mm, hmm, emm⟩ := set5_ex hT.2.1
        have hbt := bit_01 (md_config A s) o1
        refine nx_if_ne C 24 d_Q_change_11 (by decide) (by omega) (fun z2 => ?_) (fun z2 => ?_)
        · refine qx_aload_n C d_Q_change_24 rfl rfl ?_
          refine qx_get C d_Q_change_25 fl_Q_11 (ch_Q J) rfl ?_
          refine qx_iload_n C d_Q_change_28 rfl rfl ?_
          refine cx_sv C J d_Q_change_29 rfl hs ?_
          refine nx_astore C d_Q_change_30 (Nat.le_of_ble_eq_true rfl) (lo' := [_, _, _, _, some (.ref _), _, _, _]) rfl ?_
          refine qx_aload C d_Q_change_32 rfl ?_
          refine qx_get C d_Q_change_34 fl_Q_85 (ch_S J hs) rfl ?_
          refine nx_astore C d_Q_change_37 (Nat.le_of_ble_eq_true rfl) (lo' := [_, _, _, _, _, some (.ref _), _, _]) rfl ?_
          refine qx_aload C d_Q_change_39 rfl ?_
          refine nx_call0 C (s_Q_change_41 (ch_L J hs)) (c_config l G b J hv.1.1 hs (h.2.1 s hs) hT.1 d) w_L_configuration rfl rfl (Nat.le_of_ble_eq_true rfl) (by omega) (by decide) ?_
          refine nx_istore C d_Q_change_44 (Nat.le_of_ble_eq_true rfl) (lo' := [_, _, _, _, _, _, some (.int _), _]) rfl ?_
          refine qx_iload_n C d_Q_change_46 rfl rfl ?_
          have P67 : ∀ q : Int, rng q → (q = md_config A s ↔ bit (md_config A s) o1 = j) → (¬ bit (md_config A s) o1 = j → q = ix (md_config A s) (one o1)) → (¬ bit (md_config A s) o1 = j → (q = 0 ↔ (j = 0 ∧ md_config A s = one o1))) → X 67 [some (.ref (ad 0)), some (.int (iI s)), some (.int (iI o1)), some (.int (iI j)), some (.ref (ad (10 + s))), some (.ref (ad (20 + s))), some (.int (iI (md_config A s))), none] [.int (iI q)] (ch G ad iv g I m E N) 0 0 := by
            intro q hq e1 e2 e3
            have Bad : (bit (md_config A s) o1 = j ∨ (j = 0 ∧ md_config A s = one o1)) → X 81 [some (.ref (ad 0)), some (.int (iI s)), some (.int (iI o1)), some (.int (iI j)), some (.ref (ad (10 + s))), some (.ref (ad (20 + s))), some (.int (iI (md_config A s))), some (.int (iI q))] [] (ch G ad iv g I m E N) 0 0 := by
              intro hc
              refine cx_throw l G b J h C hf (c := 1) qt_cA qt_iA qt_nA ha_A (by decide +kernel) rfl d_Q_change_81 d_Q_change_84 d_Q_change_85 d_Q_change_87 d_Q_change_90 qt_s119 rfl (by omega) (Nat.zero_le _) (fun a h' q1 q2 => Or.inr ⟨1, a, ?_, by decide, rfl, q1, q2⟩)
              unfold md_changeE
              rw [if_neg hv5, if_pos hc]
              rfl
            refine nx_istore C d_Q_change_67 (Nat.le_of_ble_eq_true rfl) (lo' := [_, _, _, _, _, _, _, some (.int _)]) rfl ?_
            refine qx_iload C d_Q_change_69 rfl ?_
            refine qx_iload C d_Q_change_71 rfl ?_
            refine nx_icmp_eq C 81 d_Q_change_73 (by decide) (by omega) (by omega) (fun z3 => ?_) (fun z3 => ?_)
            · exact Bad (Or.inl (e1.mp z3))
            · have hb1 : ¬ bit (md_config A s) o1 = j := fun z => z3 (e1.mpr z)
              refine qx_iload C d_Q_change_76 rfl ?_
              refine nx_if_ne C 91 d_Q_change_78 (by decide) (by omega) (fun z4 => ?_) (fun z4 => ?_)
              · have hgood : ¬ (bit (md_config A s) o1 = j ∨ (j = 0 ∧ md_config A s = one o1)) := fun z => by
                  rcases z with z | z
                  · exact hb1 z
                  · exact z4 ((e3 hb1).mpr z)
                have U3 : ¬ md_leads A s = 0 → (24 ≤ A 8 s ∨ A 14 s < md_lm A s (A 8 s).toNat ∨ md_old A s = 1) → X 145 [some (.ref (ad 0)), some (.int (iI s)), some (.int (iI o1)), some (.int (iI j)), some (.ref (ad (10 + s))), some (.ref (ad (20 + s))), some (.int (iI (md_config A s))), some (.int (iI q))] [] (ch G ad iv g I m E N) 0 0 := by
                  intro hl hc
                  refine cx_throw l G b J h C hf (c := 3) qt_cU qt_iU qt_nU ha_U (by decide +kernel) rfl d_Q_change_145 d_Q_change_148 d_Q_change_149 d_Q_change_151 d_Q_change_154 qt_s139 rfl (by omega) (Nat.zero_le _) (fun a h' q1 q2 => Or.inr ⟨3, a, ?_, by decide, rfl, q1, q2⟩)
                  unfold md_changeE
                  rw [if_neg hv5, if_neg hgood, if_neg hl, if_pos hc]
                  rfl
                refine qx_aload C d_Q_change_91 rfl ?_
                refine nx_call0 C (s_Q_change_93 (ch_S J hs)) (c_leads l G b J hv.1.1 hs (h.1 s hs) h01 d) w_S_leads rfl rfl (Nat.le_of_ble_eq_true rfl) (by omega) (by decide) ?_
                have hl1 := md_leads_01 A s
                refine nx_if_ne C 109 d_Q_change_96 (by decide) (by omega) (fun z5 => ?_) (fun z5 => ?_)
                · refine qx_aload C d_Q_change_109 rfl ?_
                  refine qx_get C d_Q_change_111 fl_Q_89 (ch_L J hs) rfl ?_
                  rw [(h.2.1 s hs).1]
                  refine qx_bipush C d_Q_change_114 (v := iI (24)) (by decide) ?_
                  refine nx_icmp_ge C 145 d_Q_change_116 (by decide) (by omega) (by omega) (fun z6 => ?_) (fun z6 => ?_)
                  · exact U3 z5 (Or.inl z6)
                  · refine qx_aload C d_Q_change_119 rfl ?_
                    refine qx_aload C d_Q_change_121 rfl ?_
                    refine nx_call0 C (s_Q_change_123 (ch_L J hs)) (c_last l G b J hs (h.2.1 s hs) hT.1 d) w_L_last rfl rfl (Nat.le_of_ble_eq_true rfl) (by omega) (by decide) ?_
                    refine nx_call0 C (s_Q_change_126 (ch_L J hs)) (c_latest l G b J hv.1.1 hs (h.2.1 s hs) hT.1 (t := (A 8 s).toNat) (by omega) (by omega) d) w_L_latestMembersUpTo rfl rfl (Nat.le_of_ble_eq_true rfl) (by omega) (by decide) ?_
                    have hlm := md_lmX_r hT.1 (t := (A 8 s).toNat) (by omega)
                    have hlx : md_lmX A s (A 8 s).toNat = if md_lm A s (A 8 s).toNat = 0 then -1 else md_lm A s (A 8 s).toNat := rfl
                    refine qx_aload C d_Q_change_129 rfl ?_
                    refine qx_get C d_Q_change_131 fl_Q_133 (ch_S J hs) rfl ?_
                    rw [(h.1 s hs).1.2.2.2.2.2.1]
                    refine nx_icmp_gt C 145 d_Q_change_134 (by decide) (by omega) (by omega) (fun z7 => ?_) (fun z7 => ?_)
                    · exact U3 z5 (Or.inr (Or.inl (by split at hlx <;> omega)))
                    · refine qx_aload C d_Q_change_137 rfl ?_
                      refine nx_call0 C (s_Q_change_139 (ch_S J hs)) (c_fresh l G b J hv.1.1 hs (h.1 s hs) (h.2.1 s hs) hT.1 (by omega) d) w_S_hasCommitOfItsTerm rfl rfl (Nat.le_of_ble_eq_true rfl) (by omega) (by decide) ?_
                      have hol : md_old A s = if md_termAt A s (A 14 s) = A 2 s then 0 else 1 := rfl
                      by_cases hft : md_termAt A s (A 14 s) = A 2 s
                      · rw [if_pos hft] at hol ⊢
                        refine nx_if_ne C 155 d_Q_change_142 (by decide) (by omega) (fun z8 => ?_) (fun z8 => ?_)
                        · refine qx_aload_n C d_Q_change_155 rfl rfl ?_
                          refine qx_aload C d_Q_change_156 rfl ?_
                          refine qx_new C d_Q_change_158 nw_Q_101 (Nat.le_of_ble_eq_true rfl) (Nat.le_of_ble_eq_true rfl) (fun e he => ?_)
                          obtain ⟨i1, g1⟩ := ch_none he
                          rw [ch_newq i1]
                          refine qx_dup C d_Q_change_161 rfl ?_
                          refine qx_aload C d_Q_change_162 rfl ?_
                          refine qx_get C d_Q_change_164 fl_Q_61 (ch_S J hs) rfl ?_
                          rw [(h.1 s hs).1.2.2.1]
                          refine qx_iconst C d_Q_change_167 (v := iI (2)) rfl ?_
                          refine qx_iload C d_Q_change_168 rfl ?_
                          refine qx_iconst C d_Q_change_170 (v := iI (0)) rfl ?_
                          refine nx_callv C s_Q_change_171 (c_Einit l G b ((ch_g J i1).trans (va_up_self _ _ _)) d) w_E_init rfl rfl (Nat.le_of_ble_eq_true rfl) (by omega) (by decide) ?_
                          rw [ch_newq i1, va_up_up]
                          have gg : ∀ y : Option va_E, cr_g g (va_up g e y) := fun y => (cr_g.rf g).new g1
                          have hxo := set5_xor hT.2.1 (set5_one h4.1 h4.2)
                          have hq2 := e2 hb1
                          refine nx_callp C (s_Q_change_174 (ch_Q J)) (c_append l G b J (h.gr (gg _)) hv.1 hs (fun s' hs' => (hSs s' hs').1.1) (by omega) (so := 2) (ke := q) (va := 0) (by rw [md_push_config hT.1, if_pos rfl, hq2]; exact hxo) (by omega) hv.2 hn (by omega) (by omega) (by omega) ⟨e, rfl, i1, va_up_self _ _ _⟩ d) w_Q_append rfl rfl (Nat.le_of_ble_eq_true rfl) (by omega) (by decide) (fun hh hP => ?_)
                          obtain ⟨g2, I2, E2, N2, rfl, hg2, h2, j1, j2, j3⟩ := hP
                          rw [hq2] at h2
                          refine qx_iret C d_Q_change_177 (Nat.le_of_ble_eq_true rfl) (Nat.le_of_ble_eq_true rfl) (Or.inl ⟨?_, rfl, cr_T.of ((gg _).tr hg2) h2⟩)
                          unfold md_changeE
                          rw [if_neg hv5, if_neg hgood, if_neg z5, if_neg (by split at hlx <;> omega)]
                        · exact absurd z8 (by omega)
                      · rw [if_neg hft] at hol ⊢
                        refine nx_if_ne C 155 d_Q_change_142 (by decide) (by omega) (fun z8 => ?_) (fun z8 => ?_)
                        · exact absurd z8 (by omega)
                        · exact U3 z5 (Or.inr (Or.inr hol))
                · refine cx_throw l G b J h C hf (c := 2) qt_cS qt_iS qt_nS ha_S (by decide +kernel) rfl d_Q_change_99 d_Q_change_102 d_Q_change_103 d_Q_change_105 d_Q_change_108 qt_s123 rfl (by omega) (Nat.zero_le _) (fun a h' q1 q2 => Or.inr ⟨2, a, ?_, by decide, rfl, q1, q2⟩)
                  unfold md_changeE
                  rw [if_neg hv5, if_neg hgood, if_pos z5]
                  rfl
              · exact Bad (Or.inr ((e3 hb1).mp z4))
          refine nx_if_eq C 59 d_Q_change_47 (by decide) (by omega) (fun z3 => ?_) (fun z3 => ?_)
          · refine qx_iload C d_Q_change_59 rfl ?_
            refine qx_iconst C d_Q_change_61 (v := iI (1)) rfl ?_
            refine qx_iload_n C d_Q_change_62 rfl rfl ?_
            refine nx_ishl1 C d_Q_change_63 (by omega) ?_
            refine qx_iconst C d_Q_change_64 (v := iI (-1)) rfl ?_
            refine qx_ixor C d_Q_change_65 ?_
            refine qx_iand C d_Q_change_66 ?_
            have hca := chg_and mm hmm o1 ho1
            rw [← emm] at hca
            rw [hca]
            have hx1 := chg_x mm hmm o1 ho1
            rw [← emm] at hx1
            have hxo := set5_xor hT.2.1 (set5_one h4.1 h4.2)
            by_cases hbb : bit (md_config A s) o1 = 1
            · rw [if_pos hbb]
              have hx2 := hx1 hbb
              exact P67 _ (by omega) ⟨fun z => absurd z hx2.1, fun z => absurd z (by omega)⟩ (fun _ => rfl) (fun _ => hx2.2.trans ⟨fun z => ⟨z3, z⟩, fun z => z.2⟩)
            · rw [if_neg hbb]
              exact P67 _ (by omega) ⟨fun _ => by omega, fun _ => rfl⟩ (fun z => absurd (show bit (md_config A s) o1 = j by omega) z) (fun z => absurd (show bit (md_config A s) o1 = j by omega) z)
          · refine qx_iload C d_Q_change_50 rfl ?_
            refine qx_iconst C d_Q_change_52 (v := iI (1)) rfl ?_
            refine qx_iload_n C d_Q_change_53 rfl rfl ?_
            refine nx_ishl1 C d_Q_change_54 (by omega) ?_
            have h1k := set5_one h4.1 h4.2
            refine nx_ior C d_Q_change_55 (by omega) (by omega) ?_
            refine qx_goto C d_Q_change_56 (tgt := 67) (by decide) ?_
            have ho2 := chg_or mm hmm o1 ho1
            rw [← emm] at ho2
            have hio := set5_or hT.2.1 h1k
            by_cases hbb : bit (md_config A s) o1 = 1
            · rw [ho2.1 hbb]
              exact P67 _ (by omega) ⟨fun _ => by omega, fun _ => rfl⟩ (fun z => absurd (show bit (md_config A s) o1 = j by omega) z) (fun z => absurd (show bit (md_config A s) o1 = j by omega) z)
            · have ho3 := ho2.2 (by omega)
              rw [ho3.1] at hio ⊢
              exact P67 _ (by omega) ⟨fun z => absurd z ho3.2.1, fun z => absurd z (by omega)⟩ (fun _ => rfl) (fun _ => ⟨fun z => absurd z ho3.2.2, fun z => absurd z.1 z3⟩)
        · exact absurd z2 (by omega)
      · rw [if_neg h4]
        refine nx_if_ne C 24 d_Q_change_11 (by decide) (by omega) (fun z2 => ?_) (fun z2 => ?_)
        · exact absurd z2 (by omega)
        · exact No (fun z => h4 z.2)
  · rw [if_neg h5]
    refine nx_if_eq C 14 d_Q_change_4 (by decide) (by omega) (fun z1 => ?_) (fun z1 => ?_)
    · exact No (fun z => h5 z.1)
    · exact absurd z1 (by omega)
