/-! the class: a log's readers -/
theorem cr_hsn {G : qh_G} {ad : Nat → Nat} {iv : Nat → Option Nat} (J : cl_I ad iv) {g : qh_H} {I : md_A} {m : Nat → Nat} {E : cl_E} {N : Nat → Nat} {a : Nat} {ix t me : Int} {V : Int → Int} (h : cr_N G iv g a ix t me V) : ∃ va, iv va = none ∧ (ch G ad iv g I m E N) a = some (.inr (7, [.int (iI ix), .int (iI t), .int (iI me), .ref va])) ∧ cr_V G (ch G ad iv g I m E N) va V := by
  obtain ⟨h1, va, h2, h3, f, h4, h5⟩ := h
  exact ⟨va, h2, (ch_g J h1).trans h3, f, (ch_g J h2).trans h4, h5⟩
theorem cr_he {G : qh_G} {ad : Nat → Nat} {iv : Nat → Option Nat} (J : cl_I ad iv) {g : qh_H} {I : md_A} {m : Nat → Nat} {E : cl_E} {N : Nat → Nat} {r : Option Nat} {t so su va : Int} (h : cr_E iv g r t so su va) : ∃ a, r = some a ∧ (ch G ad iv g I m E N) a = some (.inr (1, [.int (iI t), .int (iI so), .int (iI su), .int (iI va)])) := by
  obtain ⟨a, h1, h2, h3⟩ := h
  exact ⟨a, h1, (ch_g J h2).trans h3⟩
set_option maxRecDepth 100000 in
theorem c_last (l : Launch) (G : qh_G) (b : Nat) {ad : Nat → Nat} {iv : Nat → Option Nat} (J : cl_I ad iv) {g : qh_H} {I : md_A} {m : Nat → Nat} {E : cl_E} {N : Nat → Nat} {A : md_A} {s : Nat} (hs : s < 5) (hL : cr_L G iv g I E N A s) (hB : md_B A s) (d : Nat) : qj l y_L_last c_L_last 1 (some .int) d 0 0 G b [.ref (ad (20 + s))] (ch G ad iv g I m E N) (md_last A s) (ch G ad iv g I m E N) := by
  obtain ⟨hct, hN, hE⟩ := hL
  obtain ⟨va, -, hsn, hva⟩ := cr_hsn (I := I) (m := m) (E := E) (N := N) J hN
  refine qx_of (lo := [some (.ref (ad (20 + s)))]) (by decide) (fun w hw => List.mem_cons_of_mem _ hw) rfl (Nat.le_of_ble_eq_true rfl) rfl ?_
  intro X C
  refine qx_aload_n C d_L_last_0 rfl rfl ?_
  refine qx_get C d_L_last_1 fl_L_17 (ch_L J hs) rfl ?_
  refine qx_get C d_L_last_4 fl_L_21 hsn rfl ?_
  refine qx_aload_n C d_L_last_7 rfl rfl ?_
  refine qx_get C d_L_last_8 fl_L_27 (ch_L J hs) rfl ?_
  rw [hct]
  refine nx_iadd C d_L_last_11 ?_
  refine qx_iret C d_L_last_12 (Nat.zero_le _) (Nat.zero_le _) ⟨_, rfl, ?_, rfl⟩
  rfl
set_option maxRecDepth 100000 in
theorem c_find (l : Launch) (G : qh_G) (b : Nat) {ad : Nat → Nat} {iv : Nat → Option Nat} (J : cl_I ad iv) {g : qh_H} {I : md_A} {m : Nat → Nat} {E : cl_E} {N : Nat → Nat} {A : md_A} {s : Nat} (hs : s < 5) (hL : cr_L G iv g I E N A s) (hB : md_B A s) {i : Int} (hi : -1000000 ≤ i ∧ i ≤ 4000000) {r : Option Nat} (hr : r = if A 4 s < i ∧ i ≤ md_last A s then E (30 + s) (i - A 4 s - 1).toNat else none) (d : Nat) : qq l y_L_find c_L_find 3 (some (.object "QuorumLog$Entry")) d 0 0 G b [.ref (ad (20 + s)), .int (iI i)] (ch G ad iv g I m E N) r (ch G ad iv g I m E N) := by
  have hl : md_last A s = A 4 s + A 8 s := rfl
  obtain ⟨hct, hN, hE⟩ := hL
  obtain ⟨va, -, hsn, hva⟩ := cr_hsn (I := I) (m := m) (E := E) (N := N) J hN
  refine qx_of (lo := [some (.ref (ad (20 + s))), some (.int (iI i)), none]) (by decide) (fun w hw => List.mem_cons_of_mem _ hw) rfl (Nat.le_of_ble_eq_true rfl) rfl ?_
  intro X C
  refine qx_iload_n C d_L_find_0 rfl rfl ?_
  refine qx_aload_n C d_L_find_1 rfl rfl ?_
  refine qx_get C d_L_find_2 fl_L_17 (ch_L J hs) rfl ?_
  refine qx_get C d_L_find_5 fl_L_21 hsn rfl ?_
  refine nx_isub C d_L_find_8 ?_
  refine qx_iconst C d_L_find_9 (v := iI (1)) rfl ?_
  refine nx_isub C d_L_find_10 ?_
  refine nx_istore_n C d_L_find_11 rfl (Nat.le_of_ble_eq_true rfl) (lo' := [_, _, some (.int _)]) rfl ?_
  refine qx_iload_n C d_L_find_12 rfl rfl ?_
  refine nx_if_lt C 33 d_L_find_13 (by decide) (by omega) (fun z1 => ?_) (fun z1 => ?_)
  · refine qx_null C d_L_find_33 ?_
    rw [if_neg (by omega)] at hr
    exact qx_aret C d_L_find_34 (Or.inl rfl) (Nat.zero_le _) (Nat.zero_le _) ⟨none, rfl, hr.symm, rfl⟩
  · refine qx_iload_n C d_L_find_16 rfl rfl ?_
    refine qx_aload_n C d_L_find_17 rfl rfl ?_
    refine qx_get C d_L_find_18 fl_L_27 (ch_L J hs) rfl ?_
    rw [hct]
    refine nx_icmp_ge C 33 d_L_find_21 (by decide) (by omega) (by omega) (fun z2 => ?_) (fun z2 => ?_)
    · refine qx_null C d_L_find_33 ?_
      rw [if_neg (by omega)] at hr
      exact qx_aret C d_L_find_34 (Or.inl rfl) (Nat.zero_le _) (Nat.zero_le _) ⟨none, rfl, hr.symm, rfl⟩
    · rw [if_pos (by omega)] at hr
      obtain ⟨a, ha, hae⟩ := cr_he (G := G) (I := I) (m := m) (E := E) (N := N) J (hE (i - A 4 s - 1).toNat (by omega))
      refine qx_aload_n C d_L_find_24 rfl rfl ?_
      refine qx_get C d_L_find_25 fl_L_11 (ch_L J hs) rfl ?_
      refine qx_iload_n C d_L_find_28 rfl rfl ?_
      refine cx_el C J hs d_L_find_29 (by omega) (by omega) ha ?_
      refine qx_goto C d_L_find_30 (tgt := 34) (by decide) ?_
      exact qx_aret C d_L_find_34 (Or.inr ⟨_, rfl⟩) (Nat.zero_le _) (Nat.zero_le _) ⟨some a, rfl, by rw [hr, ha], rfl⟩
set_option maxRecDepth 100000 in
theorem c_termAt (l : Launch) (G : qh_G) (b : Nat) {ad : Nat → Nat} {iv : Nat → Option Nat} (J : cl_I ad iv) {g : qh_H} {I : md_A} {m : Nat → Nat} {E : cl_E} {N : Nat → Nat} {A : md_A} {s : Nat} (hs : s < 5) (hL : cr_L G iv g I E N A s) (hB : md_B A s) {i : Int} (hi : -1000000 ≤ i ∧ i ≤ 4000000) (d : Nat) : qj l y_L_termAt c_L_termAt 3 (some .int) (d + 1) 0 0 G b [.ref (ad (20 + s)), .int (iI i)] (ch G ad iv g I m E N) (md_termAt A s i) (ch G ad iv g I m E N) := by
  have hl : md_last A s = A 4 s + A 8 s := rfl
  have hL2 := hL
  obtain ⟨hct, hN, hE⟩ := hL
  obtain ⟨va, -, hsn, hva⟩ := cr_hsn (I := I) (m := m) (E := E) (N := N) J hN
  refine qx_of (lo := [some (.ref (ad (20 + s))), some (.int (iI i)), none]) (by decide) (fun w hw => List.mem_cons_of_mem _ hw) rfl (Nat.le_of_ble_eq_true rfl) rfl ?_
  intro X C
  refine qx_iload_n C d_L_termAt_0 rfl rfl ?_
  refine qx_aload_n C d_L_termAt_1 rfl rfl ?_
  refine qx_get C d_L_termAt_2 fl_L_17 (ch_L J hs) rfl ?_
  refine qx_get C d_L_termAt_5 fl_L_21 hsn rfl ?_
  refine nx_icmp_ne C 19 d_L_termAt_8 (by decide) (by omega) (by omega) (fun z1 => ?_) (fun z1 => ?_)
  · refine qx_aload_n C d_L_termAt_19 rfl rfl ?_
    refine qx_iload_n C d_L_termAt_20 rfl rfl ?_
    refine nx_callq C (s_L_termAt_21 (ch_L J hs)) (c_find l G b J hs hL2 hB hi rfl d) w_L_find rfl rfl (Nat.le_of_ble_eq_true rfl) (by omega) (by decide) ?_
    by_cases h1 : A 4 s < i ∧ i ≤ md_last A s
    · rw [if_pos h1]
      obtain ⟨a, ha, hae⟩ := cr_he (G := G) (I := I) (m := m) (E := E) (N := N) J (hE (i - A 4 s - 1).toNat (by omega))
      rw [ha]
      show X _ _ (.ref a :: []) _ _ _
      refine nx_astore_n C d_L_termAt_24 rfl (Nat.le_of_ble_eq_true rfl) (lo' := [_, _, some (.ref _)]) rfl ?_
      refine qx_aload_n C d_L_termAt_25 rfl rfl ?_
      refine qx_ifnonnull C d_L_termAt_26 (tgt := 33) (by decide) ?_
      refine qx_aload_n C d_L_termAt_33 rfl rfl ?_
      refine qx_get C d_L_termAt_34 fl_L_45 hae rfl ?_
      refine qx_iret C d_L_termAt_37 (Nat.zero_le _) (Nat.zero_le _) ⟨_, rfl, ?_, rfl⟩
      have hcl : md_cell A s i = 48 * s + (i - A 4 s - 1).toNat := by unfold md_cell; rw [if_pos h1]; omega
      unfold md_termAt
      rw [if_neg z1, hcl, if_neg (by omega)]
    · rw [if_neg h1]
      show X _ _ (.null :: []) _ _ _
      refine nx_astore_nN C d_L_termAt_24 rfl (Nat.le_of_ble_eq_true rfl) (lo' := [_, _, some (.null)]) rfl ?_
      refine qx_aload_nN C d_L_termAt_25 rfl rfl ?_
      refine qx_ifnonnullN C d_L_termAt_26 ?_
      refine qx_iconst C d_L_termAt_29 (v := iI (-1)) rfl ?_
      refine qx_goto C d_L_termAt_30 (tgt := 37) (by decide) ?_
      refine qx_iret C d_L_termAt_37 (Nat.zero_le _) (Nat.zero_le _) ⟨_, rfl, ?_, rfl⟩
      have hcl : md_cell A s i = -1 := by unfold md_cell; rw [if_neg h1]
      unfold md_termAt
      rw [if_neg z1, hcl, if_pos (by decide)]
  · refine qx_aload_n C d_L_termAt_11 rfl rfl ?_
    refine qx_get C d_L_termAt_12 fl_L_17 (ch_L J hs) rfl ?_
    refine qx_get C d_L_termAt_15 fl_L_38 hsn rfl ?_
    refine qx_iret C d_L_termAt_18 (Nat.zero_le _) (Nat.zero_le _) ⟨_, rfl, ?_, rfl⟩
    unfold md_termAt
    rw [if_pos z1]
set_option maxRecDepth 100000 in
theorem c_lastTerm (l : Launch) (G : qh_G) (b : Nat) {ad : Nat → Nat} {iv : Nat → Option Nat} (J : cl_I ad iv) {g : qh_H} {I : md_A} {m : Nat → Nat} {E : cl_E} {N : Nat → Nat} {A : md_A} {s : Nat} (hs : s < 5) (hL : cr_L G iv g I E N A s) (hB : md_B A s) (d : Nat) : qj l y_L_lastTerm c_L_lastTerm 1 (some .int) (d + 2) 0 0 G b [.ref (ad (20 + s))] (ch G ad iv g I m E N) (md_termAt A s (md_last A s)) (ch G ad iv g I m E N) := by
  have hl : md_last A s = A 4 s + A 8 s := rfl
  refine qx_of (lo := [some (.ref (ad (20 + s)))]) (by decide) (fun w hw => List.mem_cons_of_mem _ hw) rfl (Nat.le_of_ble_eq_true rfl) rfl ?_
  intro X C
  refine qx_aload_n C d_L_lastTerm_0 rfl rfl ?_
  refine qx_aload_n C d_L_lastTerm_1 rfl rfl ?_
  refine nx_call0 C (s_L_lastTerm_2 (ch_L J hs)) (c_last l G b J hs hL hB d) w_L_last rfl rfl (Nat.le_of_ble_eq_true rfl) (by omega) (by decide) ?_
  refine nx_call0 C (s_L_lastTerm_5 (ch_L J hs)) (c_termAt l G b J hs hL hB (by omega) d) w_L_termAt rfl rfl (Nat.le_of_ble_eq_true rfl) (by omega) (by decide) ?_
  refine qx_iret C d_L_lastTerm_8 (Nat.zero_le _) (Nat.zero_le _) ⟨_, rfl, ?_, rfl⟩
  rfl
theorem cx_iv {l : Launch} {G : qh_G} {b : Nat} {own nm : String} {cc : ByteArray} {nL : Nat} {ret : Option FieldType} {tb : List (Nat × Nat × Nat × Nat)} {R : Room} {post : Outcome → qh_H → Prop} {X : qw_T} {pc : Nat} {lo : List (Option Value)} {st : List Value} {h : qh_H} {k n a : Nat} {V : Int → Int} (C : qw_C l G b own nm cc nL ret tb R post X) {e : Int} (hd : decode cc pc = .ok (.iaload, 1)) (ha : cr_V G h a V) (h0 : 0 ≤ e) (h1 : e < 4) (kk : X (pc + 1) lo (.int (iI (V e)) :: st) h k n) : X pc lo (.int (iI e) :: .ref a :: st) h k n := by
  obtain ⟨f, hf, hv⟩ := ha
  refine qx_iald C hd hf (iI_in h0 (by omega) (by decide)) ?_
  rw [iI_clamp h0 (by omega), hv _ (by omega), Int.toNat_of_nonneg h0]
  exact kk
/-- the latest MEMBERS as the class tells it -/
def md_lmX (A : md_A) (s : Int) (n : Nat) : Int := if md_lm A s n = 0 then -1 else md_lm A s n
theorem md_lm_p {A : md_A} {s : Int} (h : 0 ≤ A 4 s) (n : Nat) : 0 ≤ md_lm A s n ∧ md_lm A s n ≤ A 4 s + n := by
  rcases md_lm_in A s n with h1 | ⟨j, h1, h2⟩ <;> omega
set_option maxRecDepth 100000 in
theorem c_latest (l : Launch) (G : qh_G) (b : Nat) {ad : Nat → Nat} {iv : Nat → Option Nat} (J : cl_I ad iv) {g : qh_H} {I : md_A} {m : Nat → Nat} {E : cl_E} {N : Nat → Nat} {A : md_A} (hA : md_r A) {s : Nat} (hs : s < 5) (hL : cr_L G iv g I E N A s) (hB : md_B A s) {t : Nat} (ht : (t : Int) ≤ A 8 s) {to : Int} (hto : to = A 4 s + t) (d : Nat) : qj l y_L_latestMembersUpTo c_L_latestMembersUpTo 4 (some .int) (d + 1) 0 0 G b [.ref (ad (20 + s)), .int (iI to)] (ch G ad iv g I m E N) (md_lmX A s t) (ch G ad iv g I m E N) := by
  have hl : md_last A s = A 4 s + A 8 s := rfl
  have hL2 := hL
  obtain ⟨hct, hN, hE⟩ := hL
  obtain ⟨va, -, hsn, hva⟩ := cr_hsn (I := I) (m := m) (E := E) (N := N) J hN
  refine qx_of (lo := [some (.ref (ad (20 + s))), some (.int (iI to)), none, none]) (by decide) (fun w hw => List.mem_cons_of_mem _ hw) rfl (Nat.le_of_ble_eq_true rfl) rfl ?_
  intro X C
  have Lp : ∀ (j : Nat) (q : Int) (l3 : Option Value), j ≤ t → q = A 4 s + j → md_lm A s t = md_lm A s j → X 2 [some (.ref (ad (20 + s))), some (.int (iI to)), some (.int (iI q)), l3] [] (ch G ad iv g I m E N) 0 0 := by
    intro j
    induction j with
    | zero =>
      intro q l3 hj hq he
      refine qx_iload_n C d_L_latestMembersUpTo_2 rfl rfl ?_
      refine qx_aload_n C d_L_latestMembersUpTo_3 rfl rfl ?_
      refine qx_get C d_L_latestMembersUpTo_4 fl_L_17 (ch_L J hs) rfl ?_
      refine qx_get C d_L_latestMembersUpTo_7 fl_L_21 hsn rfl ?_
      refine nx_icmp_le C 39 d_L_latestMembersUpTo_10 (by decide) (by omega) (by omega) (fun z1 => ?_) (fun z1 => ?_)
      · refine qx_iconst C d_L_latestMembersUpTo_39 (v := iI (-1)) rfl ?_
        refine qx_iret C d_L_latestMembersUpTo_40 (Nat.zero_le _) (Nat.zero_le _) ⟨_, rfl, ?_, rfl⟩
        unfold md_lmX
        rw [he, if_pos (show md_lm A s 0 = 0 from rfl)]
      · exact absurd z1 (by omega)
    | succ j ih =>
      intro q l3 hj hq he
      obtain ⟨a, ha, hae⟩ := cr_he (G := G) (I := I) (m := m) (E := E) (N := N) J (hE j (by omega))
      have h10 := hA 10 (48 * s + j)
      refine qx_iload_n C d_L_latestMembersUpTo_2 rfl rfl ?_
      refine qx_aload_n C d_L_latestMembersUpTo_3 rfl rfl ?_
      refine qx_get C d_L_latestMembersUpTo_4 fl_L_17 (ch_L J hs) rfl ?_
      refine qx_get C d_L_latestMembersUpTo_7 fl_L_21 hsn rfl ?_
      refine nx_icmp_le C 39 d_L_latestMembersUpTo_10 (by decide) (by omega) (by omega) (fun z1 => ?_) (fun z1 => ?_)
      · exact absurd z1 (by omega)
      · refine qx_aload_n C d_L_latestMembersUpTo_13 rfl rfl ?_
        refine qx_iload_n C d_L_latestMembersUpTo_14 rfl rfl ?_
        refine nx_callq C (s_L_latestMembersUpTo_15 (ch_L J hs)) (c_find l G b J hs hL2 hB (by omega) (r := some a) (by rw [if_pos (by omega), ← ha]; congr 1; omega) d) w_L_find rfl rfl (Nat.le_of_ble_eq_true rfl) (by omega) (by decide) ?_
        show X _ _ (.ref a :: []) _ _ _
        refine nx_astore_n C d_L_latestMembersUpTo_18 rfl (Nat.le_of_ble_eq_true rfl) (lo' := [_, _, _, some (.ref _)]) rfl ?_
        refine qx_aload_n C d_L_latestMembersUpTo_19 rfl rfl ?_
        refine qx_ifnull C d_L_latestMembersUpTo_20 ?_
        refine qx_aload_n C d_L_latestMembersUpTo_23 rfl rfl ?_
        refine qx_get C d_L_latestMembersUpTo_24 fl_L_46 hae rfl ?_
        refine qx_iconst C d_L_latestMembersUpTo_27 (v := iI (2)) rfl ?_
        refine nx_icmp_ne C 33 d_L_latestMembersUpTo_28 (by decide) (by omega) (by omega) (fun z2 => ?_) (fun z2 => ?_)
        · refine nx_iinc C d_L_latestMembersUpTo_33 rfl (lo' := [_, _, some (.int _), _]) rfl ?_
          refine qx_goto C d_L_latestMembersUpTo_36 (tgt := 2) (by decide) ?_
          exact ih _ _ (by omega) (by omega) (by rw [he, md_lm_s, if_neg z2])
        · refine qx_iload_n C d_L_latestMembersUpTo_31 rfl rfl ?_
          refine qx_iret C d_L_latestMembersUpTo_32 (Nat.zero_le _) (Nat.zero_le _) ⟨_, rfl, ?_, rfl⟩
          unfold md_lmX
          rw [he, md_lm_s, if_pos z2, if_neg (by omega)]
          congr 1
          omega
  refine qx_iload_n C d_L_latestMembersUpTo_0 rfl rfl ?_
  refine nx_istore_n C d_L_latestMembersUpTo_1 rfl (Nat.le_of_ble_eq_true rfl) (lo' := [_, _, some (.int _), _]) rfl ?_
  exact Lp t _ _ (Nat.le_refl _) hto rfl
set_option maxRecDepth 100000 in
theorem c_membersAt (l : Launch) (G : qh_G) (b : Nat) {ad : Nat → Nat} {iv : Nat → Option Nat} (J : cl_I ad iv) {g : qh_H} {I : md_A} {m : Nat → Nat} {E : cl_E} {N : Nat → Nat} {A : md_A} {s : Nat} (hs : s < 5) (hL : cr_L G iv g I E N A s) (hB : md_B A s) {i : Int} (hi : -1000000 ≤ i ∧ i ≤ 4000000) (d : Nat) : qj l y_L_membersAt c_L_membersAt 3 (some .int) (d + 1) 0 0 G b [.ref (ad (20 + s)), .int (iI i)] (ch G ad iv g I m E N) (if A 4 s < i ∧ i ≤ md_last A s then A 11 (md_cell A s i) else A 6 s) (ch G ad iv g I m E N) := by
  have hl : md_last A s = A 4 s + A 8 s := rfl
  have hL2 := hL
  obtain ⟨hct, hN, hE⟩ := hL
  obtain ⟨va, -, hsn, hva⟩ := cr_hsn (I := I) (m := m) (E := E) (N := N) J hN
  refine qx_of (lo := [some (.ref (ad (20 + s))), some (.int (iI i)), none]) (by decide) (fun w hw => List.mem_cons_of_mem _ hw) rfl (Nat.le_of_ble_eq_true rfl) rfl ?_
  intro X C
  refine qx_aload_n C d_L_membersAt_0 rfl rfl ?_
  refine qx_iload_n C d_L_membersAt_1 rfl rfl ?_
  refine nx_callq C (s_L_membersAt_2 (ch_L J hs)) (c_find l G b J hs hL2 hB hi rfl d) w_L_find rfl rfl (Nat.le_of_ble_eq_true rfl) (by omega) (by decide) ?_
  by_cases h1 : A 4 s < i ∧ i ≤ md_last A s
  · rw [if_pos h1]
    obtain ⟨a, ha, hae⟩ := cr_he (G := G) (I := I) (m := m) (E := E) (N := N) J (hE (i - A 4 s - 1).toNat (by omega))
    rw [ha]
    show X _ _ (.ref a :: []) _ _ _
    refine nx_astore_n C d_L_membersAt_5 rfl (Nat.le_of_ble_eq_true rfl) (lo' := [_, _, some (.ref _)]) rfl ?_
    refine qx_aload_n C d_L_membersAt_6 rfl rfl ?_
    refine qx_ifnonnull C d_L_membersAt_7 (tgt := 20) (by decide) ?_
    refine qx_aload_n C d_L_membersAt_20 rfl rfl ?_
    refine qx_get C d_L_membersAt_21 fl_L_58 hae rfl ?_
    refine qx_iret C d_L_membersAt_24 (Nat.zero_le _) (Nat.zero_le _) ⟨_, rfl, ?_, rfl⟩
    have hcl : md_cell A s i = 48 * s + (i - A 4 s - 1).toNat := by unfold md_cell; rw [if_pos h1]; omega
    rw [if_pos h1, hcl]
  · rw [if_neg h1]
    show X _ _ (.null :: []) _ _ _
    refine nx_astore_nN C d_L_membersAt_5 rfl (Nat.le_of_ble_eq_true rfl) (lo' := [_, _, some (.null)]) rfl ?_
    refine qx_aload_nN C d_L_membersAt_6 rfl rfl ?_
    refine qx_ifnonnullN C d_L_membersAt_7 ?_
    refine qx_aload_n C d_L_membersAt_10 rfl rfl ?_
    refine qx_get C d_L_membersAt_11 fl_L_17 (ch_L J hs) rfl ?_
    refine qx_get C d_L_membersAt_14 fl_L_55 hsn rfl ?_
    refine qx_goto C d_L_membersAt_17 (tgt := 24) (by decide) ?_
    refine qx_iret C d_L_membersAt_24 (Nat.zero_le _) (Nat.zero_le _) ⟨_, rfl, ?_, rfl⟩
    rw [if_neg h1]
theorem md_mem_X {A : md_A} {s : Int} (hB : md_B A s) {t : Nat} (ht : (t : Int) ≤ A 8 s) : (if A 4 s < md_lmX A s t ∧ md_lmX A s t ≤ md_last A s then A 11 (md_cell A s (md_lmX A s t)) else A 6 s) = md_mem A s t := by
  have hl : md_last A s = A 4 s + A 8 s := rfl
  unfold md_mem md_lmX
  by_cases h0 : md_lm A s t = 0
  · rw [if_pos h0, if_pos h0, if_neg (by omega)]
  · rw [if_neg h0, if_neg h0]
    rcases md_lm_in A s t with h1 | ⟨j, h1, h2⟩
    · exact absurd h1 h0
    · rw [if_pos (by omega)]
theorem md_lmX_r {A : md_A} {s : Int} (hB : md_B A s) {t : Nat} (ht : (t : Int) ≤ A 8 s) : -1 ≤ md_lmX A s t ∧ md_lmX A s t ≤ 1000100 := by
  have := md_lm_p (A := A) (s := s) (by omega) t
  unfold md_lmX
  split <;> omega
set_option maxRecDepth 100000 in
theorem c_config (l : Launch) (G : qh_G) (b : Nat) {ad : Nat → Nat} {iv : Nat → Option Nat} (J : cl_I ad iv) {g : qh_H} {I : md_A} {m : Nat → Nat} {E : cl_E} {N : Nat → Nat} {A : md_A} (hA : md_r A) {s : Nat} (hs : s < 5) (hL : cr_L G iv g I E N A s) (hB : md_B A s) (d : Nat) : qj l y_L_configuration c_L_configuration 1 (some .int) (d + 2) 0 0 G b [.ref (ad (20 + s))] (ch G ad iv g I m E N) (md_config A s) (ch G ad iv g I m E N) := by
  have hl : md_last A s = A 4 s + A 8 s := rfl
  have hz := md_sz hB
  have hr := md_lmX_r hB (t := (A 8 s).toNat) (by omega)
  refine qx_of (lo := [some (.ref (ad (20 + s)))]) (by decide) (fun w hw => List.mem_cons_of_mem _ hw) rfl (Nat.le_of_ble_eq_true rfl) rfl ?_
  intro X C
  refine qx_aload_n C d_L_configuration_0 rfl rfl ?_
  refine qx_aload_n C d_L_configuration_1 rfl rfl ?_
  refine qx_aload_n C d_L_configuration_2 rfl rfl ?_
  refine nx_call0 C (s_L_configuration_3 (ch_L J hs)) (c_last l G b J hs hL hB d) w_L_last rfl rfl (Nat.le_of_ble_eq_true rfl) (by omega) (by decide) ?_
  refine nx_call0 C (s_L_configuration_6 (ch_L J hs)) (c_latest l G b J hA hs hL hB (t := (A 8 s).toNat) (by omega) (by omega) d) w_L_latestMembersUpTo rfl rfl (Nat.le_of_ble_eq_true rfl) (by omega) (by decide) ?_
  refine nx_call0 C (s_L_configuration_9 (ch_L J hs)) (c_membersAt l G b J hs hL hB (by omega) d) w_L_membersAt rfl rfl (Nat.le_of_ble_eq_true rfl) (by omega) (by decide) ?_
  refine qx_iret C d_L_configuration_12 (Nat.zero_le _) (Nat.zero_le _) ⟨_, rfl, ?_, rfl⟩
  rw [md_mem_X hB (by omega)]
  rfl
set_option maxRecDepth 100000 in
theorem c_stored (l : Launch) (G : qh_G) (b : Nat) {ad : Nat → Nat} {iv : Nat → Option Nat} (J : cl_I ad iv) {g : qh_H} {I : md_A} {m : Nat → Nat} {E : cl_E} {N : Nat → Nat} {A : md_A} (hA : md_r A) {s : Nat} (hs : s < 5) (hL : cr_L G iv g I E N A s) (hB : md_B A s) {key : Int} (hk : 0 ≤ key ∧ key < 4) {t : Nat} (ht : (t : Int) ≤ A 8 s) {to : Int} (hto : to = A 4 s + t) (d : Nat) : qj l y_L_storedUpTo c_L_storedUpTo 5 (some .int) (d + 1) 0 0 G b [.ref (ad (20 + s)), .int (iI to), .int (iI key)] (ch G ad iv g I m E N) (md_val A s key t) (ch G ad iv g I m E N) := by
  have hl : md_last A s = A 4 s + A 8 s := rfl
  have hL2 := hL
  obtain ⟨hct, hN, hE⟩ := hL
  obtain ⟨va, -, hsn, hva⟩ := cr_hsn (I := I) (m := m) (E := E) (N := N) J hN
  refine qx_of (lo := [some (.ref (ad (20 + s))), some (.int (iI to)), some (.int (iI key)), none, none]) (by decide) (fun w hw => List.mem_cons_of_mem _ hw) rfl (Nat.le_of_ble_eq_true rfl) rfl ?_
  intro X C
  have Lp : ∀ (j : Nat) (q : Int) (l4 : Option Value), j ≤ t → q = A 4 s + j → md_val A s key t = md_val A s key j → X 2 [some (.ref (ad (20 + s))), some (.int (iI to)), some (.int (iI key)), some (.int (iI q)), l4] [] (ch G ad iv g I m E N) 0 0 := by
    intro j
    induction j with
    | zero =>
      intro q l4 hj hq he
      refine qx_iload_n C d_L_storedUpTo_2 rfl rfl ?_
      refine qx_aload_n C d_L_storedUpTo_3 rfl rfl ?_
      refine qx_get C d_L_storedUpTo_4 fl_L_17 (ch_L J hs) rfl ?_
      refine qx_get C d_L_storedUpTo_7 fl_L_21 hsn rfl ?_
      refine nx_icmp_le C 55 d_L_storedUpTo_10 (by decide) (by omega) (by omega) (fun z1 => ?_) (fun z1 => ?_)
      · refine qx_aload_n C d_L_storedUpTo_55 rfl rfl ?_
        refine qx_get C d_L_storedUpTo_56 fl_L_17 (ch_L J hs) rfl ?_
        refine qx_get C d_L_storedUpTo_59 fl_L_64 hsn rfl ?_
        refine qx_iload_n C d_L_storedUpTo_62 rfl rfl ?_
        refine cx_iv (V := fun k => A 7 (4 * s + k)) C d_L_storedUpTo_63 hva (by omega) (by omega) ?_
        refine qx_iret C d_L_storedUpTo_64 (Nat.zero_le _) (Nat.zero_le _) ⟨_, rfl, ?_, rfl⟩
        rw [he]
        rfl
      · exact absurd z1 (by omega)
    | succ j ih =>
      intro q l4 hj hq he
      obtain ⟨a, ha, hae⟩ := cr_he (G := G) (I := I) (m := m) (E := E) (N := N) J (hE j (by omega))
      have h10 := hA 10 (48 * s + j)
      have h11 := hA 11 (48 * s + j)
      refine qx_iload_n C d_L_storedUpTo_2 rfl rfl ?_
      refine qx_aload_n C d_L_storedUpTo_3 rfl rfl ?_
      refine qx_get C d_L_storedUpTo_4 fl_L_17 (ch_L J hs) rfl ?_
      refine qx_get C d_L_storedUpTo_7 fl_L_21 hsn rfl ?_
      refine nx_icmp_le C 55 d_L_storedUpTo_10 (by decide) (by omega) (by omega) (fun z1 => ?_) (fun z1 => ?_)
      · exact absurd z1 (by omega)
      · refine qx_aload_n C d_L_storedUpTo_13 rfl rfl ?_
        refine qx_iload_n C d_L_storedUpTo_14 rfl rfl ?_
        refine nx_callq C (s_L_storedUpTo_15 (ch_L J hs)) (c_find l G b J hs hL2 hB (by omega) (r := some a) (by rw [if_pos (by omega), ← ha]; congr 1; omega) d) w_L_find rfl rfl (Nat.le_of_ble_eq_true rfl) (by omega) (by decide) ?_
        show X _ _ (.ref a :: []) _ _ _
        refine nx_astore C d_L_storedUpTo_18 (Nat.le_of_ble_eq_true rfl) (lo' := [_, _, _, _, some (.ref _)]) rfl ?_
        refine qx_aload C d_L_storedUpTo_20 rfl ?_
        refine qx_ifnull C d_L_storedUpTo_22 ?_
        refine qx_aload C d_L_storedUpTo_25 rfl ?_
        refine qx_get C d_L_storedUpTo_27 fl_L_46 hae rfl ?_
        refine qx_iconst C d_L_storedUpTo_30 (v := iI (1)) rfl ?_
        refine nx_icmp_ne C 49 d_L_storedUpTo_31 (by decide) (by omega) (by omega) (fun z2 => ?_) (fun z2 => ?_)
        · refine nx_iinc C d_L_storedUpTo_49 rfl (lo' := [_, _, _, some (.int _), _]) rfl ?_
          refine qx_goto C d_L_storedUpTo_52 (tgt := 2) (by decide) ?_
          exact ih _ _ (by omega) (by omega) (by rw [he, md_val_s, if_neg (fun z => z2 z.1)])
        · refine qx_aload C d_L_storedUpTo_34 rfl ?_
          refine qx_get C d_L_storedUpTo_36 fl_L_58 hae rfl ?_
          refine qx_iload_n C d_L_storedUpTo_39 rfl rfl ?_
          refine nx_icmp_ne C 49 d_L_storedUpTo_40 (by decide) (by omega) (by omega) (fun z3 => ?_) (fun z3 => ?_)
          · refine nx_iinc C d_L_storedUpTo_49 rfl (lo' := [_, _, _, some (.int _), _]) rfl ?_
            refine qx_goto C d_L_storedUpTo_52 (tgt := 2) (by decide) ?_
            exact ih _ _ (by omega) (by omega) (by rw [he, md_val_s, if_neg (fun z => z3 z.2)])
          · refine qx_aload C d_L_storedUpTo_43 rfl ?_
            refine qx_get C d_L_storedUpTo_45 fl_L_61 hae rfl ?_
            refine qx_iret C d_L_storedUpTo_48 (Nat.zero_le _) (Nat.zero_le _) ⟨_, rfl, ?_, rfl⟩
            rw [he, md_val_s, if_pos ⟨z2, z3⟩]
  refine qx_iload_n C d_L_storedUpTo_0 rfl rfl ?_
  refine nx_istore_n C d_L_storedUpTo_1 rfl (Nat.le_of_ble_eq_true rfl) (lo' := [_, _, _, some (.int _), _]) rfl ?_
  exact Lp t _ _ (Nat.le_refl _) hto rfl
set_option maxRecDepth 100000 in
theorem c_behind (l : Launch) (G : qh_G) (b : Nat) {ad : Nat → Nat} {iv : Nat → Option Nat} (J : cl_I ad iv) {g : qh_H} {I : md_A} {m : Nat → Nat} {E : cl_E} {N : Nat → Nat} {A : md_A} (hA : md_r A) {s : Nat} (hs : s < 5) (hL : cr_L G iv g I E N A s) (hB : md_B A s) {x : Nat} (hx : x < 50) {i t : Int} (hi : rng i) (ht : rng t) (e5 : I (100 + x) 5 = i) (e6 : I (100 + x) 6 = t) (d : Nat) : qj l y_L_isBehindOf c_L_isBehindOf 3 (some .boolean) (d + 3) 0 0 G b [.ref (ad (20 + s)), .ref (ad (100 + x))] (ch G ad iv g I m E N) (md_lies A i t s) (ch G ad iv g I m E N) := by
  have hl : md_last A s = A 4 s + A 8 s := rfl
  have h1 := md_termAt_r hA s (md_last A s)
  refine qx_of (lo := [some (.ref (ad (20 + s))), some (.ref (ad (100 + x))), none]) (by decide) (fun w hw => List.mem_cons_of_mem _ hw) rfl (Nat.le_of_ble_eq_true rfl) rfl ?_
  intro X C
  refine qx_aload_n C d_L_isBehindOf_0 rfl rfl ?_
  refine nx_call0 C (s_L_isBehindOf_1 (ch_L J hs)) (c_lastTerm l G b J hs hL hB d) w_L_lastTerm rfl rfl (Nat.le_of_ble_eq_true rfl) (by omega) (by decide) ?_
  refine nx_istore_n C d_L_isBehindOf_4 rfl (Nat.le_of_ble_eq_true rfl) (lo' := [_, _, some (.int _)]) rfl ?_
  refine qx_aload_n C d_L_isBehindOf_5 rfl rfl ?_
  refine qx_get C d_L_isBehindOf_6 fl_L_71 (ch_M J hx) rfl ?_
  refine qx_iload_n C d_L_isBehindOf_9 rfl rfl ?_
  rw [e6]
  refine nx_icmp_lt C 32 d_L_isBehindOf_10 (by decide) (by omega) (by omega) (fun z1 => ?_) (fun z1 => ?_)
  · refine qx_iconst C d_L_isBehindOf_32 (v := iI (1)) rfl ?_
    refine qx_goto C d_L_isBehindOf_33 (tgt := 37) (by decide) ?_
    refine qx_zret C d_L_isBehindOf_37 (by decide) (Nat.zero_le _) (Nat.zero_le _) ⟨_, rfl, ?_, rfl⟩
    unfold md_lies
    rw [if_pos (by omega)]
  · refine qx_aload_n C d_L_isBehindOf_13 rfl rfl ?_
    refine qx_get C d_L_isBehindOf_14 fl_L_71 (ch_M J hx) rfl ?_
    refine qx_iload_n C d_L_isBehindOf_17 rfl rfl ?_
    rw [e6]
    refine nx_icmp_ne C 36 d_L_isBehindOf_18 (by decide) (by omega) (by omega) (fun z2 => ?_) (fun z2 => ?_)
    · refine qx_iconst C d_L_isBehindOf_36 (v := iI (0)) rfl ?_
      refine qx_zret C d_L_isBehindOf_37 (by decide) (Nat.zero_le _) (Nat.zero_le _) ⟨_, rfl, ?_, rfl⟩
      unfold md_lies
      rw [if_neg (by omega)]
    · refine qx_aload_n C d_L_isBehindOf_21 rfl rfl ?_
      refine qx_get C d_L_isBehindOf_22 fl_L_76 (ch_M J hx) rfl ?_
      refine qx_aload_n C d_L_isBehindOf_25 rfl rfl ?_
      rw [e5]
      refine nx_call0 C (s_L_isBehindOf_26 (ch_L J hs)) (c_last l G b J hs hL hB d) w_L_last rfl rfl (Nat.le_of_ble_eq_true rfl) (by omega) (by decide) ?_
      refine nx_icmp_ge C 36 d_L_isBehindOf_29 (by decide) (by omega) (by omega) (fun z3 => ?_) (fun z3 => ?_)
      · refine qx_iconst C d_L_isBehindOf_36 (v := iI (0)) rfl ?_
        refine qx_zret C d_L_isBehindOf_37 (by decide) (Nat.zero_le _) (Nat.zero_le _) ⟨_, rfl, ?_, rfl⟩
        unfold md_lies
        rw [if_neg (by omega)]
      · refine qx_iconst C d_L_isBehindOf_32 (v := iI (1)) rfl ?_
        refine qx_goto C d_L_isBehindOf_33 (tgt := 37) (by decide) ?_
        refine qx_zret C d_L_isBehindOf_37 (by decide) (Nat.zero_le _) (Nat.zero_le _) ⟨_, rfl, ?_, rfl⟩
        unfold md_lies
        rw [if_pos (by omega)]
set_option maxRecDepth 100000 in
theorem c_fits (l : Launch) (G : qh_G) (b : Nat) {ad : Nat → Nat} {iv : Nat → Option Nat} (J : cl_I ad iv) {g : qh_H} {I : md_A} {m : Nat → Nat} {E : cl_E} {N : Nat → Nat} {A : md_A} (hA : md_r A) {s : Nat} (hs : s < 5) (hL : cr_L G iv g I E N A s) (hB : md_B A s) {i t : Int} (hi : -1000000 ≤ i ∧ i ≤ 2000000) (ht : rng t) (d : Nat) : qj l y_L_fitsBehind c_L_fitsBehind 3 (some .boolean) (d + 2) 0 0 G b [.ref (ad (20 + s)), .int (iI i), .int (iI t)] (ch G ad iv g I m E N) (if md_last A s < i ∨ (A 4 s ≤ i ∧ ¬ md_termAt A s i = t) then 0 else 1) (ch G ad iv g I m E N) := by
  have hl : md_last A s = A 4 s + A 8 s := rfl
  have h1 := md_termAt_r hA s i
  have hL2 := hL
  obtain ⟨hct, hN, hE⟩ := hL
  obtain ⟨va, -, hsn, hva⟩ := cr_hsn (I := I) (m := m) (E := E) (N := N) J hN
  refine qx_of (lo := [some (.ref (ad (20 + s))), some (.int (iI i)), some (.int (iI t))]) (by decide) (fun w hw => List.mem_cons_of_mem _ hw) rfl (Nat.le_of_ble_eq_true rfl) rfl ?_
  intro X C
  refine qx_iload_n C d_L_fitsBehind_0 rfl rfl ?_
  refine qx_aload_n C d_L_fitsBehind_1 rfl rfl ?_
  refine nx_call0 C (s_L_fitsBehind_2 (ch_L J hs)) (c_last l G b J hs hL2 hB d) w_L_last rfl rfl (Nat.le_of_ble_eq_true rfl) (by omega) (by decide) ?_
  refine nx_icmp_gt C 32 d_L_fitsBehind_5 (by decide) (by omega) (by omega) (fun z1 => ?_) (fun z1 => ?_)
  · refine qx_iconst C d_L_fitsBehind_32 (v := iI (0)) rfl ?_
    refine qx_zret C d_L_fitsBehind_33 (by decide) (Nat.zero_le _) (Nat.zero_le _) ⟨_, rfl, ?_, rfl⟩
    rw [if_pos (by omega)]
  · refine qx_iload_n C d_L_fitsBehind_8 rfl rfl ?_
    refine qx_aload_n C d_L_fitsBehind_9 rfl rfl ?_
    refine qx_get C d_L_fitsBehind_10 fl_L_17 (ch_L J hs) rfl ?_
    refine qx_get C d_L_fitsBehind_13 fl_L_21 hsn rfl ?_
    refine nx_icmp_lt C 28 d_L_fitsBehind_16 (by decide) (by omega) (by omega) (fun z2 => ?_) (fun z2 => ?_)
    · refine qx_iconst C d_L_fitsBehind_28 (v := iI (1)) rfl ?_
      refine qx_goto C d_L_fitsBehind_29 (tgt := 33) (by decide) ?_
      refine qx_zret C d_L_fitsBehind_33 (by decide) (Nat.zero_le _) (Nat.zero_le _) ⟨_, rfl, ?_, rfl⟩
      rw [if_neg (by omega)]
    · refine qx_aload_n C d_L_fitsBehind_19 rfl rfl ?_
      refine qx_iload_n C d_L_fitsBehind_20 rfl rfl ?_
      refine nx_call0 C (s_L_fitsBehind_21 (ch_L J hs)) (c_termAt l G b J hs hL2 hB (by omega) d) w_L_termAt rfl rfl (Nat.le_of_ble_eq_true rfl) (by omega) (by decide) ?_
      refine qx_iload_n C d_L_fitsBehind_24 rfl rfl ?_
      refine nx_icmp_ne C 32 d_L_fitsBehind_25 (by decide) (by omega) (by omega) (fun z3 => ?_) (fun z3 => ?_)
      · refine qx_iconst C d_L_fitsBehind_32 (v := iI (0)) rfl ?_
        refine qx_zret C d_L_fitsBehind_33 (by decide) (Nat.zero_le _) (Nat.zero_le _) ⟨_, rfl, ?_, rfl⟩
        rw [if_pos (by omega)]
      · refine qx_iconst C d_L_fitsBehind_28 (v := iI (1)) rfl ?_
        refine qx_goto C d_L_fitsBehind_29 (tgt := 33) (by decide) ?_
        refine qx_zret C d_L_fitsBehind_33 (by decide) (Nat.zero_le _) (Nat.zero_le _) ⟨_, rfl, ?_, rfl⟩
        rw [if_neg (by omega)]
