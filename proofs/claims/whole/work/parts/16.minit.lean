/-! the reference: its constructor -/
/-- the object with the arrays that it has so far: slot and address -/
def md_pf (L : List (Nat × Nat)) (k : Nat) : Value := match L.find? (fun p => p.1 == k) with
  | some p => .ref p.2
  | none => if k = 0 ∨ k = 21 ∨ k = 27 then .int (iI 0) else .null
def md_pl (L : List (Nat × Nat)) : List Value := (List.range 30).map (md_pf L)
def md_p0 : md_A := fun _ _ => 0
def md_pc (G : qh_G) (o : Nat) (L : List (Nat × Nat)) (h : qh_H) : qh_H := fun a => if a = o then some (.inr (8, md_pl L)) else match L.find? (fun p => p.2 == a) with
  | some p => some (md_c G md_p0 p.1)
  | none => h a
/-- slots and addresses are apart, and none is the object's -/
def md_pk (o : Nat) (L : List (Nat × Nat)) : Prop := (∀ p ∈ L, L.find? (fun z => z.2 == p.2) = some p ∧ L.find? (fun z => z.1 == p.1) = some p) ∧ ∀ p ∈ L, p.2 ≠ o
theorem md_pk_n (o : Nat) : md_pk o [] := ⟨fun p h => absurd h List.not_mem_nil, fun p h => absurd h List.not_mem_nil⟩
theorem md_pk_c {o : Nat} {L : List (Nat × Nat)} {k q : Nat} (h : md_pk o L) (hk : k ∉ L.map (·.1)) (hq : q ∉ L.map (·.2)) (ho : q ≠ o) : md_pk o ((k, q) :: L) := by
  refine ⟨fun p hp => ?_, fun p hp => ?_⟩
  · rcases List.mem_cons.mp hp with rfl | hp
    · exact ⟨by simp, by simp⟩
    · have h1 : q ≠ p.2 := fun e => hq (by rw [e]; exact List.mem_map_of_mem hp)
      have h2 : k ≠ p.1 := fun e => hk (by rw [e]; exact List.mem_map_of_mem hp)
      obtain ⟨g1, g2⟩ := h.1 p hp
      exact ⟨by rw [List.find?_cons_of_neg (by simpa using h1)]; exact g1, by rw [List.find?_cons_of_neg (by simpa using h2)]; exact g2⟩
  · rcases List.mem_cons.mp hp with rfl | hp
    · exact ho
    · exact h.2 p hp
theorem md_pc_none {G : qh_G} {o q : Nat} {L : List (Nat × Nat)} {h : qh_H} (hq : md_pc G o L h q = none) : q ≠ o ∧ q ∉ L.map (·.2) ∧ h q = none := by
  unfold md_pc at hq
  by_cases ho : q = o
  · rw [if_pos ho] at hq; cases hq
  · rw [if_neg ho] at hq
    cases hf : L.find? (fun p => p.2 == q) with
    | some p => rw [hf] at hq; cases hq
    | none =>
      rw [hf] at hq
      refine ⟨ho, fun hm => ?_, hq⟩
      obtain ⟨p, hp, e⟩ := List.mem_map.mp hm
      have := List.find?_eq_none.mp hf p hp
      simp [e] at this
theorem md_pl_s {L : List (Nat × Nat)} {k q : Nat} (hk : k < 30) : (md_pl L).set k (.ref q) = md_pl ((k, q) :: L) := by
  apply List.ext_getElem?
  intro i
  unfold md_pl
  by_cases hi : i < 30
  · by_cases he : k = i
    · subst he
      rw [List.getElem?_set_self (by simpa using hk)]
      simp [hk, md_pf]
    · rw [List.getElem?_set_ne he]
      simp only [List.getElem?_map, List.getElem?_range hi, Option.map_some]
      unfold md_pf
      rw [List.find?_cons_of_neg (by simpa using he)]
  · rw [List.getElem?_eq_none (by simpa using hi), List.getElem?_eq_none (by simpa using hi)]
theorem md_pc_s {G : qh_G} {o k q : Nat} {L : List (Nat × Nat)} {h : qh_H} (hk : k < 30) (hq : md_pc G o L h q = none) : va_up (va_up (md_pc G o L h) q (some (md_c G md_p0 k))) o (some (.inr (8, (md_pl L).set k (.ref q)))) = md_pc G o ((k, q) :: L) h := by
  obtain ⟨h1, h2, h3⟩ := md_pc_none hq
  rw [md_pl_s hk]
  funext a
  unfold va_up
  by_cases ha : a = o
  · rw [if_pos ha]
    unfold md_pc
    rw [if_pos ha]
  · rw [if_neg ha]
    unfold md_pc
    by_cases hb : a = q
    · subst hb
      rw [if_pos rfl, if_neg ha]
      simp
    · rw [if_neg hb, if_neg ha, if_neg ha, List.find?_cons_of_neg (by simpa using fun e : q = a => hb e.symm)]
section MI
variable {l : Launch} {G : qh_G} {b : Nat} {cc : ByteArray} {nL : Nat} {ret : Option FieldType} {tb : List (Nat × Nat × Nat × Nat)} {R : Room} {post : Outcome → qh_H → Prop} {X : qw_T} {pc : Nat} {lo : List (Option Value)} {n1 n2 : Nat} {o : Nat} {L : List (Nat × Nat)} {h : qh_H}
theorem md_po : md_pc G o L h o = some (.inr (8, md_pl L)) := if_pos rfl
theorem mx_mki (C : qw_C l G b "QuorumLogModel" "<init>" cc nL ret tb R post X) (hL : md_pk o L) (k N : Nat) {index : Nat} {i : Int32} (hd1 : decode cc pc = .ok (.newarray .int, 2)) (hd2 : decode cc (pc + 2) = .ok (.putfield index, 3)) (hf : qx_FP "QuorumLogModel" index 8 k (.array .int) true) (hk : k < 30) (hks : k ∉ L.map (·.1)) (ht : md_t k = 0) (hn : md_n k = N) (hi : ¬ i < 0) (hN : i.toNatClampNeg = N) (hb : N ≤ 1000) (h1 : n1 + 1 ≤ R.cells) (h2 : n2 + N ≤ R.slots)
    (kk : ∀ q : Nat, h q = none → md_pk o ((k, q) :: L) → X (pc + 5) lo [] (md_pc G o ((k, q) :: L) h) (n1 + 1) (n2 + N)) : X pc lo [.int i, .ref o] (md_pc G o L h) n1 n2 := by
  refine qx_newa C hd1 rfl (t := 0) rfl ac_int (a0 := (N, .inl (fun _ => iI 0))) (fun _ => rfl) hi hN (by show N * 4 ≤ _; omega) h1 h2 (fun q hq => ?_)
  obtain ⟨g1, g2, g3⟩ := md_pc_none hq
  refine qx_putF C hd2 rfl hf (a := o) (fs := md_pl L) (by unfold va_up; rw [if_neg (Ne.symm g1)]; exact md_po) (by unfold md_pl; simpa using hk) rfl rfl ?_
  have e : (some (.inl (G.2 0, N, .inl (fun _ => iI 0))) : Option va_E) = some (md_c G md_p0 k) := by unfold md_c; rw [ht, hn]; rfl
  rw [e, md_pc_s hk hq]
  exact kk q g3 (md_pk_c hL hks g2 g1)
theorem mx_mkz (C : qw_C l G b "QuorumLogModel" "<init>" cc nL ret tb R post X) (hL : md_pk o L) (k N : Nat) {index : Nat} {i : Int32} (hd1 : decode cc pc = .ok (.newarray .boolean, 2)) (hd2 : decode cc (pc + 2) = .ok (.putfield index, 3)) (hf : qx_FP "QuorumLogModel" index 8 k (.array .boolean) true) (hk : k < 30) (hks : k ∉ L.map (·.1)) (ht : md_t k = 1) (hn : md_n k = N) (hi : ¬ i < 0) (hN : i.toNatClampNeg = N) (hb : N ≤ 1000) (h1 : n1 + 1 ≤ R.cells) (h2 : n2 + N ≤ R.slots)
    (kk : ∀ q : Nat, h q = none → md_pk o ((k, q) :: L) → X (pc + 5) lo [] (md_pc G o ((k, q) :: L) h) (n1 + 1) (n2 + N)) : X pc lo [.int i, .ref o] (md_pc G o L h) n1 n2 := by
  refine qx_newa C hd1 rfl (t := 1) rfl ac_boolean (a0 := (N, .inl (fun _ => iI 0))) (fun _ => rfl) hi hN (by show N * 1 ≤ _; omega) h1 h2 (fun q hq => ?_)
  obtain ⟨g1, g2, g3⟩ := md_pc_none hq
  refine qx_putF C hd2 rfl hf (a := o) (fs := md_pl L) (by unfold va_up; rw [if_neg (Ne.symm g1)]; exact md_po) (by unfold md_pl; simpa using hk) rfl rfl ?_
  have e : (some (.inl (G.2 1, N, .inl (fun _ => iI 0))) : Option va_E) = some (md_c G md_p0 k) := by unfold md_c; rw [ht, hn]; rfl
  rw [e, md_pc_s hk hq]
  exact kk q g3 (md_pk_c hL hks g2 g1)
end MI
/-- the state at the beginning -/
def md_new (m : Int) : md_A := fun k x => if k = 3 ∧ 0 ≤ x ∧ x < 5 then -1 else if k = 6 ∧ 0 ≤ x ∧ x < 5 then m else 0
def md_ad (L : List (Nat × Nat)) (k : Nat) : Nat := ((L.find? (fun p => p.1 == k)).map (·.2)).getD 0
def md_ivL (L : List (Nat × Nat)) (a : Nat) : Option Nat := (L.find? (fun p => p.2 == a)).map (·.1)
theorem md_pI {o : Nat} {L : List (Nat × Nat)} (hL : md_pk o L) (h1 : ∀ k, md_a k → ∃ q, (k, q) ∈ L) (h2 : ∀ p ∈ L, md_a p.1) : md_I o (md_ad L) (md_ivL L) := by
  refine ⟨fun k hk => ?_, fun a k hk => ?_, ?_⟩
  · obtain ⟨q, hq⟩ := h1 k hk
    obtain ⟨g1, g2⟩ := hL.1 _ hq
    unfold md_ad md_ivL
    rw [g2]
    show (L.find? (fun p => p.2 == q)).map (·.1) = some k
    rw [g1]
    rfl
  · unfold md_ivL at hk
    cases hf : L.find? (fun p => p.2 == a) with
    | none => rw [hf] at hk; cases hk
    | some p =>
      rw [hf] at hk
      cases hk
      have hm := List.mem_of_find?_eq_some hf
      have he : p.2 = a := by simpa using List.find?_some hf
      refine ⟨h2 p hm, ?_⟩
      unfold md_ad
      rw [(hL.1 p hm).2]
      exact he
  · unfold md_ivL
    cases hf : L.find? (fun p => p.2 == o) with
    | none => rfl
    | some p =>
      have hm := List.mem_of_find?_eq_some hf
      have he : p.2 = o := by simpa using List.find?_some hf
      exact absurd he (hL.2 p hm)
theorem md_pE {G : qh_G} {o : Nat} {L : List (Nat × Nat)} {h : qh_H} (hf : md_pl L = md_f (md_ad L) md_p0) : md_pc G o L h = md_h G o (md_ad L) (md_ivL L) h md_p0 := by
  funext a
  unfold md_pc md_h
  by_cases ha : a = o
  · rw [if_pos ha, if_pos ha, hf]
  · rw [if_neg ha, if_neg ha]
    unfold md_ivL
    cases L.find? (fun p => p.2 == a) with
    | none => rfl
    | some p => rfl
set_option maxRecDepth 100000 in
set_option maxHeartbeats 4000000 in
theorem m_init (l : Launch) (G : qh_G) (b : Nat) {o : Nat} {h : qh_H} {m mm : Int} (hm : mm = if ia m 31 = 0 then 1 else ia m 31) (hmr : iI m &&& iI 31 = iI (ia m 31)) (hm5 : set5 (ia m 31)) (ho : h o = some (.inr (8, md_pl []))) (d : Nat) : qx_M l y_D_init (Cond.code y_D_init c_D_init 3 none :: qu_W) (qr (d + 1) 27 2395) G b [.ref o, .int (iI m)] h (fun oc h' => oc = .returned none ∧ ∃ (ad : Nat → Nat) (iv : Nat → Option Nat), md_I o ad iv ∧ (∀ k, md_a k → h (ad k) = none) ∧ h' = md_h G o ad iv h (md_new mm)) := by
  have e0 : h = md_pc G o [] h := by
    funext a
    unfold md_pc
    by_cases ha : a = o
    · rw [if_pos ha, ha, ho]
    · rw [if_neg ha]; rfl
  refine qx_of (lo := [some (.ref o), some (.int (iI m)), none]) (by decide) (fun w hw => List.mem_cons_of_mem _ hw) rfl (Nat.le_of_ble_eq_true rfl) rfl ?_
  intro X C
  refine qx_aload_n C d_D_init_0 rfl rfl ?_
  refine qx_objI C d_D_init_1 oi_D_1 oi_1 oi_2 rfl (Nat.le_add_left 1 d) (by show 0 + 12 ≤ 32 * (d + 1); omega) ?_
  rw [e0]
  refine qx_aload_n C d_D_init_4 rfl rfl ?_
  refine qx_iconst C d_D_init_5 (v := iI (5)) rfl ?_
  refine mx_mkz C (md_pk_n o) 1 5 d_D_init_6 d_D_init_8 fp_D_7 (by decide) (show 1 ∉ ([] : List Nat) by decide) rfl rfl (by decide) (by decide) (by decide) (by show 0 + 1 ≤ 27; omega) (by show 0 + 5 ≤ 2395; omega) (fun q1 f1 p1 => ?_)
  refine qx_aload_n C d_D_init_11 rfl rfl ?_
  refine qx_iconst C d_D_init_12 (v := iI (5)) rfl ?_
  refine mx_mki C p1 2 5 d_D_init_13 d_D_init_15 fp_D_13 (by decide) (show 2 ∉ ([1] : List Nat) by decide) rfl rfl (by decide) (by decide) (by decide) (by show 1 + 1 ≤ 27; omega) (by show 5 + 5 ≤ 2395; omega) (fun q2 f2 p2 => ?_)
  refine qx_aload_n C d_D_init_18 rfl rfl ?_
  refine qx_iconst C d_D_init_19 (v := iI (5)) rfl ?_
  refine mx_mki C p2 3 5 d_D_init_20 d_D_init_22 fp_D_17 (by decide) (show 3 ∉ ([2, 1] : List Nat) by decide) rfl rfl (by decide) (by decide) (by decide) (by show 2 + 1 ≤ 27; omega) (by show 10 + 5 ≤ 2395; omega) (fun q3 f3 p3 => ?_)
  refine qx_aload_n C d_D_init_25 rfl rfl ?_
  refine qx_iconst C d_D_init_26 (v := iI (5)) rfl ?_
  refine mx_mki C p3 4 5 d_D_init_27 d_D_init_29 fp_D_20 (by decide) (show 4 ∉ ([3, 2, 1] : List Nat) by decide) rfl rfl (by decide) (by decide) (by decide) (by show 3 + 1 ≤ 27; omega) (by show 15 + 5 ≤ 2395; omega) (fun q4 f4 p4 => ?_)
  refine qx_aload_n C d_D_init_32 rfl rfl ?_
  refine qx_iconst C d_D_init_33 (v := iI (5)) rfl ?_
  refine mx_mki C p4 5 5 d_D_init_34 d_D_init_36 fp_D_23 (by decide) (show 5 ∉ ([4, 3, 2, 1] : List Nat) by decide) rfl rfl (by decide) (by decide) (by decide) (by show 4 + 1 ≤ 27; omega) (by show 20 + 5 ≤ 2395; omega) (fun q5 f5 p5 => ?_)
  refine qx_aload_n C d_D_init_39 rfl rfl ?_
  refine qx_iconst C d_D_init_40 (v := iI (5)) rfl ?_
  refine mx_mki C p5 6 5 d_D_init_41 d_D_init_43 fp_D_26 (by decide) (show 6 ∉ ([5, 4, 3, 2, 1] : List Nat) by decide) rfl rfl (by decide) (by decide) (by decide) (by show 5 + 1 ≤ 27; omega) (by show 25 + 5 ≤ 2395; omega) (fun q6 f6 p6 => ?_)
  refine qx_aload_n C d_D_init_46 rfl rfl ?_
  refine qx_bipush C d_D_init_47 (v := iI (20)) (by decide) ?_
  refine mx_mki C p6 7 20 d_D_init_49 d_D_init_51 fp_D_29 (by decide) (show 7 ∉ ([6, 5, 4, 3, 2, 1] : List Nat) by decide) rfl rfl (by decide) (by decide) (by decide) (by show 6 + 1 ≤ 27; omega) (by show 30 + 20 ≤ 2395; omega) (fun q7 f7 p7 => ?_)
  refine qx_aload_n C d_D_init_54 rfl rfl ?_
  refine qx_iconst C d_D_init_55 (v := iI (5)) rfl ?_
  refine mx_mki C p7 8 5 d_D_init_56 d_D_init_58 fp_D_32 (by decide) (show 8 ∉ ([7, 6, 5, 4, 3, 2, 1] : List Nat) by decide) rfl rfl (by decide) (by decide) (by decide) (by show 7 + 1 ≤ 27; omega) (by show 50 + 5 ≤ 2395; omega) (fun q8 f8 p8 => ?_)
  refine qx_aload_n C d_D_init_61 rfl rfl ?_
  refine qx_sipush C d_D_init_62 (v := iI (240)) (by decide) ?_
  refine mx_mki C p8 9 240 d_D_init_65 d_D_init_67 fp_D_35 (by decide) (show 9 ∉ ([8, 7, 6, 5, 4, 3, 2, 1] : List Nat) by decide) rfl rfl (by decide) (by decide) (by decide) (by show 8 + 1 ≤ 27; omega) (by show 55 + 240 ≤ 2395; omega) (fun q9 f9 p9 => ?_)
  refine qx_aload_n C d_D_init_70 rfl rfl ?_
  refine qx_sipush C d_D_init_71 (v := iI (240)) (by decide) ?_
  refine mx_mki C p9 10 240 d_D_init_74 d_D_init_76 fp_D_38 (by decide) (show 10 ∉ ([9, 8, 7, 6, 5, 4, 3, 2, 1] : List Nat) by decide) rfl rfl (by decide) (by decide) (by decide) (by show 9 + 1 ≤ 27; omega) (by show 295 + 240 ≤ 2395; omega) (fun q10 f10 p10 => ?_)
  refine qx_aload_n C d_D_init_79 rfl rfl ?_
  refine qx_sipush C d_D_init_80 (v := iI (240)) (by decide) ?_
  refine mx_mki C p10 11 240 d_D_init_83 d_D_init_85 fp_D_41 (by decide) (show 11 ∉ ([10, 9, 8, 7, 6, 5, 4, 3, 2, 1] : List Nat) by decide) rfl rfl (by decide) (by decide) (by decide) (by show 10 + 1 ≤ 27; omega) (by show 535 + 240 ≤ 2395; omega) (fun q11 f11 p11 => ?_)
  refine qx_aload_n C d_D_init_88 rfl rfl ?_
  refine qx_sipush C d_D_init_89 (v := iI (240)) (by decide) ?_
  refine mx_mki C p11 12 240 d_D_init_92 d_D_init_94 fp_D_44 (by decide) (show 12 ∉ ([11, 10, 9, 8, 7, 6, 5, 4, 3, 2, 1] : List Nat) by decide) rfl rfl (by decide) (by decide) (by decide) (by show 11 + 1 ≤ 27; omega) (by show 775 + 240 ≤ 2395; omega) (fun q12 f12 p12 => ?_)
  refine qx_aload_n C d_D_init_97 rfl rfl ?_
  refine qx_iconst C d_D_init_98 (v := iI (5)) rfl ?_
  refine mx_mki C p12 13 5 d_D_init_99 d_D_init_101 fp_D_47 (by decide) (show 13 ∉ ([12, 11, 10, 9, 8, 7, 6, 5, 4, 3, 2, 1] : List Nat) by decide) rfl rfl (by decide) (by decide) (by decide) (by show 12 + 1 ≤ 27; omega) (by show 1015 + 5 ≤ 2395; omega) (fun q13 f13 p13 => ?_)
  refine qx_aload_n C d_D_init_104 rfl rfl ?_
  refine qx_iconst C d_D_init_105 (v := iI (5)) rfl ?_
  refine mx_mki C p13 14 5 d_D_init_106 d_D_init_108 fp_D_50 (by decide) (show 14 ∉ ([13, 12, 11, 10, 9, 8, 7, 6, 5, 4, 3, 2, 1] : List Nat) by decide) rfl rfl (by decide) (by decide) (by decide) (by show 13 + 1 ≤ 27; omega) (by show 1020 + 5 ≤ 2395; omega) (fun q14 f14 p14 => ?_)
  refine qx_aload_n C d_D_init_111 rfl rfl ?_
  refine qx_iconst C d_D_init_112 (v := iI (5)) rfl ?_
  refine mx_mkz C p14 15 5 d_D_init_113 d_D_init_115 fp_D_53 (by decide) (show 15 ∉ ([14, 13, 12, 11, 10, 9, 8, 7, 6, 5, 4, 3, 2, 1] : List Nat) by decide) rfl rfl (by decide) (by decide) (by decide) (by show 14 + 1 ≤ 27; omega) (by show 1025 + 5 ≤ 2395; omega) (fun q15 f15 p15 => ?_)
  refine qx_aload_n C d_D_init_118 rfl rfl ?_
  refine qx_iconst C d_D_init_119 (v := iI (5)) rfl ?_
  refine mx_mki C p15 16 5 d_D_init_120 d_D_init_122 fp_D_56 (by decide) (show 16 ∉ ([15, 14, 13, 12, 11, 10, 9, 8, 7, 6, 5, 4, 3, 2, 1] : List Nat) by decide) rfl rfl (by decide) (by decide) (by decide) (by show 15 + 1 ≤ 27; omega) (by show 1030 + 5 ≤ 2395; omega) (fun q16 f16 p16 => ?_)
  refine qx_aload_n C d_D_init_125 rfl rfl ?_
  refine qx_bipush C d_D_init_126 (v := iI (25)) (by decide) ?_
  refine mx_mki C p16 17 25 d_D_init_128 d_D_init_130 fp_D_59 (by decide) (show 17 ∉ ([16, 15, 14, 13, 12, 11, 10, 9, 8, 7, 6, 5, 4, 3, 2, 1] : List Nat) by decide) rfl rfl (by decide) (by decide) (by decide) (by show 16 + 1 ≤ 27; omega) (by show 1035 + 25 ≤ 2395; omega) (fun q17 f17 p17 => ?_)
  refine qx_aload_n C d_D_init_133 rfl rfl ?_
  refine qx_bipush C d_D_init_134 (v := iI (25)) (by decide) ?_
  refine mx_mki C p17 18 25 d_D_init_136 d_D_init_138 fp_D_62 (by decide) (show 18 ∉ ([17, 16, 15, 14, 13, 12, 11, 10, 9, 8, 7, 6, 5, 4, 3, 2, 1] : List Nat) by decide) rfl rfl (by decide) (by decide) (by decide) (by show 17 + 1 ≤ 27; omega) (by show 1060 + 25 ≤ 2395; omega) (fun q18 f18 p18 => ?_)
  refine qx_aload_n C d_D_init_141 rfl rfl ?_
  refine qx_bipush C d_D_init_142 (v := iI (25)) (by decide) ?_
  refine mx_mki C p18 19 25 d_D_init_144 d_D_init_146 fp_D_65 (by decide) (show 19 ∉ ([18, 17, 16, 15, 14, 13, 12, 11, 10, 9, 8, 7, 6, 5, 4, 3, 2, 1] : List Nat) by decide) rfl rfl (by decide) (by decide) (by decide) (by show 18 + 1 ≤ 27; omega) (by show 1085 + 25 ≤ 2395; omega) (fun q19 f19 p19 => ?_)
  refine qx_aload_n C d_D_init_149 rfl rfl ?_
  refine qx_iconst C d_D_init_150 (v := iI (5)) rfl ?_
  refine mx_mki C p19 20 5 d_D_init_151 d_D_init_153 fp_D_68 (by decide) (show 20 ∉ ([19, 18, 17, 16, 15, 14, 13, 12, 11, 10, 9, 8, 7, 6, 5, 4, 3, 2, 1] : List Nat) by decide) rfl rfl (by decide) (by decide) (by decide) (by show 19 + 1 ≤ 27; omega) (by show 1110 + 5 ≤ 2395; omega) (fun q20 f20 p20 => ?_)
  refine qx_aload_n C d_D_init_156 rfl rfl ?_
  refine qx_bipush C d_D_init_157 (v := iI (60)) (by decide) ?_
  refine mx_mki C p20 22 60 d_D_init_159 d_D_init_161 fp_D_71 (by decide) (show 22 ∉ ([20, 19, 18, 17, 16, 15, 14, 13, 12, 11, 10, 9, 8, 7, 6, 5, 4, 3, 2, 1] : List Nat) by decide) rfl rfl (by decide) (by decide) (by decide) (by show 20 + 1 ≤ 27; omega) (by show 1115 + 60 ≤ 2395; omega) (fun q22 f22 p22 => ?_)
  refine qx_aload_n C d_D_init_164 rfl rfl ?_
  refine qx_bipush C d_D_init_165 (v := iI (60)) (by decide) ?_
  refine mx_mki C p22 23 60 d_D_init_167 d_D_init_169 fp_D_74 (by decide) (show 23 ∉ ([22, 20, 19, 18, 17, 16, 15, 14, 13, 12, 11, 10, 9, 8, 7, 6, 5, 4, 3, 2, 1] : List Nat) by decide) rfl rfl (by decide) (by decide) (by decide) (by show 21 + 1 ≤ 27; omega) (by show 1175 + 60 ≤ 2395; omega) (fun q23 f23 p23 => ?_)
  refine qx_aload_n C d_D_init_172 rfl rfl ?_
  refine qx_bipush C d_D_init_173 (v := iI (60)) (by decide) ?_
  refine mx_mki C p23 24 60 d_D_init_175 d_D_init_177 fp_D_77 (by decide) (show 24 ∉ ([23, 22, 20, 19, 18, 17, 16, 15, 14, 13, 12, 11, 10, 9, 8, 7, 6, 5, 4, 3, 2, 1] : List Nat) by decide) rfl rfl (by decide) (by decide) (by decide) (by show 22 + 1 ≤ 27; omega) (by show 1235 + 60 ≤ 2395; omega) (fun q24 f24 p24 => ?_)
  refine qx_aload_n C d_D_init_180 rfl rfl ?_
  refine qx_bipush C d_D_init_181 (v := iI (60)) (by decide) ?_
  refine mx_mki C p24 25 60 d_D_init_183 d_D_init_185 fp_D_80 (by decide) (show 25 ∉ ([24, 23, 22, 20, 19, 18, 17, 16, 15, 14, 13, 12, 11, 10, 9, 8, 7, 6, 5, 4, 3, 2, 1] : List Nat) by decide) rfl rfl (by decide) (by decide) (by decide) (by show 23 + 1 ≤ 27; omega) (by show 1295 + 60 ≤ 2395; omega) (fun q25 f25 p25 => ?_)
  refine qx_aload_n C d_D_init_188 rfl rfl ?_
  refine qx_bipush C d_D_init_189 (v := iI (60)) (by decide) ?_
  refine mx_mki C p25 26 60 d_D_init_191 d_D_init_193 fp_D_83 (by decide) (show 26 ∉ ([25, 24, 23, 22, 20, 19, 18, 17, 16, 15, 14, 13, 12, 11, 10, 9, 8, 7, 6, 5, 4, 3, 2, 1] : List Nat) by decide) rfl rfl (by decide) (by decide) (by decide) (by show 24 + 1 ≤ 27; omega) (by show 1355 + 60 ≤ 2395; omega) (fun q26 f26 p26 => ?_)
  refine qx_aload_n C d_D_init_196 rfl rfl ?_
  refine qx_sipush C d_D_init_197 (v := iI (960)) (by decide) ?_
  refine mx_mki C p26 28 960 d_D_init_200 d_D_init_202 fp_D_86 (by decide) (show 28 ∉ ([26, 25, 24, 23, 22, 20, 19, 18, 17, 16, 15, 14, 13, 12, 11, 10, 9, 8, 7, 6, 5, 4, 3, 2, 1] : List Nat) by decide) rfl rfl (by decide) (by decide) (by decide) (by show 25 + 1 ≤ 27; omega) (by show 1415 + 960 ≤ 2395; omega) (fun q28 f28 p28 => ?_)
  refine qx_aload_n C d_D_init_205 rfl rfl ?_
  refine qx_bipush C d_D_init_206 (v := iI (20)) (by decide) ?_
  refine mx_mki C p28 29 20 d_D_init_208 d_D_init_210 fp_D_89 (by decide) (show 29 ∉ ([28, 26, 25, 24, 23, 22, 20, 19, 18, 17, 16, 15, 14, 13, 12, 11, 10, 9, 8, 7, 6, 5, 4, 3, 2, 1] : List Nat) by decide) rfl rfl (by decide) (by decide) (by decide) (by show 26 + 1 ≤ 27; omega) (by show 2375 + 20 ≤ 2395; omega) (fun q29 f29 p29 => ?_)
  have hI : md_I o (md_ad [(29, q29), (28, q28), (26, q26), (25, q25), (24, q24), (23, q23), (22, q22), (20, q20), (19, q19), (18, q18), (17, q17), (16, q16), (15, q15), (14, q14), (13, q13), (12, q12), (11, q11), (10, q10), (9, q9), (8, q8), (7, q7), (6, q6), (5, q5), (4, q4), (3, q3), (2, q2), (1, q1)]) (md_ivL [(29, q29), (28, q28), (26, q26), (25, q25), (24, q24), (23, q23), (22, q22), (20, q20), (19, q19), (18, q18), (17, q17), (16, q16), (15, q15), (14, q14), (13, q13), (12, q12), (11, q11), (10, q10), (9, q9), (8, q8), (7, q7), (6, q6), (5, q5), (4, q4), (3, q3), (2, q2), (1, q1)]) := md_pI p29 (fun k hk => by
    obtain ⟨h1, h2, h3, h4⟩ := hk
    have hc : k = 1 ∨ k = 2 ∨ k = 3 ∨ k = 4 ∨ k = 5 ∨ k = 6 ∨ k = 7 ∨ k = 8 ∨ k = 9 ∨ k = 10 ∨ k = 11 ∨ k = 12 ∨ k = 13 ∨ k = 14 ∨ k = 15 ∨ k = 16 ∨ k = 17 ∨ k = 18 ∨ k = 19 ∨ k = 20 ∨ k = 22 ∨ k = 23 ∨ k = 24 ∨ k = 25 ∨ k = 26 ∨ k = 28 ∨ k = 29 := by omega
    rcases hc with rfl | rfl | rfl | rfl | rfl | rfl | rfl | rfl | rfl | rfl | rfl | rfl | rfl | rfl | rfl | rfl | rfl | rfl | rfl | rfl | rfl | rfl | rfl | rfl | rfl | rfl | rfl
    · exact ⟨q1, by simp⟩
    · exact ⟨q2, by simp⟩
    · exact ⟨q3, by simp⟩
    · exact ⟨q4, by simp⟩
    · exact ⟨q5, by simp⟩
    · exact ⟨q6, by simp⟩
    · exact ⟨q7, by simp⟩
    · exact ⟨q8, by simp⟩
    · exact ⟨q9, by simp⟩
    · exact ⟨q10, by simp⟩
    · exact ⟨q11, by simp⟩
    · exact ⟨q12, by simp⟩
    · exact ⟨q13, by simp⟩
    · exact ⟨q14, by simp⟩
    · exact ⟨q15, by simp⟩
    · exact ⟨q16, by simp⟩
    · exact ⟨q17, by simp⟩
    · exact ⟨q18, by simp⟩
    · exact ⟨q19, by simp⟩
    · exact ⟨q20, by simp⟩
    · exact ⟨q22, by simp⟩
    · exact ⟨q23, by simp⟩
    · exact ⟨q24, by simp⟩
    · exact ⟨q25, by simp⟩
    · exact ⟨q26, by simp⟩
    · exact ⟨q28, by simp⟩
    · exact ⟨q29, by simp⟩
    ) (fun p hp => by
    simp only [List.mem_cons, List.not_mem_nil, or_false] at hp
    rcases hp with rfl | rfl | rfl | rfl | rfl | rfl | rfl | rfl | rfl | rfl | rfl | rfl | rfl | rfl | rfl | rfl | rfl | rfl | rfl | rfl | rfl | rfl | rfl | rfl | rfl | rfl | rfl <;> (unfold md_a; dsimp only; omega))
  have hfr : ∀ k, md_a k → h (md_ad [(29, q29), (28, q28), (26, q26), (25, q25), (24, q24), (23, q23), (22, q22), (20, q20), (19, q19), (18, q18), (17, q17), (16, q16), (15, q15), (14, q14), (13, q13), (12, q12), (11, q11), (10, q10), (9, q9), (8, q8), (7, q7), (6, q6), (5, q5), (4, q4), (3, q3), (2, q2), (1, q1)] k) = none := fun k hk => by
    obtain ⟨h1, h2, h3, h4⟩ := hk
    have hc : k = 1 ∨ k = 2 ∨ k = 3 ∨ k = 4 ∨ k = 5 ∨ k = 6 ∨ k = 7 ∨ k = 8 ∨ k = 9 ∨ k = 10 ∨ k = 11 ∨ k = 12 ∨ k = 13 ∨ k = 14 ∨ k = 15 ∨ k = 16 ∨ k = 17 ∨ k = 18 ∨ k = 19 ∨ k = 20 ∨ k = 22 ∨ k = 23 ∨ k = 24 ∨ k = 25 ∨ k = 26 ∨ k = 28 ∨ k = 29 := by omega
    rcases hc with rfl | rfl | rfl | rfl | rfl | rfl | rfl | rfl | rfl | rfl | rfl | rfl | rfl | rfl | rfl | rfl | rfl | rfl | rfl | rfl | rfl | rfl | rfl | rfl | rfl | rfl | rfl
    · exact f1
    · exact f2
    · exact f3
    · exact f4
    · exact f5
    · exact f6
    · exact f7
    · exact f8
    · exact f9
    · exact f10
    · exact f11
    · exact f12
    · exact f13
    · exact f14
    · exact f15
    · exact f16
    · exact f17
    · exact f18
    · exact f19
    · exact f20
    · exact f22
    · exact f23
    · exact f24
    · exact f25
    · exact f26
    · exact f28
    · exact f29
  rw [md_pE (L := [(29, q29), (28, q28), (26, q26), (25, q25), (24, q24), (23, q23), (22, q22), (20, q20), (19, q19), (18, q18), (17, q17), (16, q16), (15, q15), (14, q14), (13, q13), (12, q12), (11, q11), (10, q10), (9, q9), (8, q8), (7, q7), (6, q6), (5, q5), (4, q4), (3, q3), (2, q2), (1, q1)]) rfl]
  generalize md_ad [(29, q29), (28, q28), (26, q26), (25, q25), (24, q24), (23, q23), (22, q22), (20, q20), (19, q19), (18, q18), (17, q17), (16, q16), (15, q15), (14, q14), (13, q13), (12, q12), (11, q11), (10, q10), (9, q9), (8, q8), (7, q7), (6, q6), (5, q5), (4, q4), (3, q3), (2, q2), (1, q1)] = ad at hI hfr ⊢
  generalize md_ivL [(29, q29), (28, q28), (26, q26), (25, q25), (24, q24), (23, q23), (22, q22), (20, q20), (19, q19), (18, q18), (17, q17), (16, q16), (15, q15), (14, q14), (13, q13), (12, q12), (11, q11), (10, q10), (9, q9), (8, q8), (7, q7), (6, q6), (5, q5), (4, q4), (3, q3), (2, q2), (1, q1)] = iv at hI ⊢
  have I := hI
  have Lp : ∀ (r0 : Nat) (q : Int) (D : md_A), q + r0 = 5 → 0 ≤ q → D = md_w (md_w md_p0 3 0 q (fun _ => -1)) 6 0 q (fun _ => mm) → X 215 [some (.ref o), some (.int (iI m)), some (.int (iI q))] [] (md_h G o ad iv h D) 27 2395 := by
    intro r0
    induction r0 with
    | zero =>
      intro q D hq h0 hD
      refine qx_iload_n C d_D_init_215 rfl rfl ?_
      refine qx_iconst C d_D_init_216 (v := iI (5)) rfl ?_
      refine nx_icmp_ge C 254 d_D_init_217 (by decide) (by omega) (by omega) (fun z1 => ?_) (fun z1 => ?_)
      · refine qx_vret C d_D_init_254 (Nat.le_refl _) (Nat.le_refl _) ⟨rfl, ad, iv, hI, hfr, ?_⟩
        have e5 : D = md_new mm := by
          rw [hD, show q = 5 by omega]
          funext k x
          unfold md_w md_new md_p0
          by_cases h6 : k = 6 ∧ 0 ≤ x ∧ x < 5
          · rw [if_pos h6, if_neg (by omega), if_pos h6]
          · rw [if_neg h6, if_neg h6]
        rw [e5]
      · exact absurd z1 (by omega)
    | succ r0 ih =>
      intro q D hq h0 hD
      have St : ∀ v : Int, v = mm → X 247 [some (.ref o), some (.int (iI m)), some (.int (iI q))] [.int (iI v), .int (iI q), .ref (ad 6)] (md_h G o ad iv h (md_u D 3 q (-1))) 27 2395 := by
        intro v hv
        refine mx_is C I 6 5 d_D_init_247 (by unfold md_a; omega) rfl rfl (by omega) (by omega) ?_
        refine nx_iinc C d_D_init_248 rfl (lo' := [_, _, some (.int _)]) rfl ?_
        refine qx_goto C d_D_init_251 (tgt := 215) (by decide) ?_
        refine ih _ _ (by omega) (by omega) ?_
        rw [hD, hv]
        funext k x
        unfold md_u md_w
        by_cases h6 : k = 6
        · subst h6
          by_cases hx : x = q
          · rw [if_pos ⟨rfl, hx⟩, if_pos (by omega)]
          · rw [if_neg (fun z => hx z.2), if_neg (by omega)]
            by_cases h7 : (6 : Nat) = 6 ∧ 0 ≤ x ∧ x < q
            · rw [if_pos h7, if_pos (by omega)]
            · rw [if_neg h7, if_neg (by omega), if_neg (by omega), if_neg (by omega)]
        · rw [if_neg (show ¬ (k = 6 ∧ x = q) from fun z => h6 z.1)]
          by_cases hx : k = 3 ∧ x = q
          · rw [if_pos hx, if_neg (show ¬ (k = 6 ∧ 0 ≤ x ∧ x < q + 1) from fun z => h6 z.1), if_pos (by omega)]
          · rw [if_neg hx, if_neg (show ¬ (k = 6 ∧ 0 ≤ x ∧ x < q) from fun z => h6 z.1), if_neg (show ¬ (k = 6 ∧ 0 ≤ x ∧ x < q + 1) from fun z => h6 z.1)]
            by_cases h7 : k = 3 ∧ 0 ≤ x ∧ x < q
            · rw [if_pos h7, if_pos (by omega)]
            · rw [if_neg h7, if_neg (by omega)]
      refine qx_iload_n C d_D_init_215 rfl rfl ?_
      refine qx_iconst C d_D_init_216 (v := iI (5)) rfl ?_
      refine nx_icmp_ge C 254 d_D_init_217 (by decide) (by omega) (by omega) (fun z1 => ?_) (fun z1 => ?_)
      · exact absurd z1 (by omega)
      · refine qx_aload_n C d_D_init_220 rfl rfl ?_
        refine mx_gi C d_D_init_221 fl_D_17 rfl ?_
        refine qx_iload_n C d_D_init_224 rfl rfl ?_
        refine qx_iconst C d_D_init_225 (v := iI (-1)) rfl ?_
        refine mx_is C I 3 5 d_D_init_226 (by unfold md_a; omega) rfl rfl (by omega) (by omega) ?_
        refine qx_aload_n C d_D_init_227 rfl rfl ?_
        refine mx_gi C d_D_init_228 fl_D_26 rfl ?_
        refine qx_iload_n C d_D_init_231 rfl rfl ?_
        refine qx_iload_n C d_D_init_232 rfl rfl ?_
        refine qx_bipush C d_D_init_233 (v := iI (31)) (by decide) ?_
        refine qx_iand C d_D_init_235 ?_
        rw [hmr]
        refine nx_if_ne C 243 d_D_init_236 (by decide) (by omega) (fun z2 => ?_) (fun z2 => ?_)
        · refine qx_iload_n C d_D_init_243 rfl rfl ?_
          refine qx_bipush C d_D_init_244 (v := iI (31)) (by decide) ?_
          refine qx_iand C d_D_init_246 ?_
          rw [hmr]
          exact St _ (by rw [hm, if_neg z2])
        · refine qx_iconst C d_D_init_239 (v := iI (1)) rfl ?_
          refine qx_goto C d_D_init_240 (tgt := 247) (by decide) ?_
          exact St _ (by rw [hm, if_pos z2])
  refine qx_iconst C d_D_init_213 (v := iI (0)) rfl ?_
  refine nx_istore_n C d_D_init_214 rfl (Nat.le_of_ble_eq_true rfl) (lo' := [_, _, some (.int _)]) rfl ?_
  refine Lp 5 0 _ (by omega) (by omega) ?_
  rw [md_w_0, md_w_0]
