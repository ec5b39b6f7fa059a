/-! the class: RESULT comes -/
theorem md_rd_no {A : md_A} {s : Int} : ∀ n : Nat, (∀ i : Nat, i < n → ¬ (A 22 i = s ∧ A 25 i = 0)) → md_rd A s n = A
  | 0, _ => rfl
  | n + 1, h => by
    rw [md_rd_s, if_neg (fun z => h n (by omega) ⟨z.1, z.2.1⟩)]
    exact md_rd_no n (fun i hi => h i (by omega))
/-- a role lost by the look at the commit leaves no read kept -/
theorem md_look_no {A : md_A} {s : Int} (h3 : A 13 s = 3) (hl : ¬ md_look A s 13 s = 3) : md_reads (md_look A s) s = md_look A s := by
  have e13 : md_fcm A s 13 s = 3 := (md_uk (by decide)).trans h3
  unfold md_look at hl ⊢
  split
  · unfold md_reads
    apply md_rd_no
    intro i hi z
    unfold md_follow at hi z
    rw [if_pos e13] at hi z
    rw [md_wk (by decide), md_uk (by decide)] at hi
    rw [md_wk (by decide), md_uk (by decide), md_wi (by omega)] at z
    rw [if_pos ⟨z.1, by
      by_cases h : md_fcm A s 25 i = 0
      · exact h
      · exfalso
        have := z.2
        rw [if_neg (fun q => h q.2)] at this
        exact h this⟩] at z
    omega
  · rename_i hc
    rw [if_neg hc] at hl
    exact absurd e13 hl
theorem md_max_le {a c k : Int} (h1 : a ≤ k) (h2 : c ≤ k) : md_max a c ≤ k := by unfold md_max; split <;> omega
theorem md_max_ge (a c : Int) : c ≤ md_max a c := by unfold md_max; split <;> omega
set_option maxRecDepth 100000 in
set_option maxHeartbeats 1000000 in
theorem c_resCome (l : Launch) (G : qh_G) (b : Nat) {ad : Nat → Nat} {iv : Nat → Option Nat} (J : cl_I ad iv) {g : qh_H} {I : md_A} {m : Nat → Nat} {E : cl_E} {N : Nat → Nat} {A : md_A} (h : cr G iv g I m E N A) (hv : md_V A) {s : Nat} (hs : s < 5) (hT : md_T A s) (hn : md_nx A s) (hk : md_Hk A) {y : Nat} (hy : m 49 = y) (hM : cr_M G iv g I E N y (A 29)) (h6 : A 29 6 = 0 ∨ A 29 6 = 1) (hf : 0 ≤ A 29 1 ∧ A 29 1 < 5) (hb : 0 ≤ A 29 4 ∧ A 29 4 ≤ 1000000) (h18 : A 18 (5 * s + A 29 1) ≤ 1000000) (d : Nat) : qpv l y_Q_resultComes c_Q_resultComes 5 none (d + 4) 0 0 G b [.ref (ad 0), .ref (ad (10 + s)), .ref (ad (100 + y))] (ch G ad iv g I m E N) (cr_P G ad iv g I m E N (md_res A s (A 29 1))) := by
  have hw := hv.1
  obtain ⟨hB, hcf, hcm, htm, -⟩ := hT
  have hl : md_last A s = A 4 s + A 8 s := rfl
  have n3 : y < 50 := by rw [← hy]; exact h.2.2.2.1.1 49 (by omega)
  have hS := h.1 s hs
  have r2 := hw.1 2 s
  have r3 := hw.1 29 3
  have r9 := hw.1 29 9
  have r13 := hw.1 13 s
  have r17 := hn (A 29 1)
  have r18 := hw.1 18 (5 * s + A 29 1)
  have r19 := hw.1 19 (5 * s + A 29 1)
  have hb01 := bit_01 (md_config A s) (A 29 1)
  refine qx_of (lo := [some (.ref (ad 0)), some (.ref (ad (10 + s))), some (.ref (ad (100 + y))), none, none]) (by decide) (fun w hw => List.mem_cons_of_mem _ hw) rfl (Nat.le_of_ble_eq_true rfl) rfl ?_
  intro X C
  have Ex : ∀ (l3 l4 : Option Value), md_res A s (A 29 1) = A → X 19 [some (.ref (ad 0)), some (.ref (ad (10 + s))), some (.ref (ad (100 + y))), l3, l4] [] (ch G ad iv g I m E N) 0 0 := by
    intro l3 l4 hc
    exact qx_vret C d_Q_resultComes_19 (Nat.zero_le _) (Nat.zero_le _) ⟨rfl, g, I, E, N, rfl, cr_g.rf g, by rw [hc]; exact h, rfl, rfl, rfl⟩
  have Rd : ∀ (g1 : qh_H) (I1 : md_A) (E1 : cl_E) (N1 : Nat → Nat) (B : md_A) (l3 l4 : Option Value), cr G iv g1 I1 m E1 N1 B → cr_g g g1 → md_ww B → md_lg A B → (A 4 s ≤ B 14 s ∧ B 14 s ≤ md_last A s) → B 21 0 = A 21 0 → (∀ i, B 23 i = A 23 i) → I1 (100 + m 49) = I (100 + m 49) → E1 (200 + m 49) = E (200 + m 49) → N1 (100 + m 49) = N (100 + m 49) → md_res A s (A 29 1) = md_reads B s → X 182 [some (.ref (ad 0)), some (.ref (ad (10 + s))), some (.ref (ad (100 + y))), l3, l4] [] (ch G ad iv g1 I1 m E1 N1) 0 0 := by
    intro g1 I1 E1 N1 B l3 l4 h1 hg1 hwB hlg h14 h21 h23 j1 j2 j3 he
    refine qx_aload_n C d_Q_resultComes_182 rfl rfl ?_
    refine qx_aload_n C d_Q_resultComes_183 rfl rfl ?_
    refine nx_callpv C (s_Q_resultComes_184 (ch_Q J)) (c_lookReads l G b J h1 hwB hs (hlg.B hB) (by rw [hlg.config]; exact hcf) (by rw [hlg.last, hlg 4 (by omega) (by omega)]; exact h14) (by rw [h21]; exact hv.2) (fun i i0 i1 => by rw [h23]; exact hk i i0 (by rw [h21] at i1; exact i1)) d) w_Q_lookAtReads rfl rfl (Nat.le_of_ble_eq_true rfl) (by omega) (by decide) (fun hh hP => ?_)
    obtain ⟨g5, I5, E5, N5, rfl, hg5, h5, p1, p2, p3⟩ := hP
    exact qx_vret C d_Q_resultComes_187 (Nat.zero_le _) (Nat.zero_le _) ⟨rfl, g5, I5, E5, N5, rfl, hg1.tr hg5, by rw [he]; exact h5, p1.trans j1, p2.trans j2, p3.trans j3⟩
  have Sn : ∀ (g1 : qh_H) (I1 : md_A) (E1 : cl_E) (N1 : Nat → Nat) (B : md_A) (l4 : Option Value) (more : Int), (more = 0 ∨ more = 1) → cr G iv g1 I1 m E1 N1 B → cr_g g g1 → md_ww B → md_lg A B → (A 4 s ≤ B 14 s ∧ B 14 s ≤ md_last A s) → B 21 0 = A 21 0 → (∀ i, B 23 i = A 23 i) → (-1000000 ≤ B 17 (5 * s + A 29 1) ∧ B 17 (5 * s + A 29 1) ≤ 2000000) → I1 (100 + m 49) = I (100 + m 49) → E1 (200 + m 49) = E (200 + m 49) → N1 (100 + m 49) = N (100 + m 49) → md_res A s (A 29 1) = md_reads (if B 13 s = 3 ∧ more = 1 ∧ bit (md_config A s) (A 29 1) = 1 then md_sendTo B s (A 29 1) else B) s → X 147 [some (.ref (ad 0)), some (.ref (ad (10 + s))), some (.ref (ad (100 + y))), some (.int (iI (A 29 1))), l4] [.int (iI more)] (ch G ad iv g1 I1 m E1 N1) 0 0 := by
    intro g1 I1 E1 N1 B l4 more h01 h1 hg1 hwB hlg h14 h21 h23 hn1 j1 j2 j3 he
    have rB := hwB.1 13 s
    refine nx_istore C d_Q_resultComes_147 (Nat.le_of_ble_eq_true rfl) (lo' := [_, _, _, _, some (.int _)]) rfl ?_
    refine qx_aload_n C d_Q_resultComes_149 rfl rfl ?_
    refine qx_get C d_Q_resultComes_150 fl_Q_51 (ch_S J hs) rfl ?_
    rw [(h1.1 s hs).1.2.2.2.2.1]
    refine qx_iconst C d_Q_resultComes_153 (v := iI (3)) rfl ?_
    refine nx_icmp_ne C 182 d_Q_resultComes_154 (by decide) (by omega) (by omega) (fun z1 => ?_) (fun z1 => ?_)
    · exact Rd g1 I1 E1 N1 B _ _ h1 hg1 hwB hlg h14 h21 h23 j1 j2 j3 (by rw [he, if_neg (fun z => z1 z.1)])
    · refine qx_iload C d_Q_resultComes_157 rfl ?_
      refine nx_if_eq C 182 d_Q_resultComes_159 (by decide) (by omega) (fun z2 => ?_) (fun z2 => ?_)
      · exact Rd g1 I1 E1 N1 B _ _ h1 hg1 hwB hlg h14 h21 h23 j1 j2 j3 (by rw [he, if_neg (by omega)])
      · refine qx_aload_n C d_Q_resultComes_162 rfl rfl ?_
        refine qx_get C d_Q_resultComes_163 fl_Q_85 (ch_S J hs) rfl ?_
        refine nx_call0 C (s_Q_resultComes_166 (ch_L J hs)) (c_config l G b J hwB.1 hs (h1.2.1 s hs) (hlg.B hB) d) w_L_configuration rfl rfl (Nat.le_of_ble_eq_true rfl) (by omega) (by decide) ?_
        rw [hlg.config]
        refine qx_iload_n C d_Q_resultComes_169 rfl rfl ?_
        refine nx_call0 C s_Q_resultComes_170 (c_isIn l G b _ hcf hf d) w_Q_isIn rfl rfl (Nat.le_of_ble_eq_true rfl) (by omega) (by decide) ?_
        refine nx_if_eq C 182 d_Q_resultComes_173 (by decide) (by omega) (fun z3 => ?_) (fun z3 => ?_)
        · exact Rd g1 I1 E1 N1 B _ _ h1 hg1 hwB hlg h14 h21 h23 j1 j2 j3 (by rw [he, if_neg (by omega)])
        · refine qx_aload_n C d_Q_resultComes_176 rfl rfl ?_
          refine qx_aload_n C d_Q_resultComes_177 rfl rfl ?_
          refine qx_iload_n C d_Q_resultComes_178 rfl rfl ?_
          refine nx_callpv C (s_Q_resultComes_179 (ch_Q J)) (c_sendTo l G b J h1 hwB hs (hlg.B hB) hf hn1 d) w_Q_sendTo rfl rfl (Nat.le_of_ble_eq_true rfl) (by omega) (by decide) (fun hh hP => ?_)
          obtain ⟨g5, I5, E5, N5, rfl, hg5, h5, p1, p2, p3⟩ := hP
          have q14 : md_sendTo B s (A 29 1) 14 s = B 14 s := md_sendTo_k (by decide)
          have q21 : md_sendTo B s (A 29 1) 21 0 = B 21 0 := md_sendTo_k (by decide)
          exact Rd g5 I5 E5 N5 (md_sendTo B s (A 29 1)) _ _ h5 (hg1.tr hg5) (md_sendTo_ww hwB (by omega) (by omega) (by omega)) (fun k k1 k2 => (md_sendTo_lg B s (A 29 1) k k1 k2).trans (hlg k k1 k2)) (by rw [q14]; exact h14) (by rw [q21]; exact h21) (fun i => by rw [md_sendTo_k (by decide)]; exact h23 i) (p1.trans j1) (p2.trans j2) (p3.trans j3) (by rw [he, if_pos (by omega)])
  refine qx_aload_n C d_Q_resultComes_0 rfl rfl ?_
  refine qx_get C d_Q_resultComes_1 fl_Q_51 (ch_S J hs) rfl ?_
  rw [hS.1.2.2.2.2.1]
  refine qx_iconst C d_Q_resultComes_4 (v := iI (3)) rfl ?_
  refine nx_icmp_ne C 19 d_Q_resultComes_5 (by decide) (by omega) (by omega) (fun z1 => ?_) (fun z1 => ?_)
  · exact Ex _ _ (by unfold md_res; rw [if_neg (fun z => z1 z.1)])
  · refine qx_aload_n C d_Q_resultComes_8 rfl rfl ?_
    refine qx_get C d_Q_resultComes_9 fl_Q_212 (ch_M J n3) rfl ?_
    rw [hM.1.2.2.2.1]
    refine qx_aload_n C d_Q_resultComes_12 rfl rfl ?_
    refine qx_get C d_Q_resultComes_13 fl_Q_61 (ch_S J hs) rfl ?_
    rw [hS.1.2.2.1]
    refine nx_icmp_eq C 20 d_Q_resultComes_16 (by decide) (by omega) (by omega) (fun z2 => ?_) (fun z2 => ?_)
    · have er : md_res A s (A 29 1) = if md_resB A s (A 29 1) (5 * s + A 29 1) 13 s = 3 then md_reads (md_resB A s (A 29 1) (5 * s + A 29 1)) s else md_resB A s (A 29 1) (5 * s + A 29 1) := by unfold md_res; rw [if_pos ⟨z1, z2⟩]
      refine qx_aload_n C d_Q_resultComes_20 rfl rfl ?_
      refine qx_get C d_Q_resultComes_21 fl_Q_209 (ch_M J n3) rfl ?_
      rw [hM.1.2.1]
      refine nx_istore_n C d_Q_resultComes_24 rfl (Nat.le_of_ble_eq_true rfl) (lo' := [_, _, _, some (.int _), _]) rfl ?_
      refine qx_aload_n C d_Q_resultComes_25 rfl rfl ?_
      refine qx_get C d_Q_resultComes_26 fl_Q_273 (ch_S J hs) rfl ?_
      refine qx_iload_n C d_Q_resultComes_29 rfl rfl ?_
      refine qx_aload_n C d_Q_resultComes_30 rfl rfl ?_
      refine qx_get C d_Q_resultComes_31 fl_Q_273 (ch_S J hs) rfl ?_
      refine qx_iload_n C d_Q_resultComes_34 rfl rfl ?_
      refine cx_ia C J d_Q_resultComes_35 (by omega) (by omega) (by omega) ?_
      rw [(hS.2 _ hf.1 hf.2).2.2]
      refine qx_aload_n C d_Q_resultComes_36 rfl rfl ?_
      refine qx_get C d_Q_resultComes_37 fl_Q_219 (ch_M J n3) rfl ?_
      rw [hM.1.2.2.2.2.2.2.1]
      refine nx_max C d_Q_resultComes_40 qm_497 rfl (Nat.le_of_ble_eq_true rfl) (by omega) (by omega) (by omega) ?_
      rw [md_max_comm]
      refine cx_is C J d_Q_resultComes_43 (by omega) (by omega) (by omega) ?_
      have h1 : cr G iv g (md_u I (60 + s) (A 29 1) (md_max (A 29 9) (A 19 (5 * s + A 29 1)))) m E N (md_resC A s (5 * s + A 29 1)) := h.nx hs (j := 60 + s) (by omega) hf _
      have hM1 : cr_M G iv g (md_u I (60 + s) (A 29 1) (md_max (A 29 9) (A 19 (5 * s + A 29 1)))) E N y (A 29) := hM.cg (cl_uI _ _ _ (by omega)) rfl rfl (fun _ _ _ => rfl)
      have k1 : md_u I (60 + s) (A 29 1) (md_max (A 29 9) (A 19 (5 * s + A 29 1))) (100 + m 49) = I (100 + m 49) := cl_uI _ _ _ (by omega)
      have hlg1 : md_lg A (md_resC A s (5 * s + A 29 1)) := (md_lg.rf A).u (by decide)
      have hw1 : md_ww (md_resC A s (5 * s + A 29 1)) := hw.u (by decide) (md_max_r (by omega) (by omega))
      have u17 : md_resC A s (5 * s + A 29 1) 17 (5 * s + A 29 1) = A 17 (5 * s + A 29 1) := md_uk (by decide)
      have u18 : md_resC A s (5 * s + A 29 1) 18 (5 * s + A 29 1) = A 18 (5 * s + A 29 1) := md_uk (by decide)
      have u29 : md_resC A s (5 * s + A 29 1) 29 = A 29 := by funext z; exact md_uk (by decide)
      have u13 : md_resC A s (5 * s + A 29 1) 13 s = A 13 s := md_uk (by decide)
      generalize hI1 : md_u I (60 + s) (A 29 1) (md_max (A 29 9) (A 19 (5 * s + A 29 1))) = I1 at h1 hM1 k1
      refine qx_aload_n C d_Q_resultComes_44 rfl rfl ?_
      refine qx_get C d_Q_resultComes_45 fl_Q_217 (ch_M J n3) rfl ?_
      rw [hM1.1.2.2.2.2.2.2.2]
      refine nx_if_eq C 92 d_Q_resultComes_48 (by decide) (by omega) (fun z3 => ?_) (fun z3 => ?_)
      · refine qx_aload_n C d_Q_resultComes_92 rfl rfl ?_
        refine qx_get C d_Q_resultComes_93 fl_Q_267 (ch_S J hs) rfl ?_
        refine qx_iload_n C d_Q_resultComes_96 rfl rfl ?_
        refine qx_iconst C d_Q_resultComes_97 (v := iI (1)) rfl ?_
        refine qx_aload_n C d_Q_resultComes_98 rfl rfl ?_
        refine qx_get C d_Q_resultComes_99 fl_Q_267 (ch_S J hs) rfl ?_
        refine qx_iload_n C d_Q_resultComes_102 rfl rfl ?_
        refine cx_ia C J d_Q_resultComes_103 (by omega) (by omega) (by omega) ?_
        rw [((h1.1 s hs).2 _ hf.1 hf.2).1, u17]
        refine qx_iconst C d_Q_resultComes_104 (v := iI (1)) rfl ?_
        refine nx_isub C d_Q_resultComes_105 ?_
        refine qx_aload_n C d_Q_resultComes_106 rfl rfl ?_
        refine qx_get C d_Q_resultComes_107 fl_Q_213 (ch_M J n3) rfl ?_
        rw [hM1.1.2.2.2.2.1]
        refine qx_iconst C d_Q_resultComes_110 (v := iI (1)) rfl ?_
        refine nx_iadd C d_Q_resultComes_111 ?_
        refine nx_min C d_Q_resultComes_112 qm_494 rfl (Nat.le_of_ble_eq_true rfl) (by omega) (by omega) (by omega) ?_
        refine nx_max C d_Q_resultComes_115 qm_497 rfl (Nat.le_of_ble_eq_true rfl) (by omega) (by omega) (md_min_r (by omega) (by omega)) ?_
        refine cx_is C J d_Q_resultComes_118 (by omega) (by omega) (by omega) ?_
        have e2 : md_resN (md_resC A s (5 * s + A 29 1)) (5 * s + A 29 1) = md_u (md_resC A s (5 * s + A 29 1)) 17 (5 * s + A 29 1) (md_max 1 (md_min (A 17 (5 * s + A 29 1) - 1) (A 29 4 + 1))) := by
          unfold md_resN
          rw [u17, u29]
          rfl
        have h2 := h1.nx hs (j := 40 + s) (k := 17) (by omega) hf (md_max 1 (md_min (A 17 (5 * s + A 29 1) - 1) (A 29 4 + 1)))
        rw [← e2] at h2
        have hM2 : cr_M G iv g (md_u I1 (40 + s) (A 29 1) (md_max 1 (md_min (A 17 (5 * s + A 29 1) - 1) (A 29 4 + 1)))) E N y (A 29) := hM1.cg (cl_uI _ _ _ (by omega)) rfl rfl (fun _ _ _ => rfl)
        have bnd : 1 ≤ md_max 1 (md_min (A 17 (5 * s + A 29 1) - 1) (A 29 4 + 1)) ∧ md_max 1 (md_min (A 17 (5 * s + A 29 1) - 1) (A 29 4 + 1)) ≤ 2000000 := by
          unfold md_max md_min
          constructor <;> (split <;> split <;> omega)
        have v17 : md_resN (md_resC A s (5 * s + A 29 1)) (5 * s + A 29 1) 17 (5 * s + A 29 1) = md_max 1 (md_min (A 17 (5 * s + A 29 1) - 1) (A 29 4 + 1)) := by rw [e2, md_us]
        have hwN : md_ww (md_resN (md_resC A s (5 * s + A 29 1)) (5 * s + A 29 1)) := by rw [e2]; exact hw1.u (by decide) (by omega)
        have hlgN : md_lg A (md_resN (md_resC A s (5 * s + A 29 1)) (5 * s + A 29 1)) := by rw [e2]; exact hlg1.u (by decide)
        have oN : ∀ (k : Nat) (i : Int), k ≠ 17 → k ≠ 19 → md_resN (md_resC A s (5 * s + A 29 1)) (5 * s + A 29 1) k i = A k i := fun k i k1 k2 => by
          rw [e2, md_uk k1]
          exact md_uk k2
        refine qx_aload_n C d_Q_resultComes_119 rfl rfl ?_
        refine qx_get C d_Q_resultComes_120 fl_Q_217 (ch_M J n3) rfl ?_
        rw [hM2.1.2.2.2.2.2.2.2]
        refine nx_if_eq C 142 d_Q_resultComes_123 (by decide) (by omega) (fun z4 => ?_) (fun z4 => ?_)
        · refine qx_iconst C d_Q_resultComes_142 (v := iI (1)) rfl ?_
          refine qx_goto C d_Q_resultComes_143 (tgt := 147) (by decide) ?_
          refine Sn g _ E N _ _ 1 (Or.inr rfl) h2 (cr_g.rf g) hwN hlgN (by rw [oN 14 s (by decide) (by decide)]; exact hcm) (oN 21 0 (by decide) (by decide)) (fun i => oN 23 i (by decide) (by decide)) (by rw [v17]; omega) ((cl_uI _ _ _ (by omega)).trans k1) rfl rfl ?_
          have c13 : md_resN (md_resC A s (5 * s + A 29 1)) (5 * s + A 29 1) 13 s = 3 := by rw [oN 13 s (by decide) (by decide)]; exact z1
          have eb : md_resB A s (A 29 1) (5 * s + A 29 1) = if bit (md_config A s) (A 29 1) = 1 then md_sendTo (md_resN (md_resC A s (5 * s + A 29 1)) (5 * s + A 29 1)) s (A 29 1) else md_resN (md_resC A s (5 * s + A 29 1)) (5 * s + A 29 1) := by
            unfold md_resB
            rw [if_neg (by omega)]
          rw [er, eb]
          by_cases cb : bit (md_config A s) (A 29 1) = 1
          · have p3 : md_resN (md_resC A s (5 * s + A 29 1)) (5 * s + A 29 1) 13 s = 3 ∧ (1 : Int) = 1 ∧ bit (md_config A s) (A 29 1) = 1 := ⟨c13, rfl, cb⟩
            have p4 : md_sendTo (md_resN (md_resC A s (5 * s + A 29 1)) (5 * s + A 29 1)) s (A 29 1) 13 s = 3 := (md_sendTo_k (by decide)).trans c13
            rw [if_pos cb, if_pos p3, if_pos p4]
          · have p3 : ¬ (md_resN (md_resC A s (5 * s + A 29 1)) (5 * s + A 29 1) 13 s = 3 ∧ (1 : Int) = 1 ∧ bit (md_config A s) (A 29 1) = 1) := fun z => cb z.2.2
            rw [if_neg cb, if_neg p3, if_pos c13]
        · exact absurd z4 (by omega)
      · refine qx_aload_n C d_Q_resultComes_51 rfl rfl ?_
        refine qx_get C d_Q_resultComes_52 fl_Q_270 (ch_S J hs) rfl ?_
        refine qx_iload_n C d_Q_resultComes_55 rfl rfl ?_
        refine qx_aload_n C d_Q_resultComes_56 rfl rfl ?_
        refine qx_get C d_Q_resultComes_57 fl_Q_270 (ch_S J hs) rfl ?_
        refine qx_iload_n C d_Q_resultComes_60 rfl rfl ?_
        refine cx_ia C J d_Q_resultComes_61 (by omega) (by omega) (by omega) ?_
        rw [((h1.1 s hs).2 _ hf.1 hf.2).2.1, u18]
        refine qx_aload_n C d_Q_resultComes_62 rfl rfl ?_
        refine qx_get C d_Q_resultComes_63 fl_Q_213 (ch_M J n3) rfl ?_
        rw [hM1.1.2.2.2.2.1]
        refine nx_max C d_Q_resultComes_66 qm_497 rfl (Nat.le_of_ble_eq_true rfl) (by omega) (by omega) (by omega) ?_
        rw [md_max_comm]
        have bm : md_max (A 29 4) (A 18 (5 * s + A 29 1)) ≤ 1000000 := md_max_le hb.2 h18
        have bm0 : 0 ≤ md_max (A 29 4) (A 18 (5 * s + A 29 1)) := by unfold md_max; split <;> omega
        refine cx_is C J d_Q_resultComes_69 (by omega) (by omega) (by omega) ?_
        refine qx_aload_n C d_Q_resultComes_70 rfl rfl ?_
        refine qx_get C d_Q_resultComes_71 fl_Q_267 (ch_S J hs) rfl ?_
        refine qx_iload_n C d_Q_resultComes_74 rfl rfl ?_
        refine qx_aload_n C d_Q_resultComes_75 rfl rfl ?_
        refine qx_get C d_Q_resultComes_76 fl_Q_270 (ch_S J hs) rfl ?_
        refine qx_iload_n C d_Q_resultComes_79 rfl rfl ?_
        refine cx_ia C J d_Q_resultComes_80 (by omega) (by omega) (by omega) ?_
        rw [md_us]
        refine qx_iconst C d_Q_resultComes_81 (v := iI (1)) rfl ?_
        refine nx_iadd C d_Q_resultComes_82 ?_
        refine cx_is C J d_Q_resultComes_83 (by omega) (by omega) (by omega) ?_
        have e2 : md_resM (md_resC A s (5 * s + A 29 1)) (5 * s + A 29 1) = md_u (md_u (md_resC A s (5 * s + A 29 1)) 18 (5 * s + A 29 1) (md_max (A 29 4) (A 18 (5 * s + A 29 1)))) 17 (5 * s + A 29 1) (md_max (A 29 4) (A 18 (5 * s + A 29 1)) + 1) := by
          unfold md_resM
          rw [u18, u29]
        have h2 := (h1.nx hs (j := 50 + s) (k := 18) (by omega) hf (md_max (A 29 4) (A 18 (5 * s + A 29 1)))).nx hs (j := 40 + s) (k := 17) (by omega) hf (md_max (A 29 4) (A 18 (5 * s + A 29 1)) + 1)
        rw [← e2] at h2
        have hwM : md_ww (md_resM (md_resC A s (5 * s + A 29 1)) (5 * s + A 29 1)) := by rw [e2]; exact (hw1.u (by decide) (by omega)).u (by decide) (by omega)
        have hlgM : md_lg A (md_resM (md_resC A s (5 * s + A 29 1)) (5 * s + A 29 1)) := by rw [e2]; exact (hlg1.u (by decide)).u (by decide)
        have oM : ∀ (k : Nat) (i : Int), k ≠ 17 → k ≠ 18 → k ≠ 19 → md_resM (md_resC A s (5 * s + A 29 1)) (5 * s + A 29 1) k i = A k i := fun k i k1 k2 k3 => by
          rw [e2, md_uk k1, md_uk k2]
          exact md_uk k3
        have o14 := oM 14 s (by decide) (by decide) (by decide)
        have o21 := oM 21 0 (by decide) (by decide) (by decide)
        have v17 : md_resM (md_resC A s (5 * s + A 29 1)) (5 * s + A 29 1) 17 (5 * s + A 29 1) = md_max (A 29 4) (A 18 (5 * s + A 29 1)) + 1 := by rw [e2, md_us]
        have hBM := hlgM.B hB
        refine qx_aload_n C d_Q_resultComes_84 rfl rfl ?_
        refine qx_aload_n C d_Q_resultComes_85 rfl rfl ?_
        refine nx_callpv C (s_Q_resultComes_86 (ch_Q J)) (c_lookCommit l G b J h2 hwM hs hBM (by rw [hlgM.config]; exact hcf) (by rw [o14, hlgM.last]; omega) (by rw [o21]; exact hv.2) d) w_Q_lookAtCommit rfl rfl (Nat.le_of_ble_eq_true rfl) (by omega) (by decide) (fun hh hP => ?_)
        obtain ⟨g5, I5, E5, N5, rfl, hg5, h5, p1, p2, p3⟩ := hP
        have q1 : I5 (100 + m 49) = I (100 + m 49) := by
          rw [p1, cl_uI _ _ _ (by omega), cl_uI _ _ _ (by omega)]
          exact k1
        have hM5 : cr_M G iv g5 I5 E5 N5 y (A 29) := hM.kp hy hg5 q1 p2 p3
        have hwL := md_look_ww hwM hBM (by rw [o14]; omega)
        have hlgL : md_lg A (md_look (md_resM (md_resC A s (5 * s + A 29 1)) (5 * s + A 29 1)) s) := fun k k1 k2 => (md_look_lg _ s k k1 k2).trans (hlgM k k1 k2)
        have l14 := md_look_14 (md_resM (md_resC A s (5 * s + A 29 1)) (5 * s + A 29 1)) s (by rw [o14, hlgM.last]; omega)
        rw [o14, hlgM.last] at l14
        have l17 : md_look (md_resM (md_resC A s (5 * s + A 29 1)) (5 * s + A 29 1)) s 17 (5 * s + A 29 1) = md_max (A 29 4) (A 18 (5 * s + A 29 1)) + 1 := by rw [md_look_k (by decide)]; exact v17
        refine qx_goto C d_Q_resultComes_89 (tgt := 119) (by decide) ?_
        refine qx_aload_n C d_Q_resultComes_119 rfl rfl ?_
        refine qx_get C d_Q_resultComes_120 fl_Q_217 (ch_M J n3) rfl ?_
        rw [hM5.1.2.2.2.2.2.2.2]
        have Fin : ∀ (l4 : Option Value) (more : Int), (more = 0 ∨ more = 1) → (more = 1 ↔ md_look (md_resM (md_resC A s (5 * s + A 29 1)) (5 * s + A 29 1)) s 17 (5 * s + A 29 1) ≤ md_last A s) → X 147 [some (.ref (ad 0)), some (.ref (ad (10 + s))), some (.ref (ad (100 + y))), some (.int (iI (A 29 1))), l4] [.int (iI more)] (ch G ad iv g5 I5 m E5 N5) 0 0 := by
          intro l4 more h01 hmo
          refine Sn g5 I5 E5 N5 _ _ more h01 h5 hg5 hwL hlgL (by omega) (by rw [md_look_k (by decide)]; exact o21) (fun i => by rw [md_look_k (by decide)]; exact oM 23 i (by decide) (by decide) (by decide)) (by rw [l17]; omega) q1 p2 p3 ?_
          rw [er]
          have eb : md_resB A s (A 29 1) (5 * s + A 29 1) = if md_look (md_resM (md_resC A s (5 * s + A 29 1)) (5 * s + A 29 1)) s 13 s = 3 ∧ more = 1 ∧ bit (md_config A s) (A 29 1) = 1 then md_sendTo (md_look (md_resM (md_resC A s (5 * s + A 29 1)) (5 * s + A 29 1)) s) s (A 29 1) else md_look (md_resM (md_resC A s (5 * s + A 29 1)) (5 * s + A 29 1)) s := by
            unfold md_resB md_resY
            rw [if_pos (by omega), hlg1.last]
            by_cases cc : md_look (md_resM (md_resC A s (5 * s + A 29 1)) (5 * s + A 29 1)) s 13 s = 3 ∧ more = 1 ∧ bit (md_config A s) (A 29 1) = 1
            · rw [if_pos cc, if_pos ⟨cc.1, hmo.1 cc.2.1, cc.2.2⟩]
            · rw [if_neg cc, if_neg (fun z => cc ⟨z.1, hmo.2 z.2.1, z.2.2⟩)]
          rw [eb]
          by_cases c3 : md_look (md_resM (md_resC A s (5 * s + A 29 1)) (5 * s + A 29 1)) s 13 s = 3
          · rw [if_pos]
            split
            · exact (md_sendTo_k (by decide)).trans c3
            · exact c3
          · have p : ¬ (md_look (md_resM (md_resC A s (5 * s + A 29 1)) (5 * s + A 29 1)) s 13 s = 3 ∧ more = 1 ∧ bit (md_config A s) (A 29 1) = 1) := fun z => c3 z.1
            rw [if_neg p, if_neg c3]
            exact (md_look_no ((oM 13 s (by decide) (by decide) (by decide)).trans z1) c3).symm
        refine nx_if_eq C 142 d_Q_resultComes_123 (by decide) (by omega) (fun z4 => ?_) (fun z4 => ?_)
        · exact absurd z4 (by omega)
        · refine qx_aload_n C d_Q_resultComes_126 rfl rfl ?_
          refine qx_get C d_Q_resultComes_127 fl_Q_267 (ch_S J hs) rfl ?_
          refine qx_iload_n C d_Q_resultComes_130 rfl rfl ?_
          refine cx_ia C J d_Q_resultComes_131 (by omega) (by omega) (by omega) ?_
          rw [((h5.1 s hs).2 _ hf.1 hf.2).1, l17]
          refine qx_aload_n C d_Q_resultComes_132 rfl rfl ?_
          refine qx_get C d_Q_resultComes_133 fl_Q_85 (ch_S J hs) rfl ?_
          refine nx_call0 C (s_Q_resultComes_136 (ch_L J hs)) (c_last l G b J hs (h5.2.1 s hs) (hlgL.B hB) d) w_L_last rfl rfl (Nat.le_of_ble_eq_true rfl) (by omega) (by decide) ?_
          rw [hlgL.last]
          refine nx_icmp_gt C 146 d_Q_resultComes_139 (by decide) (by omega) (by omega) (fun z5 => ?_) (fun z5 => ?_)
          · refine qx_iconst C d_Q_resultComes_146 (v := iI (0)) rfl ?_
            exact Fin _ 0 (Or.inl rfl) (by rw [l17]; omega)
          · refine qx_iconst C d_Q_resultComes_142 (v := iI (1)) rfl ?_
            refine qx_goto C d_Q_resultComes_143 (tgt := 147) (by decide) ?_
            exact Fin _ 1 (Or.inr rfl) (by rw [l17]; omega)
    · exact Ex _ _ (by unfold md_res; rw [if_neg (fun z => z2 z.2)])
