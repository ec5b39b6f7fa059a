/-! the reference: RESULT, deliver -/
def md_resC (A : md_A) (s c : Int) : md_A := md_u A 19 c (md_max (A 29 9) (A 19 c))
def md_resM (A : md_A) (c : Int) : md_A := md_u (md_u A 18 c (md_max (A 29 4) (A 18 c))) 17 c (md_max (A 29 4) (A 18 c) + 1)
def md_resN (A : md_A) (c : Int) : md_A := md_u A 17 c (if md_min (A 17 c - 1) (A 29 4 + 1) < 1 then 1 else md_min (A 17 c - 1) (A 29 4 + 1))
def md_resY (A : md_A) (s fr c : Int) (inn : Prop) [Decidable inn] : md_A := if md_look (md_resM A c) s 13 s = 3 ∧ md_look (md_resM A c) s 17 c ≤ md_last A s ∧ inn then md_sendTo (md_look (md_resM A c) s) s fr else md_look (md_resM A c) s
def md_resB (A : md_A) (s fr c : Int) : md_A := if A 29 6 = 1 then md_resY (md_resC A s c) s fr c (bit (md_config A s) fr = 1) else if bit (md_config A s) fr = 1 then md_sendTo (md_resN (md_resC A s c) c) s fr else md_resN (md_resC A s c) c
def md_res (A : md_A) (s fr : Int) : md_A := if A 13 s = 3 ∧ A 29 3 = A 2 s then (if md_resB A s fr (5 * s + fr) 13 s = 3 then md_reads (md_resB A s fr (5 * s + fr)) s else md_resB A s fr (5 * s + fr)) else A
theorem md_max_r {a c : Int} (h1 : rng a) (h2 : rng c) : rng (md_max a c) := by unfold md_max; split <;> omega
theorem md_look_14 (A : md_A) (s : Int) (hc : A 14 s ≤ md_last A s) : A 14 s ≤ md_look A s 14 s ∧ md_look A s 14 s ≤ md_last A s := by
  have h := md_fc_in A s (md_last A s - A 14 s).toNat
  have e : md_look A s 14 s = md_fc A s (md_last A s - A 14 s).toNat := by
    unfold md_look
    split
    · rw [md_follow_k (by decide)]; exact md_us
    · exact md_us
  rw [e]
  omega
set_option maxRecDepth 100000 in
set_option maxHeartbeats 2000000 in
theorem m_resulted (l : Launch) (G : qh_G) (b : Nat) {o : Nat} {ad : Nat → Nat} {iv : Nat → Option Nat} (I : md_I o ad iv) (g : qh_H) {A : md_A} {s fr : Int} (hT : md_T A s) (hv : md_V A) (hn : md_nx A s) (hk : md_Hk A) (hf : 0 ≤ fr ∧ fr < 5) (hb : -1000000 ≤ A 29 4 ∧ A 29 4 ≤ 1000000) (h18 : A 18 (5 * s + fr) ≤ 1000000) (d : Nat) : qv l y_D_resulted c_D_resulted 7 none (d + 7) 0 0 G b [.ref o, .int (iI s), .int (iI fr)] (md_h G o ad iv g A) (md_h G o ad iv g (md_res A s fr)) := by
  have hsB := hT.1
  have h13 := hv.1.1 13 s
  have h3 := hv.1.1 29 3
  have h2 := hv.1.1 2 s
  have h6 := hv.1.1 29 6
  have h9 := hv.1.1 29 9
  have h19 := hv.1.1 19 (5 * s + fr)
  have h18r := hv.1.1 18 (5 * s + fr)
  have h17 := hn fr
  have hl : md_last A s = A 4 s + A 8 s := rfl
  have hb1 := bit_01 (md_config A s) fr
  have hcf := hT.2.1
  have hcm := hT.2.2.1
  refine qx_of (lo := [some (.ref o), some (.int (iI s)), some (.int (iI fr)), none, none, none, none]) (by decide) (fun w hw => List.mem_cons_of_mem _ hw) rfl (Nat.le_of_ble_eq_true rfl) rfl ?_
  intro X C
  have F0 : ¬ (A 13 s = 3 ∧ A 29 3 = A 2 s) → X 25 [some (.ref o), some (.int (iI s)), some (.int (iI fr)), none, none, none, none] [] (md_h G o ad iv g A) 0 0 := by
    intro h
    refine qx_vret C d_D_resulted_25 (Nat.zero_le _) (Nat.zero_le _) ⟨rfl, ?_⟩
    unfold md_res
    rw [if_neg h]
  refine qx_aload_n C d_D_resulted_0 rfl rfl ?_
  refine mx_gi C d_D_resulted_1 fl_D_47 rfl ?_
  refine qx_iload_n C d_D_resulted_4 rfl rfl ?_
  refine mx_ia C I 13 5 d_D_resulted_5 (by unfold md_a; omega) rfl rfl (by omega) (by omega) ?_
  refine qx_iconst C d_D_resulted_6 (v := iI (3)) rfl ?_
  refine nx_icmp_ne C 25 d_D_resulted_7 (by decide) (by omega) (by omega) (fun z1 => ?_) (fun z1 => ?_)
  · exact F0 (fun z => z1 z.1)
  · refine qx_aload_n C d_D_resulted_10 rfl rfl ?_
    refine mx_gi C d_D_resulted_11 fl_D_89 rfl ?_
    refine qx_iconst C d_D_resulted_14 (v := iI (3)) rfl ?_
    refine mx_ia C I 29 20 d_D_resulted_15 (by unfold md_a; omega) rfl rfl (by omega) (by omega) ?_
    refine qx_aload_n C d_D_resulted_16 rfl rfl ?_
    refine mx_gi C d_D_resulted_17 fl_D_13 rfl ?_
    refine qx_iload_n C d_D_resulted_20 rfl rfl ?_
    refine mx_ia C I 2 5 d_D_resulted_21 (by unfold md_a; omega) rfl rfl (by omega) (by omega) ?_
    refine nx_icmp_eq C 26 d_D_resulted_22 (by decide) (by omega) (by omega) (fun z2 => ?_) (fun z2 => ?_)
    · have Fin : ∀ (B : md_A) (l3 l4 l5 l6 : Option Value), B = md_resB A s fr (5 * s + fr) → md_lg A B → md_ww B → (0 ≤ B 21 0 ∧ B 21 0 ≤ 60) → (A 4 s ≤ B 14 s ∧ B 14 s ≤ md_last A s) → (∀ i, B 23 i = A 23 i) → B 21 0 = A 21 0 → X 255 [some (.ref o), some (.int (iI s)), some (.int (iI fr)), l3, l4, l5, l6] [] (md_h G o ad iv g B) 0 0 := by
        intro B l3 l4 l5 l6 hB lgB wwB hrB hcB e23 e21
        have hr := wwB.1 13 s
        refine qx_aload_n C d_D_resulted_255 rfl rfl ?_
        refine mx_gi C d_D_resulted_256 fl_D_47 rfl ?_
        refine qx_iload_n C d_D_resulted_259 rfl rfl ?_
        refine mx_ia C I 13 5 d_D_resulted_260 (by unfold md_a; omega) rfl rfl (by omega) (by omega) ?_
        refine qx_iconst C d_D_resulted_261 (v := iI (3)) rfl ?_
        refine nx_icmp_ne C 270 d_D_resulted_262 (by decide) (by omega) (by omega) (fun q1 => ?_) (fun q1 => ?_)
        · refine qx_vret C d_D_resulted_270 (Nat.zero_le _) (Nat.zero_le _) ⟨rfl, ?_⟩
          unfold md_res
          rw [if_pos ⟨z1, z2⟩, ← hB, if_neg q1]
        · refine qx_aload_n C d_D_resulted_265 rfl rfl ?_
          refine qx_iload_n C d_D_resulted_266 rfl rfl ?_
          refine nx_callv C (s_D_resulted_267 md_o) (m_lookAtReads l G b I g (lgB.B hsB) wwB (by rw [lgB.config]; exact hcf) (by rw [lgB.last, lgB 4 (by decide) (by decide)]; exact hcB) hrB (fun i y1 y2 => by rw [e23]; exact hk i y1 (by omega)) d) w_D_lookAtReads rfl rfl (Nat.le_of_ble_eq_true rfl) (by omega) (by decide) ?_
          refine qx_vret C d_D_resulted_270 (Nat.zero_le _) (Nat.zero_le _) ⟨rfl, ?_⟩
          unfold md_res
          rw [if_pos ⟨z1, z2⟩, ← hB, if_pos q1]
      have lgC : md_lg A (md_resC A s (5 * s + fr)) := (md_lg.rf A).u (by omega)
      have wwC : md_ww (md_resC A s (5 * s + fr)) := hv.1.u (by decide) (md_max_r h9 h19)
      have eC : ∀ (k : Nat) (i : Int), k ≠ 19 → md_resC A s (5 * s + fr) k i = A k i := fun k i h => md_uk h
      have Mid : ∀ (q : Int) (l6 : Option Value), (q = 0 ∨ q = 1) → q = bit (md_config A s) fr → X 96 [some (.ref o), some (.int (iI s)), some (.int (iI fr)), some (.int (iI (5 * s + fr))), some (.int (iI (A 29 4))), none, l6] [.int (iI q)] (md_h G o ad iv g (md_resC A s (5 * s + fr))) 0 0 := by
        intro q l6 hq e
        refine nx_istore C d_D_resulted_96 (Nat.le_of_ble_eq_true rfl) (lo' := [_, _, _, _, _, some (.int _), _]) rfl ?_
        refine qx_aload_n C d_D_resulted_98 rfl rfl ?_
        refine mx_gi C d_D_resulted_99 fl_D_89 rfl ?_
        refine qx_bipush C d_D_resulted_102 (v := iI (6)) (by decide) ?_
        refine mx_ia C I 29 20 d_D_resulted_104 (by unfold md_a; omega) rfl rfl (by omega) (by omega) ?_
        refine qx_iconst C d_D_resulted_105 (v := iI (1)) rfl ?_
        rw [eC 29 6 (by decide)]
        refine nx_icmp_ne C 194 d_D_resulted_106 (by decide) (by omega) (by omega) (fun q1 => ?_) (fun q1 => ?_)
        · have Nx : ∀ v : Int, v = md_min (A 17 (5 * s + fr) - 1) (A 29 4 + 1) → (-2000000 ≤ v ∧ v ≤ 2000000) → X 224 [some (.ref o), some (.int (iI s)), some (.int (iI fr)), some (.int (iI (5 * s + fr))), some (.int (iI (A 29 4))), some (.int (iI q)), l6] [.int (iI v)] (md_h G o ad iv g (md_resC A s (5 * s + fr))) 0 0 := by
            intro v hv9 hvr
            have Ny : ∀ (u : Int) (l6' : Option Value), u = (if v < 1 then 1 else v) → (1 ≤ u ∧ u ≤ 2000000) → X 243 [some (.ref o), some (.int (iI s)), some (.int (iI fr)), some (.int (iI (5 * s + fr))), some (.int (iI (A 29 4))), some (.int (iI q)), l6'] [.int (iI u), .int (iI (5 * s + fr)), .ref (ad 17)] (md_h G o ad iv g (md_resC A s (5 * s + fr))) 0 0 := by
              intro u l6' hu hur
              have eN : md_u (md_resC A s (5 * s + fr)) 17 (5 * s + fr) u = md_resN (md_resC A s (5 * s + fr)) (5 * s + fr) := by
                unfold md_resN
                rw [eC 17 _ (by decide), eC 29 _ (by decide), ← hv9, hu]
              have lgN := lgC.u (k := 17) (i := 5 * s + fr) (v := u) (by omega)
              have wwN := wwC.u (k := 17) (i := 5 * s + fr) (v := u) (by decide) (by omega)
              refine mx_is C I 17 25 d_D_resulted_243 (by unfold md_a; omega) rfl rfl (by omega) (by omega) ?_
              refine qx_iload C d_D_resulted_244 rfl ?_
              refine nx_if_eq C 255 d_D_resulted_246 (by decide) (by omega) (fun q2 => ?_) (fun q2 => ?_)
              · refine Fin _ _ _ _ _ ?_ lgN wwN (by rw [md_uk (by decide), eC _ _ (by decide)]; exact hv.2) (by rw [md_uk (by decide), eC _ _ (by decide)]; exact hcm) (fun i => by rw [md_uk (by decide), eC _ _ (by decide)]) (by rw [md_uk (by decide), eC _ _ (by decide)])
                unfold md_resB
                rw [if_neg q1, if_neg (by omega), eN]
              · have h17u : md_u (md_resC A s (5 * s + fr)) 17 (5 * s + fr) u 17 (5 * s + fr) = u := md_us
                refine qx_aload_n C d_D_resulted_249 rfl rfl ?_
                refine qx_iload_n C d_D_resulted_250 rfl rfl ?_
                refine qx_iload_n C d_D_resulted_251 rfl rfl ?_
                refine nx_callv C (s_D_resulted_252 md_o) (m_sendTo l G b I g (lgN.B hsB) hf wwN (by omega) d) w_D_sendTo rfl rfl (Nat.le_of_ble_eq_true rfl) (by omega) (by decide) ?_
                have lg2 : md_lg A (md_sendTo (md_u (md_resC A s (5 * s + fr)) 17 (5 * s + fr) u) s fr) := fun k y1 y2 => by
                  rw [← lgN k y1 y2]
                  exact md_sendTo_lg _ _ _ k y1 y2
                refine Fin _ _ _ _ _ ?_ lg2 (md_sendTo_ww wwN (by omega) (by omega) (by omega)) (by rw [md_sendTo_k (by decide), md_uk (by decide), eC _ _ (by decide)]; exact hv.2) (by rw [md_sendTo_k (by decide), md_uk (by decide), eC _ _ (by decide)]; exact hcm) (fun i => by rw [md_sendTo_k (by decide), md_uk (by decide), eC _ _ (by decide)]) (by rw [md_sendTo_k (by decide), md_uk (by decide), eC _ _ (by decide)])
                unfold md_resB
                rw [if_neg q1, if_pos (by omega), eN]
            refine nx_istore C d_D_resulted_224 (Nat.le_of_ble_eq_true rfl) (lo' := [_, _, _, _, _, _, some (.int _)]) rfl ?_
            refine qx_aload_n C d_D_resulted_226 rfl rfl ?_
            refine mx_gi C d_D_resulted_227 fl_D_59 rfl ?_
            refine qx_iload_n C d_D_resulted_230 rfl rfl ?_
            refine qx_iload C d_D_resulted_231 rfl ?_
            refine qx_iconst C d_D_resulted_233 (v := iI (1)) rfl ?_
            refine nx_icmp_ge C 241 d_D_resulted_234 (by decide) (by omega) (by omega) (fun q2 => ?_) (fun q2 => ?_)
            · refine qx_iload C d_D_resulted_241 rfl ?_
              exact Ny _ _ (by rw [if_neg (by omega)]) (by omega)
            · refine qx_iconst C d_D_resulted_237 (v := iI (1)) rfl ?_
              refine qx_goto C d_D_resulted_238 (tgt := 243) (by decide) ?_
              exact Ny _ _ (by rw [if_pos (by omega)]) (by omega)
          refine qx_aload_n C d_D_resulted_194 rfl rfl ?_
          refine mx_gi C d_D_resulted_195 fl_D_59 rfl ?_
          refine qx_iload_n C d_D_resulted_198 rfl rfl ?_
          refine mx_ia C I 17 25 d_D_resulted_199 (by unfold md_a; omega) rfl rfl (by omega) (by omega) ?_
          refine qx_iconst C d_D_resulted_200 (v := iI (1)) rfl ?_
          refine nx_isub C d_D_resulted_201 ?_
          refine qx_iload C d_D_resulted_202 rfl ?_
          refine qx_iconst C d_D_resulted_204 (v := iI (1)) rfl ?_
          refine nx_iadd C d_D_resulted_205 ?_
          rw [eC 17 _ (by decide)]
          refine nx_icmp_ge C 220 d_D_resulted_206 (by decide) (by omega) (by omega) (fun q2 => ?_) (fun q2 => ?_)
          · refine qx_iload C d_D_resulted_220 rfl ?_
            refine qx_iconst C d_D_resulted_222 (v := iI (1)) rfl ?_
            refine nx_iadd C d_D_resulted_223 ?_
            exact Nx _ (by unfold md_min; rw [if_neg (by omega)]) (by omega)
          · refine qx_aload_n C d_D_resulted_209 rfl rfl ?_
            refine mx_gi C d_D_resulted_210 fl_D_59 rfl ?_
            refine qx_iload_n C d_D_resulted_213 rfl rfl ?_
            refine mx_ia C I 17 25 d_D_resulted_214 (by unfold md_a; omega) rfl rfl (by omega) (by omega) ?_
            refine qx_iconst C d_D_resulted_215 (v := iI (1)) rfl ?_
            refine nx_isub C d_D_resulted_216 ?_
            refine qx_goto C d_D_resulted_217 (tgt := 224) (by decide) ?_
            rw [eC 17 _ (by decide)]
            exact Nx _ (by unfold md_min; rw [if_pos (by omega)]) (by omega)
        · have Ys : ∀ v : Int, v = md_max (A 29 4) (A 18 (5 * s + fr)) → (-1000000 ≤ v ∧ v ≤ 1000000) → X 136 [some (.ref o), some (.int (iI s)), some (.int (iI fr)), some (.int (iI (5 * s + fr))), some (.int (iI (A 29 4))), some (.int (iI q)), l6] [.int (iI v), .int (iI (5 * s + fr)), .ref (ad 18)] (md_h G o ad iv g (md_resC A s (5 * s + fr))) 0 0 := by
            intro v hv9 hvr
            have eM : md_u (md_u (md_resC A s (5 * s + fr)) 18 (5 * s + fr) v) 17 (5 * s + fr) (v + 1) = md_resM (md_resC A s (5 * s + fr)) (5 * s + fr) := by
              unfold md_resM
              rw [eC 18 _ (by decide), eC 29 _ (by decide), ← hv9]
            have lgM : md_lg A (md_resM (md_resC A s (5 * s + fr)) (5 * s + fr)) := by rw [← eM]; exact (lgC.u (by omega)).u (by omega)
            have wwM : md_ww (md_resM (md_resC A s (5 * s + fr)) (5 * s + fr)) := by rw [← eM]; exact (wwC.u (by decide) (by omega)).u (by decide) (by omega)
            have eMk : ∀ (k : Nat) (i : Int), k ≠ 17 ∧ k ≠ 18 ∧ k ≠ 19 → md_resM (md_resC A s (5 * s + fr)) (5 * s + fr) k i = A k i := fun k i h => by unfold md_resM; rw [md_uk h.1, md_uk h.2.1, eC k i h.2.2]
            have eM17 : md_resM (md_resC A s (5 * s + fr)) (5 * s + fr) 17 (5 * s + fr) = v + 1 := by rw [← eM]; exact md_us
            refine mx_is C I 18 25 d_D_resulted_136 (by unfold md_a; omega) rfl rfl (by omega) (by omega) ?_
            refine qx_aload_n C d_D_resulted_137 rfl rfl ?_
            refine mx_gi C d_D_resulted_138 fl_D_59 rfl ?_
            refine qx_iload_n C d_D_resulted_141 rfl rfl ?_
            refine qx_aload_n C d_D_resulted_142 rfl rfl ?_
            refine mx_gi C d_D_resulted_143 fl_D_62 rfl ?_
            refine qx_iload_n C d_D_resulted_146 rfl rfl ?_
            refine mx_ia C I 18 25 d_D_resulted_147 (by unfold md_a; omega) rfl rfl (by omega) (by omega) ?_
            rw [md_us]
            refine qx_iconst C d_D_resulted_148 (v := iI (1)) rfl ?_
            refine nx_iadd C d_D_resulted_149 ?_
            refine mx_is C I 17 25 d_D_resulted_150 (by unfold md_a; omega) rfl rfl (by omega) (by omega) ?_
            refine qx_aload_n C d_D_resulted_151 rfl rfl ?_
            refine qx_iload_n C d_D_resulted_152 rfl rfl ?_
            rw [eM]
            refine nx_callv C (s_D_resulted_153 md_o) (m_lookAtCommit l G b I g (lgM.B hsB) wwM (by rw [lgM.config]; exact hcf) (by rw [eMk _ _ (by decide)]; exact hT.cm) (by rw [eMk _ _ (by decide)]; exact hv.2) d) w_D_lookAtCommit rfl rfl (Nat.le_of_ble_eq_true rfl) (by omega) (by decide) ?_
            have hcm2 := hT.cm
            have lgE : md_lg A (md_look (md_resM (md_resC A s (5 * s + fr)) (5 * s + fr)) s) := fun k y1 y2 => by
              rw [← lgM k y1 y2]
              exact md_look_lg _ _ k y1 y2
            have wwE := md_look_ww wwM (lgM.B hsB) (by rw [eMk _ _ (by decide)]; exact hcm2)
            have eE : ∀ (k : Nat) (i : Int), (k ≠ 13 ∧ k ≠ 14 ∧ k ≠ 25) → (k ≠ 17 ∧ k ≠ 18 ∧ k ≠ 19) → md_look (md_resM (md_resC A s (5 * s + fr)) (5 * s + fr)) s k i = A k i := fun k i y1 y2 => by rw [md_look_k y1, eMk k i y2]
            have eE17 : md_look (md_resM (md_resC A s (5 * s + fr)) (5 * s + fr)) s 17 (5 * s + fr) = v + 1 := by rw [md_look_k (by decide)]; exact eM17
            have hE14 : A 4 s ≤ md_look (md_resM (md_resC A s (5 * s + fr)) (5 * s + fr)) s 14 s ∧ md_look (md_resM (md_resC A s (5 * s + fr)) (5 * s + fr)) s 14 s ≤ md_last A s := by
              have y := md_look_14 (md_resM (md_resC A s (5 * s + fr)) (5 * s + fr)) s (by rw [lgM.last, eMk _ _ (by decide)]; exact hcm.2)
              rw [lgM.last, eMk _ _ (by decide)] at y
              omega
            have hEr := wwE.1 13 s
            have F9 : ∀ l6' : Option Value, ¬ (md_look (md_resM (md_resC A s (5 * s + fr)) (5 * s + fr)) s 13 s = 3 ∧ md_look (md_resM (md_resC A s (5 * s + fr)) (5 * s + fr)) s 17 (5 * s + fr) ≤ md_last A s ∧ bit (md_config A s) fr = 1) → X 255 [some (.ref o), some (.int (iI s)), some (.int (iI fr)), some (.int (iI (5 * s + fr))), some (.int (iI (A 29 4))), some (.int (iI q)), l6'] [] (md_h G o ad iv g (md_look (md_resM (md_resC A s (5 * s + fr)) (5 * s + fr)) s)) 0 0 := by
              intro l6' hnot
              refine Fin _ _ _ _ _ ?_ lgE wwE (by rw [eE _ _ (by decide) (by decide)]; exact hv.2) hE14 (fun i => eE _ _ (by decide) (by decide)) (eE _ _ (by decide) (by decide))
              unfold md_resB md_resY
              rw [if_pos q1, lgC.last, if_neg hnot]
            refine qx_aload_n C d_D_resulted_156 rfl rfl ?_
            refine mx_gi C d_D_resulted_157 fl_D_47 rfl ?_
            refine qx_iload_n C d_D_resulted_160 rfl rfl ?_
            refine mx_ia C I 13 5 d_D_resulted_161 (by unfold md_a; omega) rfl rfl (by omega) (by omega) ?_
            refine qx_iconst C d_D_resulted_162 (v := iI (3)) rfl ?_
            refine nx_icmp_ne C 255 d_D_resulted_163 (by decide) (by omega) (by omega) (fun y1 => ?_) (fun y1 => ?_)
            · exact F9 _ (fun z => y1 z.1)
            · refine qx_aload_n C d_D_resulted_166 rfl rfl ?_
              refine mx_gi C d_D_resulted_167 fl_D_59 rfl ?_
              refine qx_iload_n C d_D_resulted_170 rfl rfl ?_
              refine mx_ia C I 17 25 d_D_resulted_171 (by unfold md_a; omega) rfl rfl (by omega) (by omega) ?_
              refine qx_aload_n C d_D_resulted_172 rfl rfl ?_
              refine qx_iload_n C d_D_resulted_173 rfl rfl ?_
              refine nx_call0 C (s_D_resulted_174 md_o) (m_last l G b I g (lgE.B hsB) d) w_D_last rfl rfl (Nat.le_of_ble_eq_true rfl) (by omega) (by decide) ?_
              rw [lgE.last, eE17]
              refine nx_icmp_gt C 255 d_D_resulted_177 (by decide) (by omega) (by omega) (fun y2 => ?_) (fun y2 => ?_)
              · exact F9 _ (by rw [eE17]; omega)
              · refine qx_iload C d_D_resulted_180 rfl ?_
                refine nx_if_eq C 255 d_D_resulted_182 (by decide) (by omega) (fun y3 => ?_) (fun y3 => ?_)
                · exact F9 _ (by omega)
                · refine qx_aload_n C d_D_resulted_185 rfl rfl ?_
                  refine qx_iload_n C d_D_resulted_186 rfl rfl ?_
                  refine qx_iload_n C d_D_resulted_187 rfl rfl ?_
                  refine nx_callv C (s_D_resulted_188 md_o) (m_sendTo l G b I g (lgE.B hsB) hf wwE (by rw [eE17]; omega) d) w_D_sendTo rfl rfl (Nat.le_of_ble_eq_true rfl) (by omega) (by decide) ?_
                  refine qx_goto C d_D_resulted_191 (tgt := 255) (by decide) ?_
                  have lg2 : md_lg A (md_sendTo (md_look (md_resM (md_resC A s (5 * s + fr)) (5 * s + fr)) s) s fr) := fun k x1 x2 => by
                    rw [← lgE k x1 x2]
                    exact md_sendTo_lg _ _ _ k x1 x2
                  refine Fin _ _ _ _ _ ?_ lg2 (md_sendTo_ww wwE (by omega) (by omega) (by rw [eE17]; omega)) (by rw [md_sendTo_k (by decide), eE _ _ (by decide) (by decide)]; exact hv.2) (by rw [md_sendTo_k (by decide)]; exact hE14) (fun i => by rw [md_sendTo_k (by decide), eE _ _ (by decide) (by decide)]) (by rw [md_sendTo_k (by decide), eE _ _ (by decide) (by decide)])
                  unfold md_resB md_resY
                  rw [if_pos q1, lgC.last, if_pos ⟨y1, by rw [eE17]; omega, by omega⟩]
          refine qx_aload_n C d_D_resulted_109 rfl rfl ?_
          refine mx_gi C d_D_resulted_110 fl_D_62 rfl ?_
          refine qx_iload_n C d_D_resulted_113 rfl rfl ?_
          refine qx_iload C d_D_resulted_114 rfl ?_
          refine qx_aload_n C d_D_resulted_116 rfl rfl ?_
          refine mx_gi C d_D_resulted_117 fl_D_62 rfl ?_
          refine qx_iload_n C d_D_resulted_120 rfl rfl ?_
          refine mx_ia C I 18 25 d_D_resulted_121 (by unfold md_a; omega) rfl rfl (by omega) (by omega) ?_
          rw [eC 18 _ (by decide)]
          refine nx_icmp_le C 130 d_D_resulted_122 (by decide) (by omega) (by omega) (fun q2 => ?_) (fun q2 => ?_)
          · refine qx_aload_n C d_D_resulted_130 rfl rfl ?_
            refine mx_gi C d_D_resulted_131 fl_D_62 rfl ?_
            refine qx_iload_n C d_D_resulted_134 rfl rfl ?_
            refine mx_ia C I 18 25 d_D_resulted_135 (by unfold md_a; omega) rfl rfl (by omega) (by omega) ?_
            rw [eC 18 _ (by decide)]
            exact Ys _ (by unfold md_max; rw [if_neg (by omega)]) (by omega)
          · refine qx_iload C d_D_resulted_125 rfl ?_
            refine qx_goto C d_D_resulted_127 (tgt := 136) (by decide) ?_
            exact Ys _ (by unfold md_max; rw [if_pos (by omega)]) (by omega)
      have Cf : ∀ v : Int, v = md_max (A 29 9) (A 19 (5 * s + fr)) → X 77 [some (.ref o), some (.int (iI s)), some (.int (iI fr)), some (.int (iI (5 * s + fr))), some (.int (iI (A 29 4))), none, none] [.int (iI v), .int (iI (5 * s + fr)), .ref (ad 19)] (md_h G o ad iv g A) 0 0 := by
        intro v hv9
        refine mx_is C I 19 25 d_D_resulted_77 (by unfold md_a; omega) rfl rfl (by omega) (by omega) ?_
        refine qx_aload_n C d_D_resulted_78 rfl rfl ?_
        refine qx_iload_n C d_D_resulted_79 rfl rfl ?_
        rw [show md_u A 19 (5 * s + fr) v = md_resC A s (5 * s + fr) by unfold md_resC; rw [hv9]]
        refine nx_call0 C (s_D_resulted_80 md_o) (m_config l G b I g wwC.1 (lgC.B hsB) d) w_D_config rfl rfl (Nat.le_of_ble_eq_true rfl) (by omega) (by decide) ?_
        rw [lgC.config]
        refine qx_iload_n C d_D_resulted_83 rfl rfl ?_
        refine nx_bit C d_D_resulted_84 d_D_resulted_85 d_D_resulted_86 (by omega) (by omega) ?_
        refine qx_iconst C d_D_resulted_87 (v := iI (1)) rfl ?_
        refine nx_icmp_ne C 95 d_D_resulted_88 (by decide) (by omega) (by omega) (fun q1 => ?_) (fun q1 => ?_)
        · refine qx_iconst C d_D_resulted_95 (v := iI (0)) rfl ?_
          exact Mid 0 _ (Or.inl rfl) (by omega)
        · refine qx_iconst C d_D_resulted_91 (v := iI (1)) rfl ?_
          refine qx_goto C d_D_resulted_92 (tgt := 96) (by decide) ?_
          exact Mid 1 _ (Or.inr rfl) (by omega)
      refine qx_iconst C d_D_resulted_26 (v := iI (5)) rfl ?_
      refine qx_iload_n C d_D_resulted_27 rfl rfl ?_
      refine nx_imul C d_D_resulted_28 ?_
      refine qx_iload_n C d_D_resulted_29 rfl rfl ?_
      refine nx_iadd C d_D_resulted_30 ?_
      refine nx_istore_n C d_D_resulted_31 rfl (Nat.le_of_ble_eq_true rfl) (lo' := [_, _, _, some (.int _), _, _, _]) rfl ?_
      refine qx_aload_n C d_D_resulted_32 rfl rfl ?_
      refine mx_gi C d_D_resulted_33 fl_D_89 rfl ?_
      refine qx_iconst C d_D_resulted_36 (v := iI (4)) rfl ?_
      refine mx_ia C I 29 20 d_D_resulted_37 (by unfold md_a; omega) rfl rfl (by omega) (by omega) ?_
      refine nx_istore C d_D_resulted_38 (Nat.le_of_ble_eq_true rfl) (lo' := [_, _, _, _, some (.int _), _, _]) rfl ?_
      refine qx_aload_n C d_D_resulted_40 rfl rfl ?_
      refine mx_gi C d_D_resulted_41 fl_D_65 rfl ?_
      refine qx_iload_n C d_D_resulted_44 rfl rfl ?_
      refine qx_aload_n C d_D_resulted_45 rfl rfl ?_
      refine mx_gi C d_D_resulted_46 fl_D_89 rfl ?_
      refine qx_bipush C d_D_resulted_49 (v := iI (9)) (by decide) ?_
      refine mx_ia C I 29 20 d_D_resulted_51 (by unfold md_a; omega) rfl rfl (by omega) (by omega) ?_
      refine qx_aload_n C d_D_resulted_52 rfl rfl ?_
      refine mx_gi C d_D_resulted_53 fl_D_65 rfl ?_
      refine qx_iload_n C d_D_resulted_56 rfl rfl ?_
      refine mx_ia C I 19 25 d_D_resulted_57 (by unfold md_a; omega) rfl rfl (by omega) (by omega) ?_
      refine nx_icmp_le C 71 d_D_resulted_58 (by decide) (by omega) (by omega) (fun q1 => ?_) (fun q1 => ?_)
      · refine qx_aload_n C d_D_resulted_71 rfl rfl ?_
        refine mx_gi C d_D_resulted_72 fl_D_65 rfl ?_
        refine qx_iload_n C d_D_resulted_75 rfl rfl ?_
        refine mx_ia C I 19 25 d_D_resulted_76 (by unfold md_a; omega) rfl rfl (by omega) (by omega) ?_
        exact Cf _ (by unfold md_max; rw [if_neg (by omega)])
      · refine qx_aload_n C d_D_resulted_61 rfl rfl ?_
        refine mx_gi C d_D_resulted_62 fl_D_89 rfl ?_
        refine qx_bipush C d_D_resulted_65 (v := iI (9)) (by decide) ?_
        refine mx_ia C I 29 20 d_D_resulted_67 (by unfold md_a; omega) rfl rfl (by omega) (by omega) ?_
        refine qx_goto C d_D_resulted_68 (tgt := 77) (by decide) ?_
        exact Cf _ (by unfold md_max; rw [if_pos (by omega)])
    · exact F0 (fun z => z2 z.2)
/-- message k taken out of the mail -/
def md_get (A : md_A) (k : Int) : md_A := md_take (md_w A 29 0 20 (fun x => A 28 (20 * k + x))) k
/-- the receiver enters the message's term -/
def md_in (B : md_A) : md_A := if 1 < B 29 0 ∧ B 2 (B 29 2) < B 29 3 then md_newTerm B (B 29 2) (B 29 3) else B
noncomputable def md_come (A : md_A) (s kind : Int) : md_A := if kind = 0 then md_ques A s (A 29 1) (A 29 3) else if kind = 1 then md_ans A s (A 29 1) (A 29 3) else if kind = 2 then md_called A s (A 29 1) (A 29 3) else if kind = 3 then md_voted A s (A 29 1) (A 29 3) else if kind = 4 then md_app A s (A 29 1) else if kind = 5 then md_res A s (A 29 1) else md_ins A s (A 29 1)
noncomputable def md_deliver (A : md_A) (k : Int) : md_A := if md_get A k 1 (md_get A k 29 2) = 0 then md_come (md_in (md_get A k)) (md_get A k 29 2) (md_get A k 29 0) else md_get A k
/-- what a handler asks of the state behind the message's term -/
def md_DQ (A : md_A) (s : Int) : Prop := md_V A ∧ md_T A s ∧ md_nx A s ∧ md_Hk A ∧ ((A 13 s = 1 ∨ A 13 s = 2) → A 8 s < 48) ∧ (0 ≤ A 29 4 ∧ A 29 4 ≤ 1000000) ∧ (0 ≤ A 29 7 ∧ A 29 7 ≤ 2) ∧ 0 ≤ A 29 5 ∧ A 18 (5 * s + A 29 1) ≤ 1000000
def md_DP (B : md_A) : Prop := (0 ≤ B 29 0 ∧ B 29 0 ≤ 6) ∧ (0 ≤ B 29 1 ∧ B 29 1 < 5) ∧ (0 ≤ B 29 2 ∧ B 29 2 < 5) ∧ md_V B ∧ (B 1 (B 29 2) = 0 → md_DQ (md_in B) (B 29 2))
theorem md_newTerm_k {A : md_A} {s t i : Int} {k : Nat} (h : k ≠ 2 ∧ k ≠ 3 ∧ k ≠ 13 ∧ k ≠ 25) : md_newTerm A s t k i = A k i := by
  unfold md_newTerm
  rw [md_follow_k ⟨h.2.2.1, h.2.2.2⟩, md_uk h.2.1, md_uk h.1]
theorem md_in_k {B : md_A} {i : Int} {k : Nat} (h : k ≠ 2 ∧ k ≠ 3 ∧ k ≠ 13 ∧ k ≠ 25) : md_in B k i = B k i := by
  unfold md_in
  split
  · exact md_newTerm_k h
  · rfl
set_option maxRecDepth 100000 in
set_option maxHeartbeats 1000000 in
theorem m_deliver (l : Launch) (G : qh_G) (b : Nat) {o : Nat} {ad : Nat → Nat} {iv : Nat → Option Nat} (I : md_I o ad iv) (g : qh_H) {A : md_A} {k : Int} (hk : rng k) (hv : md_V (md_c0 A)) (hm : 0 ≤ k → k < md_c0 A 27 0 → md_DP (md_get (md_c0 A) k)) {r : Int} {A2 : md_A} (hr : ((0 ≤ k ∧ k < md_c0 A 27 0) → r = md_get (md_c0 A) k 29 0 ∧ A2 = md_deliver (md_c0 A) k) ∧ (¬ (0 ≤ k ∧ k < md_c0 A 27 0) → r = -1 ∧ A2 = md_c0 A)) (d : Nat) : qj l y_D_deliver c_D_deliver 4 (some .int) (d + 11) 0 0 G b [.ref o, .int (iI k)] (md_h G o ad iv g A) r (md_h G o ad iv g A2) := by
  refine qx_of (lo := [some (.ref o), some (.int (iI k)), none, none]) (by decide) (fun w hw => List.mem_cons_of_mem _ hw) rfl (Nat.le_of_ble_eq_true rfl) rfl ?_
  intro X C
  have F : ¬ (0 ≤ k ∧ k < md_c0 A 27 0) → X 17 [some (.ref o), some (.int (iI k)), none, none] [] (md_h G o ad iv g (md_c0 A)) 0 0 := by
    intro h
    obtain ⟨rfl, rfl⟩ := hr.2 h
    refine qx_iconst C d_D_deliver_17 (v := iI (-1)) rfl ?_
    refine qx_iret C d_D_deliver_18 (Nat.zero_le _) (Nat.zero_le _) ⟨_, rfl, ?_, rfl⟩
    rfl
  refine qx_aload_n C d_D_deliver_0 rfl rfl ?_
  refine qx_iconst C d_D_deliver_1 (v := iI (0)) rfl ?_
  refine mx_pi C I d_D_deliver_2 fp_D_92 (by decide) ?_
  refine qx_iload_n C d_D_deliver_5 rfl rfl ?_
  rw [show md_u A 0 0 0 = md_c0 A from rfl]
  refine nx_if_lt C 17 d_D_deliver_6 (by decide) (by omega) (fun z1 => ?_) (fun z1 => ?_)
  · exact F (by omega)
  · refine qx_iload_n C d_D_deliver_9 rfl rfl ?_
    refine qx_aload_n C d_D_deliver_10 rfl rfl ?_
    refine mx_gi C d_D_deliver_11 fl_D_119 rfl ?_
    refine nx_icmp_lt C 19 d_D_deliver_14 (by decide) (by omega) (by omega) (fun z2 => ?_) (fun z2 => ?_)
    · obtain ⟨rfl, rfl⟩ := hr.1 ⟨by omega, z2⟩
      obtain ⟨hkd, hfr, hto, hV, hQ⟩ := hm (by omega) z2
      have Lp : ∀ (r0 : Nat) (q : Int) (D : md_A), q + r0 = 20 → 0 ≤ q → D = md_w (md_c0 A) 29 0 q (fun x => md_c0 A 28 (20 * k + x)) → X 21 [some (.ref o), some (.int (iI k)), some (.int (iI q)), none] [] (md_h G o ad iv g D) 0 0 := by
        intro r0
        induction r0 with
        | zero =>
          intro q D hq h0 hD
          have eG : md_take D k = md_get (md_c0 A) k := by unfold md_get; rw [hD, show q = 20 by omega]
          have e27 : D 27 0 = md_c0 A 27 0 := by rw [hD]; exact md_wk (by decide)
          generalize hBe : md_get (md_c0 A) k = B at *
          have e1 : md_deliver (md_c0 A) k = if B 1 (B 29 2) = 0 then md_come (md_in B) (B 29 2) (B 29 0) else B := by unfold md_deliver; rw [hBe]
          have h1r := hV.1.1 1 (B 29 2)
          have h3r := hV.1.1 29 3
          have h2r := hV.1.1 2 (B 29 2)
          refine qx_iload_n C d_D_deliver_21 rfl rfl ?_
          refine qx_bipush C d_D_deliver_22 (v := iI (20)) (by decide) ?_
          refine nx_icmp_ge C 50 d_D_deliver_24 (by decide) (by omega) (by omega) (fun y1 => ?_) (fun y1 => ?_)
          · refine qx_aload_n C d_D_deliver_50 rfl rfl ?_
            refine qx_iload_n C d_D_deliver_51 rfl rfl ?_
            refine nx_callv C (s_D_deliver_52 md_o) (m_takeOut l G b I g ⟨by omega, by omega⟩ (by omega) d) w_D_takeOut rfl rfl (Nat.le_of_ble_eq_true rfl) (by omega) (by decide) ?_
            rw [eG]
            refine qx_aload_n C d_D_deliver_55 rfl rfl ?_
            refine mx_gi C d_D_deliver_56 fl_D_89 rfl ?_
            refine qx_iconst C d_D_deliver_59 (v := iI (0)) rfl ?_
            refine mx_ia C I 29 20 d_D_deliver_60 (by unfold md_a; omega) rfl rfl (by omega) (by omega) ?_
            refine nx_istore_n C d_D_deliver_61 rfl (Nat.le_of_ble_eq_true rfl) (lo' := [_, _, some (.int _), _]) rfl ?_
            refine qx_aload_n C d_D_deliver_62 rfl rfl ?_
            refine mx_gi C d_D_deliver_63 fl_D_89 rfl ?_
            refine qx_iconst C d_D_deliver_66 (v := iI (2)) rfl ?_
            refine mx_ia C I 29 20 d_D_deliver_67 (by unfold md_a; omega) rfl rfl (by omega) (by omega) ?_
            refine nx_istore_n C d_D_deliver_68 rfl (Nat.le_of_ble_eq_true rfl) (lo' := [_, _, _, some (.int _)]) rfl ?_
            refine qx_aload_n C d_D_deliver_69 rfl rfl ?_
            refine mx_gi C d_D_deliver_70 fl_D_7 rfl ?_
            refine qx_iload_n C d_D_deliver_73 rfl rfl ?_
            refine mx_za C I 1 5 d_D_deliver_74 (by unfold md_a; omega) rfl rfl (by omega) (by omega) ?_
            refine nx_if_eq C 80 d_D_deliver_75 (by decide) (by omega) (fun y2 => ?_) (fun y2 => ?_)
            · obtain ⟨qV, qT, qn, qk, qz, q4, q7, q5, q18⟩ := hQ y2
              rw [if_pos y2] at e1
              rw [e1] at C
              have e29 : ∀ x, md_in B 29 x = B 29 x := fun x => md_in_k (by decide)
              have hfr2 : 0 ≤ md_in B 29 1 ∧ md_in B 29 1 < 5 := by rw [e29]; exact hfr
              have t3 := qV.1.1 29 3
              have f1 := qV.1.1 29 1
              have qTB := qT.1
              have qc := qT.2.2.1
              have End : ∀ (D : md_A) (l3 : Option Value), D = md_come (md_in B) (B 29 2) (B 29 0) → X 271 [some (.ref o), some (.int (iI k)), some (.int (iI (B 29 0))), l3] [] (md_h G o ad iv g D) 0 0 := by
                intro D l3 hDD
                subst hDD
                refine qx_iload_n C d_D_deliver_271 rfl rfl ?_
                refine qx_iret C d_D_deliver_272 (Nat.zero_le _) (Nat.zero_le _) ⟨_, rfl, ?_, rfl⟩
                rfl
              have Sw : X 111 [some (.ref o), some (.int (iI k)), some (.int (iI (B 29 0))), some (.int (iI (B 29 2)))] [] (md_h G o ad iv g (md_in B)) 0 0 := by
                refine qx_iload_n C d_D_deliver_111 rfl rfl ?_
                have hcs : B 29 0 = 0 ∨ B 29 0 = 1 ∨ B 29 0 = 2 ∨ B 29 0 = 3 ∨ B 29 0 = 4 ∨ B 29 0 = 5 ∨ B 29 0 = 6 := by omega
                rcases hcs with hk0 | hk0 | hk0 | hk0 | hk0 | hk0 | hk0
                · rw [hk0]
                  refine qx_tabIn C d_D_deliver_112 (off := 40) (tgt := 152) (by decide) (by decide) (by decide) (by decide) ?_
                  refine qx_aload_n C d_D_deliver_152 rfl rfl ?_
                  refine qx_iload_n C d_D_deliver_153 rfl rfl ?_
                  refine qx_aload_n C d_D_deliver_154 rfl rfl ?_
                  refine mx_gi C d_D_deliver_155 fl_D_89 rfl ?_
                  refine qx_iconst C d_D_deliver_158 (v := iI (1)) rfl ?_
                  refine mx_ia C I 29 20 d_D_deliver_159 (by unfold md_a; omega) rfl rfl (by omega) (by omega) ?_
                  refine qx_aload_n C d_D_deliver_160 rfl rfl ?_
                  refine mx_gi C d_D_deliver_161 fl_D_89 rfl ?_
                  refine qx_iconst C d_D_deliver_164 (v := iI (3)) rfl ?_
                  refine mx_ia C I 29 20 d_D_deliver_165 (by unfold md_a; omega) rfl rfl (by omega) (by omega) ?_
                  refine nx_callv C (s_D_deliver_166 md_o) (m_question l G b I g qT.1 qV.1 t3 d) w_D_question rfl rfl (Nat.le_of_ble_eq_true rfl) (by omega) (by decide) ?_
                  refine qx_goto C d_D_deliver_169 (tgt := 271) (by decide) ?_
                  have E0 := End
                  rw [hk0] at E0
                  exact E0 _ _ (by unfold md_come; rw [if_pos rfl])
                · rw [hk0]
                  refine qx_tabIn C d_D_deliver_112 (off := 60) (tgt := 172) (by decide) (by decide) (by decide) (by decide) ?_
                  refine qx_aload_n C d_D_deliver_172 rfl rfl ?_
                  refine qx_iload_n C d_D_deliver_173 rfl rfl ?_
                  refine qx_aload_n C d_D_deliver_174 rfl rfl ?_
                  refine mx_gi C d_D_deliver_175 fl_D_89 rfl ?_
                  refine qx_iconst C d_D_deliver_178 (v := iI (1)) rfl ?_
                  refine mx_ia C I 29 20 d_D_deliver_179 (by unfold md_a; omega) rfl rfl (by omega) (by omega) ?_
                  refine qx_aload_n C d_D_deliver_180 rfl rfl ?_
                  refine mx_gi C d_D_deliver_181 fl_D_89 rfl ?_
                  refine qx_iconst C d_D_deliver_184 (v := iI (3)) rfl ?_
                  refine mx_ia C I 29 20 d_D_deliver_185 (by unfold md_a; omega) rfl rfl (by omega) (by omega) ?_
                  refine nx_callv C (s_D_deliver_186 md_o) (m_answered l G b I g qT (fun z => qz (Or.inl z)) qV qn t3 hfr2 d) w_D_answered rfl rfl (Nat.le_of_ble_eq_true rfl) (by omega) (by decide) ?_
                  refine qx_goto C d_D_deliver_189 (tgt := 271) (by decide) ?_
                  have E0 := End
                  rw [hk0] at E0
                  exact E0 _ _ (by unfold md_come; rw [if_neg (by decide), if_pos rfl])
                · rw [hk0]
                  refine qx_tabIn C d_D_deliver_112 (off := 80) (tgt := 192) (by decide) (by decide) (by decide) (by decide) ?_
                  refine qx_aload_n C d_D_deliver_192 rfl rfl ?_
                  refine qx_iload_n C d_D_deliver_193 rfl rfl ?_
                  refine qx_aload_n C d_D_deliver_194 rfl rfl ?_
                  refine mx_gi C d_D_deliver_195 fl_D_89 rfl ?_
                  refine qx_iconst C d_D_deliver_198 (v := iI (1)) rfl ?_
                  refine mx_ia C I 29 20 d_D_deliver_199 (by unfold md_a; omega) rfl rfl (by omega) (by omega) ?_
                  refine qx_aload_n C d_D_deliver_200 rfl rfl ?_
                  refine mx_gi C d_D_deliver_201 fl_D_89 rfl ?_
                  refine qx_iconst C d_D_deliver_204 (v := iI (3)) rfl ?_
                  refine mx_ia C I 29 20 d_D_deliver_205 (by unfold md_a; omega) rfl rfl (by omega) (by omega) ?_
                  refine nx_callv C (s_D_deliver_206 md_o) (m_called l G b I g qT.1 qV.1 t3 f1 d) w_D_called rfl rfl (Nat.le_of_ble_eq_true rfl) (by omega) (by decide) ?_
                  refine qx_goto C d_D_deliver_209 (tgt := 271) (by decide) ?_
                  have E0 := End
                  rw [hk0] at E0
                  exact E0 _ _ (by unfold md_come; rw [if_neg (by decide), if_neg (by decide), if_pos rfl])
                · rw [hk0]
                  refine qx_tabIn C d_D_deliver_112 (off := 100) (tgt := 212) (by decide) (by decide) (by decide) (by decide) ?_
                  refine qx_aload_n C d_D_deliver_212 rfl rfl ?_
                  refine qx_iload_n C d_D_deliver_213 rfl rfl ?_
                  refine qx_aload_n C d_D_deliver_214 rfl rfl ?_
                  refine mx_gi C d_D_deliver_215 fl_D_89 rfl ?_
                  refine qx_iconst C d_D_deliver_218 (v := iI (1)) rfl ?_
                  refine mx_ia C I 29 20 d_D_deliver_219 (by unfold md_a; omega) rfl rfl (by omega) (by omega) ?_
                  refine qx_aload_n C d_D_deliver_220 rfl rfl ?_
                  refine mx_gi C d_D_deliver_221 fl_D_89 rfl ?_
                  refine qx_iconst C d_D_deliver_224 (v := iI (3)) rfl ?_
                  refine mx_ia C I 29 20 d_D_deliver_225 (by unfold md_a; omega) rfl rfl (by omega) (by omega) ?_
                  refine nx_callv C (s_D_deliver_226 md_o) (m_voted l G b I g qT (fun z => qz (Or.inr z)) qV qn t3 hfr2 d) w_D_voted rfl rfl (Nat.le_of_ble_eq_true rfl) (by omega) (by decide) ?_
                  refine qx_goto C d_D_deliver_229 (tgt := 271) (by decide) ?_
                  have E0 := End
                  rw [hk0] at E0
                  exact E0 _ _ (by unfold md_come; rw [if_neg (by decide), if_neg (by decide), if_neg (by decide), if_pos rfl])
                · rw [hk0]
                  refine qx_tabIn C d_D_deliver_112 (off := 120) (tgt := 232) (by decide) (by decide) (by decide) (by decide) ?_
                  refine qx_aload_n C d_D_deliver_232 rfl rfl ?_
                  refine qx_iload_n C d_D_deliver_233 rfl rfl ?_
                  refine qx_aload_n C d_D_deliver_234 rfl rfl ?_
                  refine mx_gi C d_D_deliver_235 fl_D_89 rfl ?_
                  refine qx_iconst C d_D_deliver_238 (v := iI (1)) rfl ?_
                  refine mx_ia C I 29 20 d_D_deliver_239 (by unfold md_a; omega) rfl rfl (by omega) (by omega) ?_
                  refine nx_callv C (s_D_deliver_240 md_o) (m_appended l G b I g qT.1 qV.1 qV.2 (by omega) q7 d) w_D_appended rfl rfl (Nat.le_of_ble_eq_true rfl) (by omega) (by decide) ?_
                  refine qx_goto C d_D_deliver_243 (tgt := 271) (by decide) ?_
                  have E0 := End
                  rw [hk0] at E0
                  exact E0 _ _ (by unfold md_come; rw [if_neg (by decide), if_neg (by decide), if_neg (by decide), if_neg (by decide), if_pos rfl])
                · rw [hk0]
                  refine qx_tabIn C d_D_deliver_112 (off := 134) (tgt := 246) (by decide) (by decide) (by decide) (by decide) ?_
                  refine qx_aload_n C d_D_deliver_246 rfl rfl ?_
                  refine qx_iload_n C d_D_deliver_247 rfl rfl ?_
                  refine qx_aload_n C d_D_deliver_248 rfl rfl ?_
                  refine mx_gi C d_D_deliver_249 fl_D_89 rfl ?_
                  refine qx_iconst C d_D_deliver_252 (v := iI (1)) rfl ?_
                  refine mx_ia C I 29 20 d_D_deliver_253 (by unfold md_a; omega) rfl rfl (by omega) (by omega) ?_
                  refine nx_callv C (s_D_deliver_254 md_o) (m_resulted l G b I g qT qV qn qk hfr2 (by omega) q18 d) w_D_resulted rfl rfl (Nat.le_of_ble_eq_true rfl) (by omega) (by decide) ?_
                  refine qx_goto C d_D_deliver_257 (tgt := 271) (by decide) ?_
                  have E0 := End
                  rw [hk0] at E0
                  exact E0 _ _ (by unfold md_come; rw [if_neg (by decide), if_neg (by decide), if_neg (by decide), if_neg (by decide), if_neg (by decide), if_pos rfl])
                · rw [hk0]
                  refine qx_tabOut C d_D_deliver_112 (tgt := 260) (by decide) (by decide) ?_
                  refine qx_aload_n C d_D_deliver_260 rfl rfl ?_
                  refine qx_iload_n C d_D_deliver_261 rfl rfl ?_
                  refine qx_aload_n C d_D_deliver_262 rfl rfl ?_
                  refine mx_gi C d_D_deliver_263 fl_D_89 rfl ?_
                  refine qx_iconst C d_D_deliver_266 (v := iI (1)) rfl ?_
                  refine mx_ia C I 29 20 d_D_deliver_267 (by unfold md_a; omega) rfl rfl (by omega) (by omega) ?_
                  refine nx_callv C (s_D_deliver_268 md_o) (m_installed l G b I g qT.1 qV.1 qV.2 qT.2.2.1.1 q4 q5 d) w_D_installed rfl rfl (Nat.le_of_ble_eq_true rfl) (by omega) (by decide) ?_
                  have E0 := End
                  rw [hk0] at E0
                  exact E0 _ _ (by unfold md_come; rw [if_neg (by decide), if_neg (by decide), if_neg (by decide), if_neg (by decide), if_neg (by decide), if_neg (by decide)])
              refine qx_iload_n C d_D_deliver_80 rfl rfl ?_
              refine qx_iconst C d_D_deliver_81 (v := iI (1)) rfl ?_
              refine nx_icmp_le C 111 d_D_deliver_82 (by decide) (by omega) (by omega) (fun y3 => ?_) (fun y3 => ?_)
              · have e2 : md_in B = B := by unfold md_in; rw [if_neg (by omega)]
                rw [e2] at Sw
                exact Sw
              · refine qx_aload_n C d_D_deliver_85 rfl rfl ?_
                refine mx_gi C d_D_deliver_86 fl_D_89 rfl ?_
                refine qx_iconst C d_D_deliver_89 (v := iI (3)) rfl ?_
                refine mx_ia C I 29 20 d_D_deliver_90 (by unfold md_a; omega) rfl rfl (by omega) (by omega) ?_
                refine qx_aload_n C d_D_deliver_91 rfl rfl ?_
                refine mx_gi C d_D_deliver_92 fl_D_13 rfl ?_
                refine qx_iload_n C d_D_deliver_95 rfl rfl ?_
                refine mx_ia C I 2 5 d_D_deliver_96 (by unfold md_a; omega) rfl rfl (by omega) (by omega) ?_
                refine nx_icmp_le C 111 d_D_deliver_97 (by decide) (by omega) (by omega) (fun y4 => ?_) (fun y4 => ?_)
                · have e2 : md_in B = B := by unfold md_in; rw [if_neg (by omega)]
                  rw [e2] at Sw
                  exact Sw
                · have e2 : md_in B = md_newTerm B (B 29 2) (B 29 3) := by unfold md_in; rw [if_pos (by omega)]
                  rw [e2] at Sw
                  refine qx_aload_n C d_D_deliver_100 rfl rfl ?_
                  refine qx_iload_n C d_D_deliver_101 rfl rfl ?_
                  refine qx_aload_n C d_D_deliver_102 rfl rfl ?_
                  refine mx_gi C d_D_deliver_103 fl_D_89 rfl ?_
                  refine qx_iconst C d_D_deliver_106 (v := iI (3)) rfl ?_
                  refine mx_ia C I 29 20 d_D_deliver_107 (by unfold md_a; omega) rfl rfl (by omega) (by omega) ?_
                  refine nx_callv C (s_D_deliver_108 md_o) (m_newTerm l G b I g hV.1.1 hto h3r hV.2 d) w_D_newTerm rfl rfl (Nat.le_of_ble_eq_true rfl) (by omega) (by decide) ?_
                  exact Sw
            · rw [if_neg y2] at e1
              rw [e1] at C
              refine qx_iload_n C d_D_deliver_78 rfl rfl ?_
              refine qx_iret C d_D_deliver_79 (Nat.zero_le _) (Nat.zero_le _) ⟨_, rfl, ?_, rfl⟩
              rfl
          · exact absurd y1 (by omega)
        | succ r0 ih =>
          intro q D hq h0 hD
          have eD : D 28 (20 * k + q) = md_c0 A 28 (20 * k + q) := by rw [hD]; exact md_wk (by decide)
          refine qx_iload_n C d_D_deliver_21 rfl rfl ?_
          refine qx_bipush C d_D_deliver_22 (v := iI (20)) (by decide) ?_
          refine nx_icmp_ge C 50 d_D_deliver_24 (by decide) (by omega) (by omega) (fun y1 => ?_) (fun y1 => ?_)
          · exact absurd y1 (by omega)
          · refine qx_aload_n C d_D_deliver_27 rfl rfl ?_
            refine mx_gi C d_D_deliver_28 fl_D_89 rfl ?_
            refine qx_iload_n C d_D_deliver_31 rfl rfl ?_
            refine qx_aload_n C d_D_deliver_32 rfl rfl ?_
            refine mx_gi C d_D_deliver_33 fl_D_86 rfl ?_
            refine qx_bipush C d_D_deliver_36 (v := iI (20)) (by decide) ?_
            refine qx_iload_n C d_D_deliver_38 rfl rfl ?_
            refine nx_imul C d_D_deliver_39 ?_
            refine qx_iload_n C d_D_deliver_40 rfl rfl ?_
            refine nx_iadd C d_D_deliver_41 ?_
            refine mx_ia C I 28 960 d_D_deliver_42 (by unfold md_a; omega) rfl rfl (by omega) (by omega) ?_
            refine mx_is C I 29 20 d_D_deliver_43 (by unfold md_a; omega) rfl rfl (by omega) (by omega) ?_
            refine nx_iinc C d_D_deliver_44 rfl (lo' := [_, _, some (.int _), _]) rfl ?_
            refine qx_goto C d_D_deliver_47 (tgt := 21) (by decide) ?_
            refine ih _ _ (by omega) (by omega) ?_
            rw [eD, hD]
            exact md_w_s _ 29 _ h0 rfl
      refine qx_iconst C d_D_deliver_19 (v := iI (0)) rfl ?_
      refine nx_istore_n C d_D_deliver_20 rfl (Nat.le_of_ble_eq_true rfl) (lo' := [_, _, some (.int _), _]) rfl ?_
      exact Lp 20 0 _ (by omega) (by omega) (md_w_0 _ 29 0 _).symm
    · exact F (by omega)
