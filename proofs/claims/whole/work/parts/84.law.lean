/-! the law: its loop -/
section LW
variable {l : Launch} {G : qh_G} {b : Nat} {nm : String} {post : Outcome → qh_H → Prop} {X : qw_T} {pc : Nat} {lo : List (Option Value)} {st : List Value} {h : qh_H} {k n : Nat}
abbrev lw_C (l : Launch) (G : qh_G) (b : Nat) (nm : String) (X : qw_T) : Prop := qw_C l G b "QuorumLogLaw" nm c_Z_law 7 (some .boolean) [] room_1 (fun oc _ => oc = .returned (some (.int 1))) X
theorem lw_fr {e mc' ms' nY : Nat} (he : e ≤ 13) (hnY : nY ≤ 8) (hk : k + mc' ≤ 651154 ∧ n + ms' ≤ 7142607) : (qr e mc' ms').frames + 1 ≤ room_1.frames ∧ 8 + (nY + 11) + (qr e mc' ms').locals ≤ room_1.locals ∧ k + (qr e mc' ms').cells ≤ room_1.cells ∧ n + (qr e mc' ms').slots ≤ room_1.slots := by
  refine ⟨?_, ?_, hk.1, hk.2⟩
  · show e + 1 ≤ 14; omega
  · show 8 + (nY + 11) + 32 * e ≤ 542; omega
theorem lw_cp (C : lw_C l G b nm X) {y : MethodName} {cY : ByteArray} {nY : Nat} {rY : Option FieldType} {e mc' ms' : Nat} {av rest : List Value} {r : Int} {P : qh_H → Prop} (hsite : qx_Site l G "QuorumLogLaw" c_Z_law pc y av rest h) (hM : qp l y cY nY rY e mc' ms' G b av h r P) (hy : Cond.code y cY nY rY ∈ qu_W ∧ Cond.initialized y.cls ∈ qu_W) (hst : st = av.reverse ++ rest) (hll : lo.length = 7) (hro : (rest.map fun v => v.category).sum ≤ 8) (he : e ≤ 13) (hnY : nY ≤ 8) (hk : k + mc' ≤ 651154 ∧ n + ms' ≤ 7142607) (kk : ∀ h2, P h2 → X (pc + 3) lo (.int (iI r) :: rest) h2 (k + mc') (n + ms')) : X pc lo st h k n :=
  qx_runi C hsite hM hy hst hll hro (lw_fr he hnY hk) (fun z h' hq => by obtain ⟨rfl, hq⟩ := hq; exact kk h' hq)
theorem lw_cj (C : lw_C l G b nm X) {y : MethodName} {cY : ByteArray} {nY : Nat} {rY : Option FieldType} {e mc' ms' : Nat} {av rest : List Value} {r : Int} {h2 : qh_H} (hsite : qx_Site l G "QuorumLogLaw" c_Z_law pc y av rest h) (hM : qj l y cY nY rY e mc' ms' G b av h r h2) (hy : Cond.code y cY nY rY ∈ qu_W ∧ Cond.initialized y.cls ∈ qu_W) (hst : st = av.reverse ++ rest) (hll : lo.length = 7) (hro : (rest.map fun v => v.category).sum ≤ 8) (he : e ≤ 13) (hnY : nY ≤ 8) (hk : k + mc' ≤ 651154 ∧ n + ms' ≤ 7142607) (kk : X (pc + 3) lo (.int (iI r) :: rest) h2 (k + mc') (n + ms')) : X pc lo st h k n :=
  qx_runi C hsite hM hy hst hll hro (lw_fr he hnY hk) (fun z h' hq => by obtain ⟨rfl, rfl⟩ := hq; exact kk)
theorem lw_cz (C : lw_C l G b nm X) {hh : List (Nat × Nat × Nat × Nat)} {y : MethodName} {cY : ByteArray} {nY : Nat} {rY : Option FieldType} {e mc' ms' : Nat} {av rest : List Value} {r : Int} {P : qh_H → Prop} (hsite : qx_Site l G "QuorumLogLaw" c_Z_law pc y av rest h) (hM : qx_M l y (Cond.codeWith y cY nY rY hh :: qu_W) (qr e mc' ms') G b av h (fun oc h' => lw_q oc r P h')) (hy : Cond.codeWith y cY nY rY hh ∈ qu_W ∧ Cond.initialized y.cls ∈ qu_W) (hst : st = av.reverse ++ rest) (hll : lo.length = 7) (hro : (rest.map fun v => v.category).sum ≤ 8) (he : e ≤ 13) (hnY : nY ≤ 8) (hk : k + mc' ≤ 651154 ∧ n + ms' ≤ 7142607) (kk : ∀ h2, P h2 → X (pc + 3) lo (.int (iI r) :: rest) h2 (k + mc') (n + ms')) : X pc lo st h k n :=
  qx_runW C hsite hM hy hst hll hro (lw_fr he hnY hk) (fun x h' q => by cases q.1) (fun v h' q => by obtain ⟨q1, q2⟩ := q; cases q1; exact kk h' q2)
theorem Inv.T {c0 B : Int} {A : md_A} (h : Inv c0 B A) (hB : 0 ≤ B ∧ B ≤ 90000) : ∀ x : Int, 0 ≤ x → x < 5 → md_T A x ∧ md_nx A x := fun x h0 h5 => by
  obtain ⟨s, hs, rfl⟩ := k5_ex h0 h5
  exact ⟨((h.S hB).2 s hs).1, ((h.S hB).2 s hs).2.1⟩
theorem lg_cmp_self (x : Int64) : lg_cmp x x = iI 0 := by
  unfold lg_cmp
  simp
  rfl
end LW
set_option maxRecDepth 100000 in
set_option maxHeartbeats 4000000 in
theorem law_loop {l : Launch} {G : qh_G} {b : Nat} {nm : String} {X : qw_T} (C : lw_C l G b nm X) (hf : qt_f l) {ad : Nat → Nat} {iv : Nat → Option Nat} {o : Nat} {adD : Nat → Nat} {ivD : Nat → Option Nat} {out : Nat} (hD : lw_D ad iv o adD ivD out) {c0 : Int} {sc L : Nat} (hL : L ≤ 2049) {xs : Nat → Int32}
    (hsl : ∀ (pc : Nat) (lo : List (Option Value)) (st : List Value) (h : qh_H) (k n : Nat), decode c_Z_law pc = .ok (.arraylength, 1) → X (pc + 1) lo (.int (iI L) :: st) h k n → X pc lo (.ref sc :: st) h k n)
    (hsd : ∀ (pc : Nat) (lo : List (Option Value)) (st : List Value) (h : qh_H) (k n : Nat) (j : Nat), j < L → decode c_Z_law pc = .ok (.iaload, 1) → X (pc + 1) lo (.int (iI (xs j).toInt) :: st) h k n → X pc lo (.int (iI j) :: .ref sc :: st) h k n) :
    ∀ (r it : Nat) (A : md_A) (h : qh_H) (k n : Nat) (l5 l6 : Option Value), Inv c0 (2 * it) A → lw_H G ad iv o adD ivD out A A h → L < 1 + 4 * it + 4 + 4 * r → k ≤ 300 + 2 * it → n ≤ 6000 + 12 * it → 4 * it ≤ L → X 33 [some (.ref sc), some (.ref (ad 0)), some (.ref o), some (.ref out), some (.int (iI (1 + 4 * it : Nat))), l5, l6] [] h k n := by
  have Jc := hD.1
  have JD := hD.2.1
  intro r
  induction r with
  | zero =>
    intro it A h k n l5 l6 hI hH hr hk hn hit
    refine qx_iload C d_Z_law_33 rfl ?_
    refine qx_aload_n C d_Z_law_35 rfl rfl ?_
    refine hsl _ _ _ _ _ _ d_Z_law_36 ?_
    refine qx_iconst C d_Z_law_37 (v := iI (4)) rfl ?_
    refine nx_isub C d_Z_law_38 ?_
    refine nx_icmp_gt C 780 d_Z_law_39 (by decide) (by omega) (by omega) (fun z1 => ?_) (fun z1 => ?_)
    · refine qx_iconst C d_Z_law_780 (v := iI (1)) rfl ?_
      exact qx_zret C d_Z_law_781 (by decide) (by show k ≤ 651154; omega) (by show n ≤ 7142607; omega) rfl
    · exact absurd z1 (by omega)
  | succ r ih =>
    intro it A h k n l5 l6 hI hH hr hk hn hit
    refine qx_iload C d_Z_law_33 rfl ?_
    refine qx_aload_n C d_Z_law_35 rfl rfl ?_
    refine hsl _ _ _ _ _ _ d_Z_law_36 ?_
    refine qx_iconst C d_Z_law_37 (v := iI (4)) rfl ?_
    refine nx_isub C d_Z_law_38 ?_
    refine nx_icmp_gt C 780 d_Z_law_39 (by decide) (by omega) (by omega) (fun z1 => ?_) (fun z1 => ?_)
    · refine qx_iconst C d_Z_law_780 (v := iI (1)) rfl ?_
      exact qx_zret C d_Z_law_781 (by decide) (by show k ≤ 651154; omega) (by show n ≤ 7142607; omega) rfl
    have hiL : 1 + 4 * it + 4 ≤ L := by omega
    have hit2 : 2 * (it : Int) ≤ 1100 := by omega
    -- the end of a call
    have Next : ∀ (A2 : md_A) (h2 : qh_H) (k2 n2 : Nat) (m5 m6 : Option Value), Inv c0 (2 * it + 2) A2 → lw_H G ad iv o adD ivD out A2 A2 h2 → k2 ≤ k + 2 → n2 ≤ n + 12 → X 774 [some (.ref sc), some (.ref (ad 0)), some (.ref o), some (.ref out), some (.int (iI (1 + 4 * it : Nat))), m5, m6] [] h2 k2 n2 := by
      intro A2 h2 k2 n2 m5 m6 hI2 hH2 hk2 hn2
      refine nx_iinc C d_Z_law_774 rfl (lo' := [_, _, _, _, some (.int _), _, _]) rfl ?_
      refine qx_goto C d_Z_law_777 (tgt := 33) (by decide) ?_
      rw [show ((1 + 4 * it : Nat) : Int) + 4 = ((1 + 4 * (it + 1) : Nat) : Int) by omega]
      exact ih (it + 1) A2 h2 k2 n2 m5 m6 (by rw [show 2 * ((it + 1 : Nat) : Int) = 2 * it + 2 by omega]; exact hI2) hH2 (by omega) (by omega) (by omega) (by omega)
    have hI1 : Inv c0 (2 * it) (md_c0 A) := hI.c 0 (by omega)
    have hH1 : lw_H G ad iv o adD ivD out (md_c0 A) A h := hH.c0 0
    have hS1 := hI1.S ⟨by omega, by omega⟩
    have hT1 := hI1.T ⟨by omega, by omega⟩
    have hV1 := hS1.1
    have hI1' : Inv c0 (2 * it + 2) (md_c0 A) := hI1.le (by omega)
    have hBB : (0 : Int) ≤ 2 * it ∧ 2 * (it : Int) ≤ 80000 := by omega
    have rg := fun j : Nat => rng_of (xs j)
    have Ld : ∀ (pc : Nat) (st : List Value) (h : qh_H) (k n : Nat) (m5 m6 : Option Value) (j : Nat), 1 ≤ j → j ≤ 3 → decode c_Z_law pc = .ok (.iaload, 1) → X (pc + 1) [some (.ref sc), some (.ref (ad 0)), some (.ref o), some (.ref out), some (.int (iI (1 + 4 * it : Nat))), m5, m6] (.int (iI (xs (1 + 4 * it + j)).toInt) :: st) h k n → X pc [some (.ref sc), some (.ref (ad 0)), some (.ref o), some (.ref out), some (.int (iI (1 + 4 * it : Nat))), m5, m6] (.int (iI (((1 + 4 * it : Nat) : Int) + j)) :: .ref sc :: st) h k n := fun pc st h k n m5 m6 j j1 j3 hd kk => by
      rw [show ((1 + 4 * it : Nat) : Int) + j = ((1 + 4 * it + j : Nat) : Int) by omega]
      exact hsd pc _ st h k n (1 + 4 * it + j) (by omega) hd kk
    refine qx_aload_n C d_Z_law_42 rfl rfl ?_
    refine qx_iload C d_Z_law_43 rfl ?_
    refine hsd _ _ _ _ _ _ _ (by omega) d_Z_law_45 ?_
    rw [iI_of]
    obtain ⟨u, hu⟩ := iI_un (xs (1 + 4 * it))
    rw [← hu]
    refine qx_bipush C d_Z_law_46 (v := iI (31)) (by decide) ?_
    refine qx_iand C d_Z_law_48 ?_
    obtain ⟨a1, a2⟩ := and31 u
    rw [a1]
    clear a1 hu
    generalize ia (u : Int) 31 = sw at a2
    clear u
    by_cases hd17 : sw < 0 ∨ 16 < sw
    · refine qx_tabOut C d_Z_law_49 (tgt := 774) (by rw [iI_toInt (by omega)]; exact hd17) (by decide) ?_
      exact Next A _ _ _ _ _ (hI.le (by omega)) hH (by omega) (by omega)
    have hsw : sw = 0 ∨ sw = 1 ∨ sw = 2 ∨ sw = 3 ∨ sw = 4 ∨ sw = 5 ∨ sw = 6 ∨ sw = 7 ∨ sw = 8 ∨ sw = 9 ∨ sw = 10 ∨ sw = 11 ∨ sw = 12 ∨ sw = 13 ∨ sw = 14 ∨ sw = 15 ∨ sw = 16 := by omega
    rcases hsw with rfl | rfl | rfl | rfl | rfl | rfl | rfl | rfl | rfl | rfl | rfl | rfl | rfl | rfl | rfl | rfl | rfl
    · refine qx_tabIn C d_Z_law_49 (off := 83) (tgt := 132) (by decide) (by decide) (by decide) (by decide) ?_
      obtain ⟨r, A2, hr, hI2⟩ : ∃ (r : Int) (A2 : md_A), ((md_timerC (md_c0 A) (xs (1 + 4 * it + 1)).toInt → r = 1 ∧ A2 = md_timer (md_c0 A) (xs (1 + 4 * it + 1)).toInt) ∧ (¬ (md_timerC (md_c0 A) (xs (1 + 4 * it + 1)).toInt) → r = 0 ∧ A2 = md_c0 A)) ∧ Inv c0 (2 * it + 2) A2 := by
        by_cases hc : md_timerC (md_c0 A) (xs (1 + 4 * it + 1)).toInt
        · exact ⟨_, _, ⟨fun _ => ⟨rfl, rfl⟩, fun z => absurd hc z⟩, hI1.timer hBB hc⟩
        · exact ⟨_, _, ⟨fun z => absurd z hc, fun _ => ⟨rfl, rfl⟩⟩, hI1'⟩
      obtain ⟨g, I, m, E, N, f, rfl, hcr, hmd, hgo⟩ := hH1
      refine qx_aload_n C d_Z_law_132 rfl rfl ?_
      refine qx_aload_n C d_Z_law_133 rfl rfl ?_
      refine qx_iload C d_Z_law_134 rfl ?_
      refine qx_iconst C d_Z_law_136 (v := iI (1)) rfl ?_
      refine nx_iadd C d_Z_law_137 ?_
      refine Ld _ _ _ _ _ _ _ 1 (by decide) (by decide) d_Z_law_138 ?_
      refine lw_cp C (s_Z_law_139 (ch_Q Jc)) (c_timer l G b Jc hcr hS1 (rg (1 + 4 * it + 1)) hr 0) w_Q_timer rfl rfl (Nat.le_of_ble_eq_true rfl) (by omega) (by decide) (by omega) (fun h2 hP => ?_)
      have hH2 := lw_H.ofT hD hmd hgo hP
      obtain ⟨e1, e2⟩ := hH2.md hD
      rw [e1]
      have e3 : md_h G o adD ivD h2 A o = some (.inr (8, md_f adD A)) := md_h_o
      refine qx_aload_n C d_Z_law_142 rfl rfl ?_
      refine qx_aload_n C d_Z_law_143 rfl rfl ?_
      refine qx_iload C d_Z_law_144 rfl ?_
      refine qx_iconst C d_Z_law_146 (v := iI (1)) rfl ?_
      refine nx_iadd C d_Z_law_147 ?_
      refine Ld _ _ _ _ _ _ _ 1 (by decide) (by decide) d_Z_law_148 ?_
      refine lw_cj C (s_Z_law_149 e3) (m_timer l G b JD h2 (rg (1 + 4 * it + 1)) hV1 (hT1 _) hr 0) w_D_timer rfl rfl (Nat.le_of_ble_eq_true rfl) (by omega) (by decide) (by omega) ?_
      refine qx_icmp_eq C d_Z_law_152 (tgt := 774) (by decide) (fun _ => ?_) (fun z => absurd rfl z)
      exact Next A2 _ _ _ _ _ hI2 (e2 _).1 (by omega) (by omega)
    · refine qx_tabIn C d_Z_law_49 (off := 108) (tgt := 157) (by decide) (by decide) (by decide) (by decide) ?_
      obtain ⟨r, A2, hr, hI2⟩ : ∃ (r : Int) (A2 : md_A), ((md_beatC (md_c0 A) (xs (1 + 4 * it + 1)).toInt → r = 1 ∧ A2 = md_all (md_c0 A) (xs (1 + 4 * it + 1)).toInt 5) ∧ (¬ (md_beatC (md_c0 A) (xs (1 + 4 * it + 1)).toInt) → r = 0 ∧ A2 = md_c0 A)) ∧ Inv c0 (2 * it + 2) A2 := by
        by_cases hc : md_beatC (md_c0 A) (xs (1 + 4 * it + 1)).toInt
        · exact ⟨_, _, ⟨fun _ => ⟨rfl, rfl⟩, fun z => absurd hc z⟩, (hI1.beat hBB hc).le (by omega)⟩
        · exact ⟨_, _, ⟨fun z => absurd z hc, fun _ => ⟨rfl, rfl⟩⟩, hI1'⟩
      obtain ⟨g, I, m, E, N, f, rfl, hcr, hmd, hgo⟩ := hH1
      refine qx_aload_n C d_Z_law_157 rfl rfl ?_
      refine qx_aload_n C d_Z_law_158 rfl rfl ?_
      refine qx_iload C d_Z_law_159 rfl ?_
      refine qx_iconst C d_Z_law_161 (v := iI (1)) rfl ?_
      refine nx_iadd C d_Z_law_162 ?_
      refine Ld _ _ _ _ _ _ _ 1 (by decide) (by decide) d_Z_law_163 ?_
      refine lw_cp C (s_Z_law_164 (ch_Q Jc)) (c_beat l G b Jc hcr hS1 (rg (1 + 4 * it + 1)) hr 0) w_Q_beat rfl rfl (Nat.le_of_ble_eq_true rfl) (by omega) (by decide) (by omega) (fun h2 hP => ?_)
      have hH2 := lw_H.ofT hD hmd hgo hP
      obtain ⟨e1, e2⟩ := hH2.md hD
      rw [e1]
      have e3 : md_h G o adD ivD h2 A o = some (.inr (8, md_f adD A)) := md_h_o
      refine qx_aload_n C d_Z_law_167 rfl rfl ?_
      refine qx_aload_n C d_Z_law_168 rfl rfl ?_
      refine qx_iload C d_Z_law_169 rfl ?_
      refine qx_iconst C d_Z_law_171 (v := iI (1)) rfl ?_
      refine nx_iadd C d_Z_law_172 ?_
      refine Ld _ _ _ _ _ _ _ 1 (by decide) (by decide) d_Z_law_173 ?_
      refine lw_cj C (s_Z_law_174 e3) (m_beat l G b JD h2 (rg (1 + 4 * it + 1)) hV1 (hT1 _) hr 0) w_D_beat rfl rfl (Nat.le_of_ble_eq_true rfl) (by omega) (by decide) (by omega) ?_
      refine qx_icmp_eq C d_Z_law_177 (tgt := 774) (by decide) (fun _ => ?_) (fun z => absurd rfl z)
      exact Next A2 _ _ _ _ _ hI2 (e2 _).1 (by omega) (by omega)
    · refine qx_tabIn C d_Z_law_49 (off := 133) (tgt := 182) (by decide) (by decide) (by decide) (by decide) ?_
      obtain ⟨r0, A2, hr, hr0⟩ : ∃ (r0 : Int) (A2 : md_A), ((md_putE (md_c0 A) (xs (1 + 4 * it + 1)).toInt (xs (1 + 4 * it + 2)).toInt = 0 → r0 = md_last (md_c0 A) (xs (1 + 4 * it + 1)).toInt + 1 ∧ A2 = md_append (md_c0 A) (xs (1 + 4 * it + 1)).toInt 1 (xs (1 + 4 * it + 2)).toInt (xs (1 + 4 * it + 3)).toInt) ∧ (∀ c, c ≠ 0 → md_putE (md_c0 A) (xs (1 + 4 * it + 1)).toInt (xs (1 + 4 * it + 2)).toInt = c → r0 = 0 ∧ A2 = md_u (md_c0 A) 0 0 c)) ∧ ((md_putE (md_c0 A) (xs (1 + 4 * it + 1)).toInt (xs (1 + 4 * it + 2)).toInt = 0 → Inv c0 (2 * it + 2) A2) ∧ (md_putE (md_c0 A) (xs (1 + 4 * it + 1)).toInt (xs (1 + 4 * it + 2)).toInt ≠ 0 → Inv c0 (2 * it + 2) A2)) := by
        by_cases hc : md_putE (md_c0 A) (xs (1 + 4 * it + 1)).toInt (xs (1 + 4 * it + 2)).toInt = 0
        · exact ⟨_, _, ⟨fun _ => ⟨rfl, rfl⟩, fun c c1 c2 => absurd (c2.symm.trans hc) c1⟩, fun _ => (hI1.put hBB (rg (1 + 4 * it + 2)) (rg (1 + 4 * it + 3)) hc).le (by omega), fun z => absurd hc z⟩
        · exact ⟨_, _, ⟨fun z => absurd z hc, fun c c1 c2 => ⟨rfl, by rw [← c2]⟩⟩, fun z => absurd z hc, fun _ => hI1'.c _ (by rcases putE_r (md_c0 A) (xs (1 + 4 * it + 1)).toInt (xs (1 + 4 * it + 2)).toInt with h | h | h | h <;> rw [h] <;> omega)⟩
      have hIA : Inv c0 (2 * it + 2) A2 := by
        by_cases hc : md_putE (md_c0 A) (xs (1 + 4 * it + 1)).toInt (xs (1 + 4 * it + 2)).toInt = 0
        · exact hr0.1 hc
        · exact hr0.2 hc
      have hE4 := putE_r (md_c0 A) (xs (1 + 4 * it + 1)).toInt (xs (1 + 4 * it + 2)).toInt
      obtain ⟨g, I, m, E, N, f, rfl, hcr, hmd, hgo⟩ := hH1
      refine qx_aload_n C d_Z_law_182 rfl rfl ?_
      refine qx_aload_n C d_Z_law_183 rfl rfl ?_
      refine qx_iload C d_Z_law_184 rfl ?_
      refine qx_iconst C d_Z_law_186 (v := iI (1)) rfl ?_
      refine nx_iadd C d_Z_law_187 ?_
      refine Ld _ _ _ _ _ _ _ 1 (by decide) (by decide) d_Z_law_188 ?_
      refine qx_aload_n C d_Z_law_189 rfl rfl ?_
      refine qx_iload C d_Z_law_190 rfl ?_
      refine qx_iconst C d_Z_law_192 (v := iI (2)) rfl ?_
      refine nx_iadd C d_Z_law_193 ?_
      refine Ld _ _ _ _ _ _ _ 2 (by decide) (by decide) d_Z_law_194 ?_
      refine qx_aload_n C d_Z_law_195 rfl rfl ?_
      refine qx_iload C d_Z_law_196 rfl ?_
      refine qx_iconst C d_Z_law_198 (v := iI (3)) rfl ?_
      refine nx_iadd C d_Z_law_199 ?_
      refine Ld _ _ _ _ _ _ _ 3 (by decide) (by decide) d_Z_law_200 ?_
      refine qx_aload_n C d_Z_law_201 rfl rfl ?_
      refine lw_cz C s_Z_law_202 (z_put l G b Jc hf hcr hS1 (rg (1 + 4 * it + 1)) (rg (1 + 4 * it + 2)) (rg (1 + 4 * it + 3)) hD.2.2.2.2.1 hgo 0) w_Z_put rfl rfl (Nat.le_of_ble_eq_true rfl) (by omega) (by decide) (by omega) (fun h2 hP => ?_)
      obtain ⟨p1, p2⟩ := lw_H.ofE hD hmd hP
      refine nx_istore C d_Z_law_205 (Nat.le_of_ble_eq_true rfl) (lo' := [_, _, _, _, _, some (.int _), _]) rfl ?_
      have hH2 : ∃ A9, lw_H G ad iv o adD ivD out A9 A h2 ∧ (md_putE (md_c0 A) (xs (1 + 4 * it + 1)).toInt (xs (1 + 4 * it + 2)).toInt = 0 → A9 = md_append (md_c0 A) (xs (1 + 4 * it + 1)).toInt 1 (xs (1 + 4 * it + 2)).toInt (xs (1 + 4 * it + 3)).toInt) ∧ (md_putE (md_c0 A) (xs (1 + 4 * it + 1)).toInt (xs (1 + 4 * it + 2)).toInt ≠ 0 → A9 = md_c0 A) := by
        by_cases hc : md_putE (md_c0 A) (xs (1 + 4 * it + 1)).toInt (xs (1 + 4 * it + 2)).toInt = 0
        · exact ⟨_, (p1 hc).1, fun _ => rfl, fun z => absurd hc z⟩
        · exact ⟨_, p2 hc, fun z => absurd z hc, fun _ => rfl⟩
      obtain ⟨A9, hH2, q1, q2⟩ := hH2
      obtain ⟨e1, e2⟩ := hH2.md hD
      have e3 : md_h G o adD ivD h2 A o = some (.inr (8, md_f adD A)) := md_h_o
      rw [e1]
      refine qx_aload_n C d_Z_law_207 rfl rfl ?_
      refine qx_aload_n C d_Z_law_208 rfl rfl ?_
      refine qx_iload C d_Z_law_209 rfl ?_
      refine qx_iconst C d_Z_law_211 (v := iI (1)) rfl ?_
      refine nx_iadd C d_Z_law_212 ?_
      refine Ld _ _ _ _ _ _ _ 1 (by decide) (by decide) d_Z_law_213 ?_
      refine qx_aload_n C d_Z_law_214 rfl rfl ?_
      refine qx_iload C d_Z_law_215 rfl ?_
      refine qx_iconst C d_Z_law_217 (v := iI (2)) rfl ?_
      refine nx_iadd C d_Z_law_218 ?_
      refine Ld _ _ _ _ _ _ _ 2 (by decide) (by decide) d_Z_law_219 ?_
      refine qx_aload_n C d_Z_law_220 rfl rfl ?_
      refine qx_iload C d_Z_law_221 rfl ?_
      refine qx_iconst C d_Z_law_223 (v := iI (3)) rfl ?_
      refine nx_iadd C d_Z_law_224 ?_
      refine Ld _ _ _ _ _ _ _ 3 (by decide) (by decide) d_Z_law_225 ?_
      refine lw_cj C (s_Z_law_226 e3) (m_put l G b JD h2 (rg (1 + 4 * it + 1)) (rg (1 + 4 * it + 2)) (rg (1 + 4 * it + 3)) hV1 (hT1 _) hr 0) w_D_put rfl rfl (Nat.le_of_ble_eq_true rfl) (by omega) (by decide) (by omega) ?_
      refine nx_istore C d_Z_law_229 (Nat.le_of_ble_eq_true rfl) (lo' := [_, _, _, _, _, _, some (.int _)]) rfl ?_
      refine qx_aload_n C d_Z_law_231 rfl rfl ?_
      have e4 : md_h G o adD ivD h2 A2 o = some (.inr (8, md_f adD A2)) := md_h_o
      refine lw_cj C (s_Z_law_232 e4) (m_thrown l G b JD h2 A2 0) w_D_thrown rfl rfl (Nat.le_of_ble_eq_true rfl) (by omega) (by decide) (by omega) ?_
      have hth : A2 0 0 = md_putE (md_c0 A) (xs (1 + 4 * it + 1)).toInt (xs (1 + 4 * it + 2)).toInt := by
        by_cases hc : md_putE (md_c0 A) (xs (1 + 4 * it + 1)).toInt (xs (1 + 4 * it + 2)).toInt = 0
        · rw [hc, (hr.1 hc).2]
          exact (md_append_k (by decide) (by decide) (by decide)).trans md_us
        · rw [(hr.2 _ hc rfl).2]
          exact md_us
      rw [hth]
      refine qx_iload C d_Z_law_235 rfl ?_
      refine qx_icmp_eq C d_Z_law_237 (tgt := 242) (by decide) (fun _ => ?_) (fun z => absurd rfl z)
      have hH3 : lw_H G ad iv o adD ivD out A2 A2 (md_h G o adD ivD h2 A2) := by
        have := (e2 A2).1
        by_cases hc : md_putE (md_c0 A) (xs (1 + 4 * it + 1)).toInt (xs (1 + 4 * it + 2)).toInt = 0
        · rw [q1 hc, ← (hr.1 hc).2] at this
          exact this
        · rw [q2 hc] at this
          have h9 := this.c0 (md_putE (md_c0 A) (xs (1 + 4 * it + 1)).toInt (xs (1 + 4 * it + 2)).toInt)
          rw [show md_u (md_c0 A) 0 0 (md_putE (md_c0 A) (xs (1 + 4 * it + 1)).toInt (xs (1 + 4 * it + 2)).toInt) = A2 from ((hr.2 _ hc rfl).2).symm] at h9
          exact h9
      refine qx_iload C d_Z_law_242 rfl ?_
      refine nx_if_ne C 259 d_Z_law_244 (by decide) (by omega) (fun hc => ?_) (fun hc => ?_)
      · exact qx_goto C d_Z_law_259 (tgt := 774) (by decide) (Next A2 _ _ _ _ _ hIA hH3 (by omega) (by omega))
      · obtain ⟨f2, o1, o2⟩ := (p1 hc).2
        have o3 := ((e2 A2).2).trans o1
        refine qx_aload_n C d_Z_law_247 rfl rfl ?_
        refine qx_iconst C d_Z_law_248 (v := iI (0)) rfl ?_
        refine qx_lald C d_Z_law_249 o3 (iI_in (by decide) (by decide) (by decide)) ?_
        rw [iI_clamp (by decide) (by decide), show ((0 : Int)).toNat = 0 from rfl, o2]
        refine qx_iload C d_Z_law_250 rfl ?_
        refine qx_i2l C d_Z_law_252 ?_
        refine qx_lcmp C d_Z_law_253 ?_
        rw [(hr.1 hc).1, lg_cmp_self]
        refine nx_if_eq C 259 d_Z_law_254 (by decide) (by omega) (fun _ => ?_) (fun z => absurd rfl z)
        exact qx_goto C d_Z_law_259 (tgt := 774) (by decide) (Next A2 _ _ _ _ _ hIA hH3 (by omega) (by omega))
    · refine qx_tabIn C d_Z_law_49 (off := 213) (tgt := 262) (by decide) (by decide) (by decide) (by decide) ?_
      obtain ⟨jj, ejj, hjj⟩ : ∃ jj : Int, jj = (if (xs (1 + 4 * it + 3)).toInt = 0 then (0 : Int) else 1) ∧ (jj = 0 ∨ jj = 1) := ⟨_, rfl, by split; exact Or.inl rfl; exact Or.inr rfl⟩
      have Bo : ∀ (pc t1 t2 : Nat) (of1 of2 : Int) (st : List Value) (h : qh_H) (k n : Nat) (m5 m6 : Option Value), decode c_Z_law pc = .ok (.ifCond .eq of1, 3) → (pc : Int) + of1 = (t1 : Int) → decode c_Z_law (pc + 3) = .ok (.iconst 1, 1) → decode c_Z_law (pc + 3 + 1) = .ok (.goto of2, 3) → ((pc + 3 + 1 : Nat) : Int) + of2 = (t2 : Int) → decode c_Z_law t1 = .ok (.iconst 0, 1) → t1 + 1 = t2 → X t2 [some (.ref sc), some (.ref (ad 0)), some (.ref o), some (.ref out), some (.int (iI (1 + 4 * it : Nat))), m5, m6] (.int (iI jj) :: st) h k n → X pc [some (.ref sc), some (.ref (ad 0)), some (.ref o), some (.ref out), some (.int (iI (1 + 4 * it : Nat))), m5, m6] (.int (iI (xs (1 + 4 * it + 3)).toInt) :: st) h k n := by
        intro pc t1 t2 of1 of2 st h k n m5 m6 d1 d2 d3 d4 d5 d6 d7 kk
        refine nx_if_eq C t1 d1 d2 (rg (1 + 4 * it + 3)) (fun z => ?_) (fun z => ?_)
        · refine qx_iconst C d6 (v := iI 0) rfl ?_
          rw [d7]
          rw [ejj, if_pos z] at kk
          exact kk
        · refine qx_iconst C d3 (v := iI 1) rfl ?_
          refine qx_goto C d4 d5 ?_
          rw [ejj, if_neg z] at kk
          exact kk
      obtain ⟨r0, A2, hr, hr0⟩ : ∃ (r0 : Int) (A2 : md_A), ((md_changeE (md_c0 A) (xs (1 + 4 * it + 1)).toInt (xs (1 + 4 * it + 2)).toInt jj = 0 → r0 = md_last (md_c0 A) (xs (1 + 4 * it + 1)).toInt + 1 ∧ A2 = md_append (md_c0 A) (xs (1 + 4 * it + 1)).toInt 2 (ix (md_config (md_c0 A) (xs (1 + 4 * it + 1)).toInt) (one (xs (1 + 4 * it + 2)).toInt)) 0) ∧ (∀ c, c ≠ 0 → md_changeE (md_c0 A) (xs (1 + 4 * it + 1)).toInt (xs (1 + 4 * it + 2)).toInt jj = c → r0 = 0 ∧ A2 = md_u (md_c0 A) 0 0 c)) ∧ ((md_changeE (md_c0 A) (xs (1 + 4 * it + 1)).toInt (xs (1 + 4 * it + 2)).toInt jj = 0 → Inv c0 (2 * it + 2) A2) ∧ (md_changeE (md_c0 A) (xs (1 + 4 * it + 1)).toInt (xs (1 + 4 * it + 2)).toInt jj ≠ 0 → Inv c0 (2 * it + 2) A2)) := by
        by_cases hc : md_changeE (md_c0 A) (xs (1 + 4 * it + 1)).toInt (xs (1 + 4 * it + 2)).toInt jj = 0
        · exact ⟨_, _, ⟨fun _ => ⟨rfl, rfl⟩, fun c c1 c2 => absurd (c2.symm.trans hc) c1⟩, fun _ => (hI1.change hBB hc).le (by omega), fun z => absurd hc z⟩
        · exact ⟨_, _, ⟨fun z => absurd z hc, fun c c1 c2 => ⟨rfl, by rw [← c2]⟩⟩, fun z => absurd z hc, fun _ => hI1'.c _ (by rcases changeE_r (md_c0 A) (xs (1 + 4 * it + 1)).toInt (xs (1 + 4 * it + 2)).toInt jj with h | h | h | h <;> rw [h] <;> omega)⟩
      have hIA : Inv c0 (2 * it + 2) A2 := by
        by_cases hc : md_changeE (md_c0 A) (xs (1 + 4 * it + 1)).toInt (xs (1 + 4 * it + 2)).toInt jj = 0
        · exact hr0.1 hc
        · exact hr0.2 hc
      have hE4 := changeE_r (md_c0 A) (xs (1 + 4 * it + 1)).toInt (xs (1 + 4 * it + 2)).toInt jj
      obtain ⟨g, I, m, E, N, f, rfl, hcr, hmd, hgo⟩ := hH1
      refine qx_aload_n C d_Z_law_262 rfl rfl ?_
      refine qx_aload_n C d_Z_law_263 rfl rfl ?_
      refine qx_iload C d_Z_law_264 rfl ?_
      refine qx_iconst C d_Z_law_266 (v := iI (1)) rfl ?_
      refine nx_iadd C d_Z_law_267 ?_
      refine Ld _ _ _ _ _ _ _ 1 (by decide) (by decide) d_Z_law_268 ?_
      refine qx_aload_n C d_Z_law_269 rfl rfl ?_
      refine qx_iload C d_Z_law_270 rfl ?_
      refine qx_iconst C d_Z_law_272 (v := iI (2)) rfl ?_
      refine nx_iadd C d_Z_law_273 ?_
      refine Ld _ _ _ _ _ _ _ 2 (by decide) (by decide) d_Z_law_274 ?_
      refine qx_aload_n C d_Z_law_275 rfl rfl ?_
      refine qx_iload C d_Z_law_276 rfl ?_
      refine qx_iconst C d_Z_law_278 (v := iI (3)) rfl ?_
      refine nx_iadd C d_Z_law_279 ?_
      refine Ld _ _ _ _ _ _ _ 3 (by decide) (by decide) d_Z_law_280 ?_
      refine Bo 281 288 289 _ _ _ _ _ _ _ _ d_Z_law_281 (by decide) d_Z_law_284 d_Z_law_285 (by decide) d_Z_law_288 rfl ?_
      refine qx_aload_n C d_Z_law_289 rfl rfl ?_
      refine lw_cz C s_Z_law_290 (z_change l G b Jc hf hcr hS1 (rg (1 + 4 * it + 1)) (rg (1 + 4 * it + 2)) hjj hD.2.2.2.2.1 hgo 0) w_Z_change rfl rfl (Nat.le_of_ble_eq_true rfl) (by omega) (by decide) (by omega) (fun h2 hP => ?_)
      obtain ⟨p1, p2⟩ := lw_H.ofE hD hmd hP
      refine nx_istore C d_Z_law_293 (Nat.le_of_ble_eq_true rfl) (lo' := [_, _, _, _, _, some (.int _), _]) rfl ?_
      have hH2 : ∃ A9, lw_H G ad iv o adD ivD out A9 A h2 ∧ (md_changeE (md_c0 A) (xs (1 + 4 * it + 1)).toInt (xs (1 + 4 * it + 2)).toInt jj = 0 → A9 = md_append (md_c0 A) (xs (1 + 4 * it + 1)).toInt 2 (ix (md_config (md_c0 A) (xs (1 + 4 * it + 1)).toInt) (one (xs (1 + 4 * it + 2)).toInt)) 0) ∧ (md_changeE (md_c0 A) (xs (1 + 4 * it + 1)).toInt (xs (1 + 4 * it + 2)).toInt jj ≠ 0 → A9 = md_c0 A) := by
        by_cases hc : md_changeE (md_c0 A) (xs (1 + 4 * it + 1)).toInt (xs (1 + 4 * it + 2)).toInt jj = 0
        · exact ⟨_, (p1 hc).1, fun _ => rfl, fun z => absurd hc z⟩
        · exact ⟨_, p2 hc, fun z => absurd z hc, fun _ => rfl⟩
      obtain ⟨A9, hH2, q1, q2⟩ := hH2
      obtain ⟨e1, e2⟩ := hH2.md hD
      have e3 : md_h G o adD ivD h2 A o = some (.inr (8, md_f adD A)) := md_h_o
      rw [e1]
      refine qx_aload_n C d_Z_law_295 rfl rfl ?_
      refine qx_aload_n C d_Z_law_296 rfl rfl ?_
      refine qx_iload C d_Z_law_297 rfl ?_
      refine qx_iconst C d_Z_law_299 (v := iI (1)) rfl ?_
      refine nx_iadd C d_Z_law_300 ?_
      refine Ld _ _ _ _ _ _ _ 1 (by decide) (by decide) d_Z_law_301 ?_
      refine qx_aload_n C d_Z_law_302 rfl rfl ?_
      refine qx_iload C d_Z_law_303 rfl ?_
      refine qx_iconst C d_Z_law_305 (v := iI (2)) rfl ?_
      refine nx_iadd C d_Z_law_306 ?_
      refine Ld _ _ _ _ _ _ _ 2 (by decide) (by decide) d_Z_law_307 ?_
      refine qx_aload_n C d_Z_law_308 rfl rfl ?_
      refine qx_iload C d_Z_law_309 rfl ?_
      refine qx_iconst C d_Z_law_311 (v := iI (3)) rfl ?_
      refine nx_iadd C d_Z_law_312 ?_
      refine Ld _ _ _ _ _ _ _ 3 (by decide) (by decide) d_Z_law_313 ?_
      refine Bo 314 321 322 _ _ _ _ _ _ _ _ d_Z_law_314 (by decide) d_Z_law_317 d_Z_law_318 (by decide) d_Z_law_321 rfl ?_
      refine lw_cj C (s_Z_law_322 e3) (m_change l G b JD h2 (rg (1 + 4 * it + 1)) (rg (1 + 4 * it + 2)) hjj hV1 (hT1 _) hr 0) w_D_change rfl rfl (Nat.le_of_ble_eq_true rfl) (by omega) (by decide) (by omega) ?_
      refine nx_istore C d_Z_law_325 (Nat.le_of_ble_eq_true rfl) (lo' := [_, _, _, _, _, _, some (.int _)]) rfl ?_
      refine qx_aload_n C d_Z_law_327 rfl rfl ?_
      have e4 : md_h G o adD ivD h2 A2 o = some (.inr (8, md_f adD A2)) := md_h_o
      refine lw_cj C (s_Z_law_328 e4) (m_thrown l G b JD h2 A2 0) w_D_thrown rfl rfl (Nat.le_of_ble_eq_true rfl) (by omega) (by decide) (by omega) ?_
      have hth : A2 0 0 = md_changeE (md_c0 A) (xs (1 + 4 * it + 1)).toInt (xs (1 + 4 * it + 2)).toInt jj := by
        by_cases hc : md_changeE (md_c0 A) (xs (1 + 4 * it + 1)).toInt (xs (1 + 4 * it + 2)).toInt jj = 0
        · rw [hc, (hr.1 hc).2]
          exact (md_append_k (by decide) (by decide) (by decide)).trans md_us
        · rw [(hr.2 _ hc rfl).2]
          exact md_us
      rw [hth]
      refine qx_iload C d_Z_law_331 rfl ?_
      refine qx_icmp_eq C d_Z_law_333 (tgt := 338) (by decide) (fun _ => ?_) (fun z => absurd rfl z)
      have hH3 : lw_H G ad iv o adD ivD out A2 A2 (md_h G o adD ivD h2 A2) := by
        have := (e2 A2).1
        by_cases hc : md_changeE (md_c0 A) (xs (1 + 4 * it + 1)).toInt (xs (1 + 4 * it + 2)).toInt jj = 0
        · rw [q1 hc, ← (hr.1 hc).2] at this
          exact this
        · rw [q2 hc] at this
          have h9 := this.c0 (md_changeE (md_c0 A) (xs (1 + 4 * it + 1)).toInt (xs (1 + 4 * it + 2)).toInt jj)
          rw [show md_u (md_c0 A) 0 0 (md_changeE (md_c0 A) (xs (1 + 4 * it + 1)).toInt (xs (1 + 4 * it + 2)).toInt jj) = A2 from ((hr.2 _ hc rfl).2).symm] at h9
          exact h9
      refine qx_iload C d_Z_law_338 rfl ?_
      refine nx_if_ne C 355 d_Z_law_340 (by decide) (by omega) (fun hc => ?_) (fun hc => ?_)
      · exact qx_goto C d_Z_law_355 (tgt := 774) (by decide) (Next A2 _ _ _ _ _ hIA hH3 (by omega) (by omega))
      · obtain ⟨f2, o1, o2⟩ := (p1 hc).2
        have o3 := ((e2 A2).2).trans o1
        refine qx_aload_n C d_Z_law_343 rfl rfl ?_
        refine qx_iconst C d_Z_law_344 (v := iI (0)) rfl ?_
        refine qx_lald C d_Z_law_345 o3 (iI_in (by decide) (by decide) (by decide)) ?_
        rw [iI_clamp (by decide) (by decide), show ((0 : Int)).toNat = 0 from rfl, o2]
        refine qx_iload C d_Z_law_346 rfl ?_
        refine qx_i2l C d_Z_law_348 ?_
        refine qx_lcmp C d_Z_law_349 ?_
        rw [(hr.1 hc).1, lg_cmp_self]
        refine nx_if_eq C 355 d_Z_law_350 (by decide) (by omega) (fun _ => ?_) (fun z => absurd rfl z)
        exact qx_goto C d_Z_law_355 (tgt := 774) (by decide) (Next A2 _ _ _ _ _ hIA hH3 (by omega) (by omega))
    · refine qx_tabIn C d_Z_law_49 (off := 309) (tgt := 358) (by decide) (by decide) (by decide) (by decide) ?_
      obtain ⟨r0, A2, hr, hr0⟩ : ∃ (r0 : Int) (A2 : md_A), ((md_readE (md_c0 A) (xs (1 + 4 * it + 1)).toInt (xs (1 + 4 * it + 2)).toInt = 0 → r0 = md_c0 A 21 0 ∧ A2 = md_read (md_c0 A) (xs (1 + 4 * it + 1)).toInt (xs (1 + 4 * it + 2)).toInt) ∧ (∀ c, c ≠ 0 → md_readE (md_c0 A) (xs (1 + 4 * it + 1)).toInt (xs (1 + 4 * it + 2)).toInt = c → r0 = 0 ∧ A2 = md_u (md_c0 A) 0 0 c)) ∧ ((md_readE (md_c0 A) (xs (1 + 4 * it + 1)).toInt (xs (1 + 4 * it + 2)).toInt = 0 → Inv c0 (2 * it + 2) A2) ∧ (md_readE (md_c0 A) (xs (1 + 4 * it + 1)).toInt (xs (1 + 4 * it + 2)).toInt ≠ 0 → Inv c0 (2 * it + 2) A2)) := by
        by_cases hc : md_readE (md_c0 A) (xs (1 + 4 * it + 1)).toInt (xs (1 + 4 * it + 2)).toInt = 0
        · exact ⟨_, _, ⟨fun _ => ⟨rfl, rfl⟩, fun c c1 c2 => absurd (c2.symm.trans hc) c1⟩, fun _ => (hI1.read hBB (rg (1 + 4 * it + 2)) hc).le (by omega), fun z => absurd hc z⟩
        · exact ⟨_, _, ⟨fun z => absurd z hc, fun c c1 c2 => ⟨rfl, by rw [← c2]⟩⟩, fun z => absurd z hc, fun _ => hI1'.c _ (by rcases readE_r (md_c0 A) (xs (1 + 4 * it + 1)).toInt (xs (1 + 4 * it + 2)).toInt with h | h | h | h <;> rw [h] <;> omega)⟩
      have hIA : Inv c0 (2 * it + 2) A2 := by
        by_cases hc : md_readE (md_c0 A) (xs (1 + 4 * it + 1)).toInt (xs (1 + 4 * it + 2)).toInt = 0
        · exact hr0.1 hc
        · exact hr0.2 hc
      have hE4 := readE_r (md_c0 A) (xs (1 + 4 * it + 1)).toInt (xs (1 + 4 * it + 2)).toInt
      obtain ⟨g, I, m, E, N, f, rfl, hcr, hmd, hgo⟩ := hH1
      refine qx_aload_n C d_Z_law_358 rfl rfl ?_
      refine qx_aload_n C d_Z_law_359 rfl rfl ?_
      refine qx_iload C d_Z_law_360 rfl ?_
      refine qx_iconst C d_Z_law_362 (v := iI (1)) rfl ?_
      refine nx_iadd C d_Z_law_363 ?_
      refine Ld _ _ _ _ _ _ _ 1 (by decide) (by decide) d_Z_law_364 ?_
      refine qx_aload_n C d_Z_law_365 rfl rfl ?_
      refine qx_iload C d_Z_law_366 rfl ?_
      refine qx_iconst C d_Z_law_368 (v := iI (2)) rfl ?_
      refine nx_iadd C d_Z_law_369 ?_
      refine Ld _ _ _ _ _ _ _ 2 (by decide) (by decide) d_Z_law_370 ?_
      refine qx_aload_n C d_Z_law_371 rfl rfl ?_
      refine lw_cz C s_Z_law_372 (z_read l G b Jc hf hcr hS1 (hI1.reads hBB).1 (hI1.reads hBB).2 (rg (1 + 4 * it + 1)) (rg (1 + 4 * it + 2)) hD.2.2.2.2.1 hgo 0) w_Z_read rfl rfl (Nat.le_of_ble_eq_true rfl) (by omega) (by decide) (by omega) (fun h2 hP => ?_)
      obtain ⟨p1, p2⟩ := lw_H.ofE hD hmd hP
      refine nx_istore C d_Z_law_375 (Nat.le_of_ble_eq_true rfl) (lo' := [_, _, _, _, _, some (.int _), _]) rfl ?_
      have hH2 : ∃ A9, lw_H G ad iv o adD ivD out A9 A h2 ∧ (md_readE (md_c0 A) (xs (1 + 4 * it + 1)).toInt (xs (1 + 4 * it + 2)).toInt = 0 → A9 = md_read (md_c0 A) (xs (1 + 4 * it + 1)).toInt (xs (1 + 4 * it + 2)).toInt) ∧ (md_readE (md_c0 A) (xs (1 + 4 * it + 1)).toInt (xs (1 + 4 * it + 2)).toInt ≠ 0 → A9 = md_c0 A) := by
        by_cases hc : md_readE (md_c0 A) (xs (1 + 4 * it + 1)).toInt (xs (1 + 4 * it + 2)).toInt = 0
        · exact ⟨_, (p1 hc).1, fun _ => rfl, fun z => absurd hc z⟩
        · exact ⟨_, p2 hc, fun z => absurd z hc, fun _ => rfl⟩
      obtain ⟨A9, hH2, q1, q2⟩ := hH2
      obtain ⟨e1, e2⟩ := hH2.md hD
      have e3 : md_h G o adD ivD h2 A o = some (.inr (8, md_f adD A)) := md_h_o
      rw [e1]
      refine qx_aload_n C d_Z_law_377 rfl rfl ?_
      refine qx_aload_n C d_Z_law_378 rfl rfl ?_
      refine qx_iload C d_Z_law_379 rfl ?_
      refine qx_iconst C d_Z_law_381 (v := iI (1)) rfl ?_
      refine nx_iadd C d_Z_law_382 ?_
      refine Ld _ _ _ _ _ _ _ 1 (by decide) (by decide) d_Z_law_383 ?_
      refine qx_aload_n C d_Z_law_384 rfl rfl ?_
      refine qx_iload C d_Z_law_385 rfl ?_
      refine qx_iconst C d_Z_law_387 (v := iI (2)) rfl ?_
      refine nx_iadd C d_Z_law_388 ?_
      refine Ld _ _ _ _ _ _ _ 2 (by decide) (by decide) d_Z_law_389 ?_
      refine lw_cj C (s_Z_law_390 e3) (m_read l G b JD h2 (rg (1 + 4 * it + 1)) (rg (1 + 4 * it + 2)) hV1 (fun h0 h5 => ⟨(hT1 _ h0 h5).1, (hT1 _ h0 h5).2, by obtain ⟨s, hs, es⟩ := k5_ex h0 h5; rw [es]; exact ((hI1.reads hBB).2 s hs).2⟩) (hI1.reads hBB).1 hr 0) w_D_read rfl rfl (Nat.le_of_ble_eq_true rfl) (by omega) (by decide) (by omega) ?_
      refine nx_istore C d_Z_law_393 (Nat.le_of_ble_eq_true rfl) (lo' := [_, _, _, _, _, _, some (.int _)]) rfl ?_
      refine qx_aload_n C d_Z_law_395 rfl rfl ?_
      have e4 : md_h G o adD ivD h2 A2 o = some (.inr (8, md_f adD A2)) := md_h_o
      refine lw_cj C (s_Z_law_396 e4) (m_thrown l G b JD h2 A2 0) w_D_thrown rfl rfl (Nat.le_of_ble_eq_true rfl) (by omega) (by decide) (by omega) ?_
      have hth : A2 0 0 = md_readE (md_c0 A) (xs (1 + 4 * it + 1)).toInt (xs (1 + 4 * it + 2)).toInt := by
        by_cases hc : md_readE (md_c0 A) (xs (1 + 4 * it + 1)).toInt (xs (1 + 4 * it + 2)).toInt = 0
        · rw [hc, (hr.1 hc).2]
          exact (md_rd_k (by decide) _).trans ((md_all_k (by decide) 5).trans ((md_keep_k (by decide)).trans md_us))
        · rw [(hr.2 _ hc rfl).2]
          exact md_us
      rw [hth]
      refine qx_iload C d_Z_law_399 rfl ?_
      refine qx_icmp_eq C d_Z_law_401 (tgt := 406) (by decide) (fun _ => ?_) (fun z => absurd rfl z)
      have hH3 : lw_H G ad iv o adD ivD out A2 A2 (md_h G o adD ivD h2 A2) := by
        have := (e2 A2).1
        by_cases hc : md_readE (md_c0 A) (xs (1 + 4 * it + 1)).toInt (xs (1 + 4 * it + 2)).toInt = 0
        · rw [q1 hc, ← (hr.1 hc).2] at this
          exact this
        · rw [q2 hc] at this
          have h9 := this.c0 (md_readE (md_c0 A) (xs (1 + 4 * it + 1)).toInt (xs (1 + 4 * it + 2)).toInt)
          rw [show md_u (md_c0 A) 0 0 (md_readE (md_c0 A) (xs (1 + 4 * it + 1)).toInt (xs (1 + 4 * it + 2)).toInt) = A2 from ((hr.2 _ hc rfl).2).symm] at h9
          exact h9
      refine qx_iload C d_Z_law_406 rfl ?_
      refine nx_if_ne C 423 d_Z_law_408 (by decide) (by omega) (fun hc => ?_) (fun hc => ?_)
      · exact qx_goto C d_Z_law_423 (tgt := 774) (by decide) (Next A2 _ _ _ _ _ hIA hH3 (by omega) (by omega))
      · obtain ⟨f2, o1, o2⟩ := (p1 hc).2
        have o3 := ((e2 A2).2).trans o1
        refine qx_aload_n C d_Z_law_411 rfl rfl ?_
        refine qx_iconst C d_Z_law_412 (v := iI (0)) rfl ?_
        refine qx_lald C d_Z_law_413 o3 (iI_in (by decide) (by decide) (by decide)) ?_
        rw [iI_clamp (by decide) (by decide), show ((0 : Int)).toNat = 0 from rfl, o2]
        refine qx_iload C d_Z_law_414 rfl ?_
        refine qx_i2l C d_Z_law_416 ?_
        refine qx_lcmp C d_Z_law_417 ?_
        rw [(hr.1 hc).1, lg_cmp_self]
        refine nx_if_eq C 423 d_Z_law_418 (by decide) (by omega) (fun _ => ?_) (fun z => absurd rfl z)
        exact qx_goto C d_Z_law_423 (tgt := 774) (by decide) (Next A2 _ _ _ _ _ hIA hH3 (by omega) (by omega))
    · refine qx_tabIn C d_Z_law_49 (off := 377) (tgt := 426) (by decide) (by decide) (by decide) (by decide) ?_
      obtain ⟨g, I, m, E, N, f, rfl, hcr, hmd, hgo⟩ := hH1
      refine qx_aload_n C d_Z_law_426 rfl rfl ?_
      refine qx_aload_n C d_Z_law_427 rfl rfl ?_
      refine qx_iload C d_Z_law_428 rfl ?_
      refine qx_iconst C d_Z_law_430 (v := iI (1)) rfl ?_
      refine nx_iadd C d_Z_law_431 ?_
      refine Ld _ _ _ _ _ _ _ 1 (by decide) (by decide) d_Z_law_432 ?_
      have hH2 : lw_H G ad iv o adD ivD out (md_c0 A) A (ch G ad iv g I m E N) := ⟨g, I, m, E, N, f, rfl, hcr, hmd, hgo⟩
      refine lw_cj C (s_Z_law_433 (ch_Q Jc)) (c_outcome l G b Jc hcr hV1 (rg (1 + 4 * it + 1)) 0) w_Q_outcome rfl rfl (Nat.le_of_ble_eq_true rfl) (by omega) (by decide) (by omega) ?_
      generalize ch G ad iv g I m E N = h2 at hH2
      obtain ⟨e1, e2⟩ := hH2.md hD
      rw [e1]
      have e3 : md_h G o adD ivD h2 A o = some (.inr (8, md_f adD A)) := md_h_o
      refine qx_aload_n C d_Z_law_436 rfl rfl ?_
      refine qx_aload_n C d_Z_law_437 rfl rfl ?_
      refine qx_iload C d_Z_law_438 rfl ?_
      refine qx_iconst C d_Z_law_440 (v := iI (1)) rfl ?_
      refine nx_iadd C d_Z_law_441 ?_
      refine Ld _ _ _ _ _ _ _ 1 (by decide) (by decide) d_Z_law_442 ?_
      refine lw_cj C (s_Z_law_443 e3) (m_outcome l G b JD h2 (rg (1 + 4 * it + 1)) hV1.2 0) w_D_outcome rfl rfl (Nat.le_of_ble_eq_true rfl) (by omega) (by decide) (by omega) ?_
      refine qx_icmp_eq C d_Z_law_446 (tgt := 774) (by decide) (fun _ => ?_) (fun z => absurd rfl z)
      exact Next (md_c0 A) _ _ _ _ _ hI1' (e2 _).1 (by omega) (by omega)
    · refine qx_tabIn C d_Z_law_49 (off := 402) (tgt := 451) (by decide) (by decide) (by decide) (by decide) ?_
      obtain ⟨g, I, m, E, N, f, rfl, hcr, hmd, hgo⟩ := hH1
      refine qx_aload_n C d_Z_law_451 rfl rfl ?_
      refine qx_aload_n C d_Z_law_452 rfl rfl ?_
      refine qx_iload C d_Z_law_453 rfl ?_
      refine qx_iconst C d_Z_law_455 (v := iI (1)) rfl ?_
      refine nx_iadd C d_Z_law_456 ?_
      refine Ld _ _ _ _ _ _ _ 1 (by decide) (by decide) d_Z_law_457 ?_
      have hH2 : lw_H G ad iv o adD ivD out (md_c0 A) A (ch G ad iv g I m E N) := ⟨g, I, m, E, N, f, rfl, hcr, hmd, hgo⟩
      refine lw_cj C (s_Z_law_458 (ch_Q Jc)) (c_value l G b Jc hcr hV1 (rg (1 + 4 * it + 1)) 0) w_Q_value rfl rfl (Nat.le_of_ble_eq_true rfl) (by omega) (by decide) (by omega) ?_
      generalize ch G ad iv g I m E N = h2 at hH2
      obtain ⟨e1, e2⟩ := hH2.md hD
      rw [e1]
      have e3 : md_h G o adD ivD h2 A o = some (.inr (8, md_f adD A)) := md_h_o
      refine qx_aload_n C d_Z_law_461 rfl rfl ?_
      refine qx_aload_n C d_Z_law_462 rfl rfl ?_
      refine qx_iload C d_Z_law_463 rfl ?_
      refine qx_iconst C d_Z_law_465 (v := iI (1)) rfl ?_
      refine nx_iadd C d_Z_law_466 ?_
      refine Ld _ _ _ _ _ _ _ 1 (by decide) (by decide) d_Z_law_467 ?_
      refine lw_cj C (s_Z_law_468 e3) (m_value l G b JD h2 (rg (1 + 4 * it + 1)) hV1.2 0) w_D_value rfl rfl (Nat.le_of_ble_eq_true rfl) (by omega) (by decide) (by omega) ?_
      refine qx_icmp_eq C d_Z_law_471 (tgt := 774) (by decide) (fun _ => ?_) (fun z => absurd rfl z)
      exact Next (md_c0 A) _ _ _ _ _ hI1' (e2 _).1 (by omega) (by omega)
    · refine qx_tabIn C d_Z_law_49 (off := 427) (tgt := 476) (by decide) (by decide) (by decide) (by decide) ?_
      obtain ⟨r, A2, hr, hI2⟩ : ∃ (r : Int) (A2 : md_A), ((md_compC (md_c0 A) (xs (1 + 4 * it + 1)).toInt → r = 1 ∧ A2 = md_compact (md_c0 A) (xs (1 + 4 * it + 1)).toInt) ∧ (¬ (md_compC (md_c0 A) (xs (1 + 4 * it + 1)).toInt) → r = 0 ∧ A2 = md_c0 A)) ∧ Inv c0 (2 * it + 2) A2 := by
        by_cases hc : md_compC (md_c0 A) (xs (1 + 4 * it + 1)).toInt
        · exact ⟨_, _, ⟨fun _ => ⟨rfl, rfl⟩, fun z => absurd hc z⟩, (hI1.comp hBB hc).le (by omega)⟩
        · exact ⟨_, _, ⟨fun z => absurd z hc, fun _ => ⟨rfl, rfl⟩⟩, hI1'⟩
      obtain ⟨g, I, m, E, N, f, rfl, hcr, hmd, hgo⟩ := hH1
      refine qx_aload_n C d_Z_law_476 rfl rfl ?_
      refine qx_aload_n C d_Z_law_477 rfl rfl ?_
      refine qx_iload C d_Z_law_478 rfl ?_
      refine qx_iconst C d_Z_law_480 (v := iI (1)) rfl ?_
      refine nx_iadd C d_Z_law_481 ?_
      refine Ld _ _ _ _ _ _ _ 1 (by decide) (by decide) d_Z_law_482 ?_
      refine lw_cp C (s_Z_law_483 (ch_Q Jc)) (c_compact l G b Jc hcr hS1 (rg (1 + 4 * it + 1)) (fun s hs => hI1.term0 hBB hs) hr 0) w_Q_compact rfl rfl (Nat.le_of_ble_eq_true rfl) (by omega) (by decide) (by omega) (fun h2 hP => ?_)
      have hH2 := lw_H.ofT hD hmd hgo hP
      obtain ⟨e1, e2⟩ := hH2.md hD
      rw [e1]
      have e3 : md_h G o adD ivD h2 A o = some (.inr (8, md_f adD A)) := md_h_o
      refine qx_aload_n C d_Z_law_486 rfl rfl ?_
      refine qx_aload_n C d_Z_law_487 rfl rfl ?_
      refine qx_iload C d_Z_law_488 rfl ?_
      refine qx_iconst C d_Z_law_490 (v := iI (1)) rfl ?_
      refine nx_iadd C d_Z_law_491 ?_
      refine Ld _ _ _ _ _ _ _ 1 (by decide) (by decide) d_Z_law_492 ?_
      refine lw_cj C (s_Z_law_493 e3) (m_compact l G b JD h2 (rg (1 + 4 * it + 1)) hV1.1.1 (fun h0 h5 => ⟨(hT1 _ h0 h5).1.1, (hT1 _ h0 h5).1.2.2.1⟩) hr 0) w_D_compact rfl rfl (Nat.le_of_ble_eq_true rfl) (by omega) (by decide) (by omega) ?_
      refine qx_icmp_eq C d_Z_law_496 (tgt := 774) (by decide) (fun _ => ?_) (fun z => absurd rfl z)
      exact Next A2 _ _ _ _ _ hI2 (e2 _).1 (by omega) (by omega)
    · refine qx_tabIn C d_Z_law_49 (off := 452) (tgt := 501) (by decide) (by decide) (by decide) (by decide) ?_
      obtain ⟨r, A2, hr, hI2⟩ : ∃ (r : Int) (A2 : md_A), (((0 ≤ (xs (1 + 4 * it + 1)).toInt ∧ (xs (1 + 4 * it + 1)).toInt < 5) ∧ md_c0 A 1 (xs (1 + 4 * it + 1)).toInt = 0 → r = 1 ∧ A2 = md_crash (md_c0 A) (xs (1 + 4 * it + 1)).toInt) ∧ (¬ ((0 ≤ (xs (1 + 4 * it + 1)).toInt ∧ (xs (1 + 4 * it + 1)).toInt < 5) ∧ md_c0 A 1 (xs (1 + 4 * it + 1)).toInt = 0) → r = 0 ∧ A2 = md_c0 A)) ∧ Inv c0 (2 * it + 2) A2 := by
        by_cases hc : (0 ≤ (xs (1 + 4 * it + 1)).toInt ∧ (xs (1 + 4 * it + 1)).toInt < 5) ∧ md_c0 A 1 (xs (1 + 4 * it + 1)).toInt = 0
        · exact ⟨_, _, ⟨fun _ => ⟨rfl, rfl⟩, fun z => absurd hc z⟩, (hI1.crash hBB hc).le (by omega)⟩
        · exact ⟨_, _, ⟨fun z => absurd z hc, fun _ => ⟨rfl, rfl⟩⟩, hI1'⟩
      obtain ⟨g, I, m, E, N, f, rfl, hcr, hmd, hgo⟩ := hH1
      refine qx_aload_n C d_Z_law_501 rfl rfl ?_
      refine qx_aload_n C d_Z_law_502 rfl rfl ?_
      refine qx_iload C d_Z_law_503 rfl ?_
      refine qx_iconst C d_Z_law_505 (v := iI (1)) rfl ?_
      refine nx_iadd C d_Z_law_506 ?_
      refine Ld _ _ _ _ _ _ _ 1 (by decide) (by decide) d_Z_law_507 ?_
      refine lw_cp C (s_Z_law_508 (ch_Q Jc)) (c_crash l G b Jc hcr hS1 (rg (1 + 4 * it + 1)) hr 0) w_Q_crash rfl rfl (Nat.le_of_ble_eq_true rfl) (by omega) (by decide) (by omega) (fun h2 hP => ?_)
      have hH2 := lw_H.ofT hD hmd hgo hP
      obtain ⟨e1, e2⟩ := hH2.md hD
      rw [e1]
      have e3 : md_h G o adD ivD h2 A o = some (.inr (8, md_f adD A)) := md_h_o
      refine qx_aload_n C d_Z_law_511 rfl rfl ?_
      refine qx_aload_n C d_Z_law_512 rfl rfl ?_
      refine qx_iload C d_Z_law_513 rfl ?_
      refine qx_iconst C d_Z_law_515 (v := iI (1)) rfl ?_
      refine nx_iadd C d_Z_law_516 ?_
      refine Ld _ _ _ _ _ _ _ 1 (by decide) (by decide) d_Z_law_517 ?_
      refine lw_cj C (s_Z_law_518 e3) (m_crash l G b JD h2 (rg (1 + 4 * it + 1)) hV1 hr 0) w_D_crash rfl rfl (Nat.le_of_ble_eq_true rfl) (by omega) (by decide) (by omega) ?_
      refine qx_icmp_eq C d_Z_law_521 (tgt := 774) (by decide) (fun _ => ?_) (fun z => absurd rfl z)
      exact Next A2 _ _ _ _ _ hI2 (e2 _).1 (by omega) (by omega)
    · refine qx_tabIn C d_Z_law_49 (off := 477) (tgt := 526) (by decide) (by decide) (by decide) (by decide) ?_
      obtain ⟨r, A2, hr, hI2⟩ : ∃ (r : Int) (A2 : md_A), (((0 ≤ (xs (1 + 4 * it + 1)).toInt ∧ (xs (1 + 4 * it + 1)).toInt < 5) ∧ ¬ md_c0 A 1 (xs (1 + 4 * it + 1)).toInt = 0 → r = 1 ∧ A2 = md_u (md_c0 A) 1 (xs (1 + 4 * it + 1)).toInt 0) ∧ (¬ ((0 ≤ (xs (1 + 4 * it + 1)).toInt ∧ (xs (1 + 4 * it + 1)).toInt < 5) ∧ ¬ md_c0 A 1 (xs (1 + 4 * it + 1)).toInt = 0) → r = 0 ∧ A2 = md_c0 A)) ∧ Inv c0 (2 * it + 2) A2 := by
        by_cases hc : (0 ≤ (xs (1 + 4 * it + 1)).toInt ∧ (xs (1 + 4 * it + 1)).toInt < 5) ∧ ¬ md_c0 A 1 (xs (1 + 4 * it + 1)).toInt = 0
        · exact ⟨_, _, ⟨fun _ => ⟨rfl, rfl⟩, fun z => absurd hc z⟩, (hI1.restart hc).le (by omega)⟩
        · exact ⟨_, _, ⟨fun z => absurd z hc, fun _ => ⟨rfl, rfl⟩⟩, hI1'⟩
      obtain ⟨g, I, m, E, N, f, rfl, hcr, hmd, hgo⟩ := hH1
      refine qx_aload_n C d_Z_law_526 rfl rfl ?_
      refine qx_aload_n C d_Z_law_527 rfl rfl ?_
      refine qx_iload C d_Z_law_528 rfl ?_
      refine qx_iconst C d_Z_law_530 (v := iI (1)) rfl ?_
      refine nx_iadd C d_Z_law_531 ?_
      refine Ld _ _ _ _ _ _ _ 1 (by decide) (by decide) d_Z_law_532 ?_
      refine lw_cp C (s_Z_law_533 (ch_Q Jc)) (c_restart l G b Jc hcr hS1 (rg (1 + 4 * it + 1)) hr 0) w_Q_restart rfl rfl (Nat.le_of_ble_eq_true rfl) (by omega) (by decide) (by omega) (fun h2 hP => ?_)
      have hH2 := lw_H.ofT hD hmd hgo hP
      obtain ⟨e1, e2⟩ := hH2.md hD
      rw [e1]
      have e3 : md_h G o adD ivD h2 A o = some (.inr (8, md_f adD A)) := md_h_o
      refine qx_aload_n C d_Z_law_536 rfl rfl ?_
      refine qx_aload_n C d_Z_law_537 rfl rfl ?_
      refine qx_iload C d_Z_law_538 rfl ?_
      refine qx_iconst C d_Z_law_540 (v := iI (1)) rfl ?_
      refine nx_iadd C d_Z_law_541 ?_
      refine Ld _ _ _ _ _ _ _ 1 (by decide) (by decide) d_Z_law_542 ?_
      refine lw_cj C (s_Z_law_543 e3) (m_restart l G b JD h2 (rg (1 + 4 * it + 1)) hV1.1.1 hr 0) w_D_restart rfl rfl (Nat.le_of_ble_eq_true rfl) (by omega) (by decide) (by omega) ?_
      refine qx_icmp_eq C d_Z_law_546 (tgt := 774) (by decide) (fun _ => ?_) (fun z => absurd rfl z)
      exact Next A2 _ _ _ _ _ hI2 (e2 _).1 (by omega) (by omega)
    · refine qx_tabIn C d_Z_law_49 (off := 502) (tgt := 551) (by decide) (by decide) (by decide) (by decide) ?_
      obtain ⟨r, A2, hr, hI2⟩ : ∃ (r : Int) (A2 : md_A), ((0 ≤ (xs (1 + 4 * it + 1)).toInt ∧ (xs (1 + 4 * it + 1)).toInt < md_c0 A 27 0 → r = md_get (md_c0 A) (xs (1 + 4 * it + 1)).toInt 29 0 ∧ A2 = md_deliver (md_c0 A) (xs (1 + 4 * it + 1)).toInt) ∧ (¬ (0 ≤ (xs (1 + 4 * it + 1)).toInt ∧ (xs (1 + 4 * it + 1)).toInt < md_c0 A 27 0) → r = -1 ∧ A2 = md_c0 A)) ∧ Inv c0 (2 * it + 2) A2 := by
        by_cases hc : 0 ≤ (xs (1 + 4 * it + 1)).toInt ∧ (xs (1 + 4 * it + 1)).toInt < md_c0 A 27 0
        · exact ⟨_, _, ⟨fun _ => ⟨rfl, rfl⟩, fun z => absurd hc z⟩, (hI1.deliver hBB hc).2.2⟩
        · exact ⟨_, _, ⟨fun z => absurd z hc, fun _ => ⟨rfl, rfl⟩⟩, hI1'⟩
      obtain ⟨g, I, m, E, N, f, rfl, hcr, hmd, hgo⟩ := hH1
      refine qx_aload_n C d_Z_law_551 rfl rfl ?_
      refine qx_aload_n C d_Z_law_552 rfl rfl ?_
      refine qx_iload C d_Z_law_553 rfl ?_
      refine qx_iconst C d_Z_law_555 (v := iI (1)) rfl ?_
      refine nx_iadd C d_Z_law_556 ?_
      refine Ld _ _ _ _ _ _ _ 1 (by decide) (by decide) d_Z_law_557 ?_
      refine lw_cp C (s_Z_law_558 (ch_Q Jc)) (c_deliver l G b Jc hcr hS1 (rg (1 + 4 * it + 1)) (fun h0 h1 => (hI1.deliver hBB ⟨h0, h1⟩).1) ⟨fun hc => by rw [(hI1.deliver hBB hc).2.1]; exact hr.1 hc, hr.2⟩ 0) w_Q_deliver rfl rfl (Nat.le_of_ble_eq_true rfl) (by omega) (by decide) (by omega) (fun h2 hP => ?_)
      have hH2 := lw_H.ofT hD hmd hgo hP
      obtain ⟨e1, e2⟩ := hH2.md hD
      rw [e1]
      have e3 : md_h G o adD ivD h2 A o = some (.inr (8, md_f adD A)) := md_h_o
      refine qx_aload_n C d_Z_law_561 rfl rfl ?_
      refine qx_aload_n C d_Z_law_562 rfl rfl ?_
      refine qx_iload C d_Z_law_563 rfl ?_
      refine qx_iconst C d_Z_law_565 (v := iI (1)) rfl ?_
      refine nx_iadd C d_Z_law_566 ?_
      refine Ld _ _ _ _ _ _ _ 1 (by decide) (by decide) d_Z_law_567 ?_
      refine lw_cj C (s_Z_law_568 e3) (m_deliver l G b JD h2 (rg (1 + 4 * it + 1)) hV1 (fun h0 h1 => (hI1.deliver hBB ⟨h0, h1⟩).1.1) hr 0) w_D_deliver rfl rfl (Nat.le_of_ble_eq_true rfl) (by omega) (by decide) (by omega) ?_
      refine qx_icmp_eq C d_Z_law_571 (tgt := 774) (by decide) (fun _ => ?_) (fun z => absurd rfl z)
      exact Next A2 _ _ _ _ _ hI2 (e2 _).1 (by omega) (by omega)
    · refine qx_tabIn C d_Z_law_49 (off := 527) (tgt := 576) (by decide) (by decide) (by decide) (by decide) ?_
      obtain ⟨r, A2, hr, hI2⟩ : ∃ (r : Int) (A2 : md_A), ((0 ≤ (xs (1 + 4 * it + 1)).toInt ∧ (xs (1 + 4 * it + 1)).toInt < md_c0 A 27 0 → r = 1 ∧ A2 = md_take (md_c0 A) (xs (1 + 4 * it + 1)).toInt) ∧ (¬ (0 ≤ (xs (1 + 4 * it + 1)).toInt ∧ (xs (1 + 4 * it + 1)).toInt < md_c0 A 27 0) → r = 0 ∧ A2 = md_c0 A)) ∧ Inv c0 (2 * it + 2) A2 := by
        by_cases hc : 0 ≤ (xs (1 + 4 * it + 1)).toInt ∧ (xs (1 + 4 * it + 1)).toInt < md_c0 A 27 0
        · exact ⟨_, _, ⟨fun _ => ⟨rfl, rfl⟩, fun z => absurd hc z⟩, (hI1.lose hc).le (by omega)⟩
        · exact ⟨_, _, ⟨fun z => absurd z hc, fun _ => ⟨rfl, rfl⟩⟩, hI1'⟩
      obtain ⟨g, I, m, E, N, f, rfl, hcr, hmd, hgo⟩ := hH1
      refine qx_aload_n C d_Z_law_576 rfl rfl ?_
      refine qx_aload_n C d_Z_law_577 rfl rfl ?_
      refine qx_iload C d_Z_law_578 rfl ?_
      refine qx_iconst C d_Z_law_580 (v := iI (1)) rfl ?_
      refine nx_iadd C d_Z_law_581 ?_
      refine Ld _ _ _ _ _ _ _ 1 (by decide) (by decide) d_Z_law_582 ?_
      refine lw_cp C (s_Z_law_583 (ch_Q Jc)) (c_lose l G b Jc hcr hV1 (rg (1 + 4 * it + 1)) hr 0) w_Q_lose rfl rfl (Nat.le_of_ble_eq_true rfl) (by omega) (by decide) (by omega) (fun h2 hP => ?_)
      have hH2 := lw_H.ofT hD hmd hgo hP
      obtain ⟨e1, e2⟩ := hH2.md hD
      rw [e1]
      have e3 : md_h G o adD ivD h2 A o = some (.inr (8, md_f adD A)) := md_h_o
      refine qx_aload_n C d_Z_law_586 rfl rfl ?_
      refine qx_aload_n C d_Z_law_587 rfl rfl ?_
      refine qx_iload C d_Z_law_588 rfl ?_
      refine qx_iconst C d_Z_law_590 (v := iI (1)) rfl ?_
      refine nx_iadd C d_Z_law_591 ?_
      refine Ld _ _ _ _ _ _ _ 1 (by decide) (by decide) d_Z_law_592 ?_
      refine lw_cj C (s_Z_law_593 e3) (m_lose l G b JD h2 (rg (1 + 4 * it + 1)) hV1.1.2 hr 0) w_D_lose rfl rfl (Nat.le_of_ble_eq_true rfl) (by omega) (by decide) (by omega) ?_
      refine qx_icmp_eq C d_Z_law_596 (tgt := 774) (by decide) (fun _ => ?_) (fun z => absurd rfl z)
      exact Next A2 _ _ _ _ _ hI2 (e2 _).1 (by omega) (by omega)
    · refine qx_tabIn C d_Z_law_49 (off := 552) (tgt := 601) (by decide) (by decide) (by decide) (by decide) ?_
      obtain ⟨g, I, m, E, N, f, rfl, hcr, hmd, hgo⟩ := hH1
      refine qx_aload_n C d_Z_law_601 rfl rfl ?_
      have hH2 : lw_H G ad iv o adD ivD out (md_c0 A) A (ch G ad iv g I m E N) := ⟨g, I, m, E, N, f, rfl, hcr, hmd, hgo⟩
      refine lw_cj C (s_Z_law_602 (ch_Q Jc)) (c_waiting l G b Jc hcr 0) w_Q_waiting rfl rfl (Nat.le_of_ble_eq_true rfl) (by omega) (by decide) (by omega) ?_
      generalize ch G ad iv g I m E N = h2 at hH2
      obtain ⟨e1, e2⟩ := hH2.md hD
      rw [e1]
      have e3 : md_h G o adD ivD h2 A o = some (.inr (8, md_f adD A)) := md_h_o
      refine qx_aload_n C d_Z_law_605 rfl rfl ?_
      refine lw_cj C (s_Z_law_606 e3) (m_waiting l G b JD h2 0) w_D_waiting rfl rfl (Nat.le_of_ble_eq_true rfl) (by omega) (by decide) (by omega) ?_
      refine qx_icmp_eq C d_Z_law_609 (tgt := 774) (by decide) (fun _ => ?_) (fun z => absurd rfl z)
      exact Next (md_c0 A) _ _ _ _ _ hI1' (e2 _).1 (by omega) (by omega)
    · refine qx_tabIn C d_Z_law_49 (off := 565) (tgt := 614) (by decide) (by decide) (by decide) (by decide) ?_
      obtain ⟨g, I, m, E, N, f, rfl, hcr, hmd, hgo⟩ := hH1
      refine qx_aload_n C d_Z_law_614 rfl rfl ?_
      refine qx_aload_n C d_Z_law_615 rfl rfl ?_
      refine qx_iload C d_Z_law_616 rfl ?_
      refine qx_iconst C d_Z_law_618 (v := iI (1)) rfl ?_
      refine nx_iadd C d_Z_law_619 ?_
      refine Ld _ _ _ _ _ _ _ 1 (by decide) (by decide) d_Z_law_620 ?_
      refine qx_aload_n C d_Z_law_621 rfl rfl ?_
      refine qx_iload C d_Z_law_622 rfl ?_
      refine qx_iconst C d_Z_law_624 (v := iI (2)) rfl ?_
      refine nx_iadd C d_Z_law_625 ?_
      refine Ld _ _ _ _ _ _ _ 2 (by decide) (by decide) d_Z_law_626 ?_
      have hH2 : lw_H G ad iv o adD ivD out (md_c0 A) A (ch G ad iv g I m E N) := ⟨g, I, m, E, N, f, rfl, hcr, hmd, hgo⟩
      refine lw_cj C (s_Z_law_627 (ch_Q Jc)) (c_message l G b Jc hcr hV1 (rg (1 + 4 * it + 1)) (rg (1 + 4 * it + 2)) (fun h0 h1 => hI1.yes01 h0 h1) 0) w_Q_message rfl rfl (Nat.le_of_ble_eq_true rfl) (by omega) (by decide) (by omega) ?_
      generalize ch G ad iv g I m E N = h2 at hH2
      obtain ⟨e1, e2⟩ := hH2.md hD
      rw [e1]
      have e3 : md_h G o adD ivD h2 A o = some (.inr (8, md_f adD A)) := md_h_o
      refine qx_aload_n C d_Z_law_630 rfl rfl ?_
      refine qx_aload_n C d_Z_law_631 rfl rfl ?_
      refine qx_iload C d_Z_law_632 rfl ?_
      refine qx_iconst C d_Z_law_634 (v := iI (1)) rfl ?_
      refine nx_iadd C d_Z_law_635 ?_
      refine Ld _ _ _ _ _ _ _ 1 (by decide) (by decide) d_Z_law_636 ?_
      refine qx_aload_n C d_Z_law_637 rfl rfl ?_
      refine qx_iload C d_Z_law_638 rfl ?_
      refine qx_iconst C d_Z_law_640 (v := iI (2)) rfl ?_
      refine nx_iadd C d_Z_law_641 ?_
      refine Ld _ _ _ _ _ _ _ 2 (by decide) (by decide) d_Z_law_642 ?_
      refine lw_cj C (s_Z_law_643 e3) (m_message l G b JD h2 (rg (1 + 4 * it + 1)) (rg (1 + 4 * it + 2)) hV1.1.1 hV1.1.2 0) w_D_message rfl rfl (Nat.le_of_ble_eq_true rfl) (by omega) (by decide) (by omega) ?_
      refine qx_icmp_eq C d_Z_law_646 (tgt := 774) (by decide) (fun _ => ?_) (fun z => absurd rfl z)
      exact Next (md_c0 A) _ _ _ _ _ hI1' (e2 _).1 (by omega) (by omega)
    · refine qx_tabIn C d_Z_law_49 (off := 602) (tgt := 651) (by decide) (by decide) (by decide) (by decide) ?_
      obtain ⟨g, I, m, E, N, f, rfl, hcr, hmd, hgo⟩ := hH1
      refine qx_aload_n C d_Z_law_651 rfl rfl ?_
      refine qx_aload_n C d_Z_law_652 rfl rfl ?_
      refine qx_iload C d_Z_law_653 rfl ?_
      refine qx_iconst C d_Z_law_655 (v := iI (1)) rfl ?_
      refine nx_iadd C d_Z_law_656 ?_
      refine Ld _ _ _ _ _ _ _ 1 (by decide) (by decide) d_Z_law_657 ?_
      refine qx_aload_n C d_Z_law_658 rfl rfl ?_
      refine qx_iload C d_Z_law_659 rfl ?_
      refine qx_iconst C d_Z_law_661 (v := iI (2)) rfl ?_
      refine nx_iadd C d_Z_law_662 ?_
      refine Ld _ _ _ _ _ _ _ 2 (by decide) (by decide) d_Z_law_663 ?_
      have hH2 : lw_H G ad iv o adD ivD out (md_c0 A) A (ch G ad iv g I m E N) := ⟨g, I, m, E, N, f, rfl, hcr, hmd, hgo⟩
      refine lw_cj C (s_Z_law_664 (ch_Q Jc)) (c_state l G b Jc hcr hS1 (rg (1 + 4 * it + 1)) (rg (1 + 4 * it + 2)) 0) w_Q_state rfl rfl (Nat.le_of_ble_eq_true rfl) (by omega) (by decide) (by omega) ?_
      generalize ch G ad iv g I m E N = h2 at hH2
      obtain ⟨e1, e2⟩ := hH2.md hD
      rw [e1]
      have e3 : md_h G o adD ivD h2 A o = some (.inr (8, md_f adD A)) := md_h_o
      refine qx_aload_n C d_Z_law_667 rfl rfl ?_
      refine qx_aload_n C d_Z_law_668 rfl rfl ?_
      refine qx_iload C d_Z_law_669 rfl ?_
      refine qx_iconst C d_Z_law_671 (v := iI (1)) rfl ?_
      refine nx_iadd C d_Z_law_672 ?_
      refine Ld _ _ _ _ _ _ _ 1 (by decide) (by decide) d_Z_law_673 ?_
      refine qx_aload_n C d_Z_law_674 rfl rfl ?_
      refine qx_iload C d_Z_law_675 rfl ?_
      refine qx_iconst C d_Z_law_677 (v := iI (2)) rfl ?_
      refine nx_iadd C d_Z_law_678 ?_
      refine Ld _ _ _ _ _ _ _ 2 (by decide) (by decide) d_Z_law_679 ?_
      refine lw_cj C (s_Z_law_680 e3) (m_state l G b JD h2 (rg (1 + 4 * it + 1)) (rg (1 + 4 * it + 2)) hV1.1.1 (fun h0 h5 => (hT1 _ h0 h5).1.1) 0) w_D_state rfl rfl (Nat.le_of_ble_eq_true rfl) (by omega) (by decide) (by omega) ?_
      refine qx_icmp_eq C d_Z_law_683 (tgt := 774) (by decide) (fun _ => ?_) (fun z => absurd rfl z)
      exact Next (md_c0 A) _ _ _ _ _ hI1' (e2 _).1 (by omega) (by omega)
    · refine qx_tabIn C d_Z_law_49 (off := 639) (tgt := 688) (by decide) (by decide) (by decide) (by decide) ?_
      obtain ⟨g, I, m, E, N, f, rfl, hcr, hmd, hgo⟩ := hH1
      refine qx_aload_n C d_Z_law_688 rfl rfl ?_
      refine qx_aload_n C d_Z_law_689 rfl rfl ?_
      refine qx_iload C d_Z_law_690 rfl ?_
      refine qx_iconst C d_Z_law_692 (v := iI (1)) rfl ?_
      refine nx_iadd C d_Z_law_693 ?_
      refine Ld _ _ _ _ _ _ _ 1 (by decide) (by decide) d_Z_law_694 ?_
      refine qx_aload_n C d_Z_law_695 rfl rfl ?_
      refine qx_iload C d_Z_law_696 rfl ?_
      refine qx_iconst C d_Z_law_698 (v := iI (2)) rfl ?_
      refine nx_iadd C d_Z_law_699 ?_
      refine Ld _ _ _ _ _ _ _ 2 (by decide) (by decide) d_Z_law_700 ?_
      refine qx_aload_n C d_Z_law_701 rfl rfl ?_
      refine qx_iload C d_Z_law_702 rfl ?_
      refine qx_iconst C d_Z_law_704 (v := iI (3)) rfl ?_
      refine nx_iadd C d_Z_law_705 ?_
      refine Ld _ _ _ _ _ _ _ 3 (by decide) (by decide) d_Z_law_706 ?_
      have hH2 : lw_H G ad iv o adD ivD out (md_c0 A) A (ch G ad iv g I m E N) := ⟨g, I, m, E, N, f, rfl, hcr, hmd, hgo⟩
      refine lw_cj C (s_Z_law_707 (ch_Q Jc)) (c_entry l G b Jc hcr hS1 (rg (1 + 4 * it + 1)) (rg (1 + 4 * it + 2)) (rg (1 + 4 * it + 3)) 0) w_Q_entry rfl rfl (Nat.le_of_ble_eq_true rfl) (by omega) (by decide) (by omega) ?_
      generalize ch G ad iv g I m E N = h2 at hH2
      obtain ⟨e1, e2⟩ := hH2.md hD
      rw [e1]
      have e3 : md_h G o adD ivD h2 A o = some (.inr (8, md_f adD A)) := md_h_o
      refine qx_aload_n C d_Z_law_710 rfl rfl ?_
      refine qx_aload_n C d_Z_law_711 rfl rfl ?_
      refine qx_iload C d_Z_law_712 rfl ?_
      refine qx_iconst C d_Z_law_714 (v := iI (1)) rfl ?_
      refine nx_iadd C d_Z_law_715 ?_
      refine Ld _ _ _ _ _ _ _ 1 (by decide) (by decide) d_Z_law_716 ?_
      refine qx_aload_n C d_Z_law_717 rfl rfl ?_
      refine qx_iload C d_Z_law_718 rfl ?_
      refine qx_iconst C d_Z_law_720 (v := iI (2)) rfl ?_
      refine nx_iadd C d_Z_law_721 ?_
      refine Ld _ _ _ _ _ _ _ 2 (by decide) (by decide) d_Z_law_722 ?_
      refine qx_aload_n C d_Z_law_723 rfl rfl ?_
      refine qx_iload C d_Z_law_724 rfl ?_
      refine qx_iconst C d_Z_law_726 (v := iI (3)) rfl ?_
      refine nx_iadd C d_Z_law_727 ?_
      refine Ld _ _ _ _ _ _ _ 3 (by decide) (by decide) d_Z_law_728 ?_
      refine lw_cj C (s_Z_law_729 e3) (m_entry l G b JD h2 (rg (1 + 4 * it + 1)) (rg (1 + 4 * it + 2)) (rg (1 + 4 * it + 3)) (fun h0 h5 => (hT1 _ h0 h5).1.1) 0) w_D_entry rfl rfl (Nat.le_of_ble_eq_true rfl) (by omega) (by decide) (by omega) ?_
      refine qx_icmp_eq C d_Z_law_732 (tgt := 774) (by decide) (fun _ => ?_) (fun z => absurd rfl z)
      exact Next (md_c0 A) _ _ _ _ _ hI1' (e2 _).1 (by omega) (by omega)
    · refine qx_tabIn C d_Z_law_49 (off := 688) (tgt := 737) (by decide) (by decide) (by decide) (by decide) ?_
      obtain ⟨g, I, m, E, N, f, rfl, hcr, hmd, hgo⟩ := hH1
      refine qx_aload_n C d_Z_law_737 rfl rfl ?_
      refine qx_aload_n C d_Z_law_738 rfl rfl ?_
      refine qx_iload C d_Z_law_739 rfl ?_
      refine qx_iconst C d_Z_law_741 (v := iI (1)) rfl ?_
      refine nx_iadd C d_Z_law_742 ?_
      refine Ld _ _ _ _ _ _ _ 1 (by decide) (by decide) d_Z_law_743 ?_
      refine qx_aload_n C d_Z_law_744 rfl rfl ?_
      refine qx_iload C d_Z_law_745 rfl ?_
      refine qx_iconst C d_Z_law_747 (v := iI (2)) rfl ?_
      refine nx_iadd C d_Z_law_748 ?_
      refine Ld _ _ _ _ _ _ _ 2 (by decide) (by decide) d_Z_law_749 ?_
      have hH2 : lw_H G ad iv o adD ivD out (md_c0 A) A (ch G ad iv g I m E N) := ⟨g, I, m, E, N, f, rfl, hcr, hmd, hgo⟩
      refine lw_cj C (s_Z_law_750 (ch_Q Jc)) (c_stored' l G b Jc hcr hS1 (rg (1 + 4 * it + 1)) (rg (1 + 4 * it + 2)) 0) w_Q_stored rfl rfl (Nat.le_of_ble_eq_true rfl) (by omega) (by decide) (by omega) ?_
      generalize ch G ad iv g I m E N = h2 at hH2
      obtain ⟨e1, e2⟩ := hH2.md hD
      rw [e1]
      have e3 : md_h G o adD ivD h2 A o = some (.inr (8, md_f adD A)) := md_h_o
      refine qx_aload_n C d_Z_law_753 rfl rfl ?_
      refine qx_aload_n C d_Z_law_754 rfl rfl ?_
      refine qx_iload C d_Z_law_755 rfl ?_
      refine qx_iconst C d_Z_law_757 (v := iI (1)) rfl ?_
      refine nx_iadd C d_Z_law_758 ?_
      refine Ld _ _ _ _ _ _ _ 1 (by decide) (by decide) d_Z_law_759 ?_
      refine qx_aload_n C d_Z_law_760 rfl rfl ?_
      refine qx_iload C d_Z_law_761 rfl ?_
      refine qx_iconst C d_Z_law_763 (v := iI (2)) rfl ?_
      refine nx_iadd C d_Z_law_764 ?_
      refine Ld _ _ _ _ _ _ _ 2 (by decide) (by decide) d_Z_law_765 ?_
      refine lw_cj C (s_Z_law_766 e3) (m_stored l G b JD h2 (rg (1 + 4 * it + 1)) (rg (1 + 4 * it + 2)) hV1.1.1 (fun h0 h5 => ⟨(hT1 _ h0 h5).1.1, (hT1 _ h0 h5).1.2.2.1⟩) 0) w_D_stored rfl rfl (Nat.le_of_ble_eq_true rfl) (by omega) (by decide) (by omega) ?_
      refine qx_icmp_eq C d_Z_law_769 (tgt := 774) (by decide) (fun _ => ?_) (fun z => absurd rfl z)
      exact Next (md_c0 A) _ _ _ _ _ hI1' (e2 _).1 (by omega) (by omega)
