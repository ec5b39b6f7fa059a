/-! safety: deliver, the rest -/
section SF16
variable {c0 : Int} {g g' : Gh} {A A' : md_A} {B : Int} {s : Nat} {l : List En}
/-- INSTALL -/
theorem dl_6 (H : Iv c0 B A g) (hL : Lo A) (hB : 0 ≤ B ∧ B ≤ 80000) (hs : s < 5) (hm : mok c0 g B (fun x => A 29 x)) (hk : A 29 0 = 6) (hT : A 29 3 ≤ A 2 s) : (∃ g', Iv c0 B (md_ins A s (A 29 1)) g') ∧ Lo (md_ins A s (A 29 1)) := by
  have hm0 := hm
  obtain ⟨⟨b0, b1, b2, b3, b4, b5, b6, b7, b8, b9⟩, -⟩ := hm
  have b1' : 0 ≤ A 29 1 ∧ A 29 1 < 5 := b1
  have b4' : 0 ≤ A 29 4 ∧ A 29 4 ≤ B := b4
  obtain ⟨fr, hfr, efr⟩ := k5_ex b1'.1 b1'.2
  obtain ⟨hb, hcm, hlb, -, h2, -⟩ := H.B1 hB.1 (by omega) hs
  have h27 := hL.1.1.2.1
  have r9 := hL.1.1.1 29 9
  unfold md_ins
  rw [efr]
  by_cases c1 : A 29 3 < A 2 s
  · rw [if_pos c1]
    exact ⟨⟨g, H.result h27 hB.1 hs hfr (by omega) (fun z => absurd rfl z)⟩, hL.result (by omega) (by omega) (by omega) (by omega)⟩
  · rw [if_neg c1]
    have HF := H.folF hs
    have LF := Lo.folF H hL hs
    have e29 : ∀ x, md_fol A s 29 x = A 29 x := fun x => md_fol_k (by decide)
    have e2 : md_fol A s 2 s = A 2 s := md_fol_k (by decide)
    have e14 : md_fol A s 14 s = A 14 s := md_fol_k (by decide)
    have e27 : md_fol A s 27 0 = A 27 0 := md_fol_k (by decide)
    have lgf := md_fol_lg A s
    have hTT : A 29 3 = A 2 s := by omega
    have hmF : mok c0 g B (fun x => md_fol A s 29 x) := hm0.cg (fun x _ _ => e29 x)
    by_cases c2 : A 14 s < A 29 4
    · rw [if_pos c2]
      obtain ⟨g', d1, d2, d4⟩ := HF.inst hs (by rw [md_fol_13]; decide) hmF (by rw [e29]; exact hk) (by rw [e29, e2]; exact hTT) (by rw [e14, e29]; exact c2)
      rw [e29, e2] at d4
      have hBF : md_B (md_fol A s) s := lgf.B hb
      have ik : ∀ k : Nat, k < 4 ∨ 12 < k → k ≠ 14 → ∀ x, md_insA (md_fol A s) s k x = md_fol A s k x := fun k a b x => by
        unfold md_insA
        rw [md_uk b, md_wn (by omega), md_uk (by omega), md_uk (by omega), md_uk (by omega), md_insL_k (by omega)]
      have i2 : md_insA (md_fol A s) s 2 s = A 2 s := (ik 2 (by omega) (by omega) _).trans e2
      have i27 : md_insA (md_fol A s) s 27 0 = A 27 0 := (ik 27 (by omega) (by omega) _).trans e27
      have hm4 : md_fol A s 4 s ≤ md_fol A s 29 4 := by
        rw [e29, lgf 4 (by decide) (by decide)]
        omega
      have okI : ok (md_fol A s) (md_insA (md_fol A s) s) s := by
        have okL : ok (md_fol A s) (md_insL (md_fol A s) s) s := by
          unfold md_insL
          split
          · have sh := md_shift_o (A := md_fol A s) (s := s) (i := md_fol A s 29 4) hBF.2.2.2.2.2 hm4
            exact ⟨fun k x k1 k0 ho => sh k x (fun z => ho (by unfold own; omega)) (fun z => ho (by unfold own; omega)), fun k x k1 k2 => md_shift_k (by omega), fun x => Or.inl (md_shift_k (by omega))⟩
          · exact ok_u (by omega) (Or.inr (by unfold own; omega))
        have ok7 : ∀ (X : md_A) (f : Int → Int), ok X (md_w X 7 (4 * s) (4 * s + 4) f) s := fun X f => ⟨fun k x k1 k0 ho => md_wn (fun z => ho (by unfold own; omega)), fun k x k1 k2 => md_wn (by omega), fun x => Or.inl (md_wn (by omega))⟩
        exact ((((okL.tr (ok_u (by omega) (Or.inr (by unfold own; omega)))).tr (ok_u (by omega) (Or.inr (by unfold own; omega)))).tr (ok_u (by omega) (Or.inr (by unfold own; omega)))).tr (ok7 _ _)).tr (ok_u (by omega) (Or.inr (by unfold own; omega)))
      have wI : md_ww (md_insA (md_fol A s) s) := by
        have wF := LF.1.1
        have wL : md_r (md_insL (md_fol A s) s) := by
          unfold md_insL
          split
          · unfold md_shift
            refine md_r_u (fun k x => ?_) ?_
            · unfold md_sh
              split
              · exact wF.1 _ _
              · exact wF.1 _ _
            · have h8 := hBF
              have hc4 : md_fol A s 29 4 = A 29 4 := e29 4
              omega
          · exact md_r_u wF.1 (by omega)
        refine ⟨?_, by rw [i27]; exact hL.1.1.2⟩
        unfold md_insA
        refine md_r_u (fun k x => ?_) (wF.1 _ _)
        unfold md_w
        split
        · exact wF.1 _ _
        · exact md_r_u (md_r_u (md_r_u wL (wF.1 _ _)) (wF.1 _ _)) (wF.1 _ _) k x
      have LI : Lo (md_insA (md_fol A s) s) := Lo.step HF LF hs okI wI ((LF.2.2.2 s hs).fol (by rw [ik 13 (by omega) (by omega)]; exact md_fol_13) (ik 16 (by omega) (by omega) _) (ik 1 (by omega) (by omega) _) (Or.inl (ik 15 (by omega) (by omega) _)))
      exact ⟨⟨g', d2.result (by rw [i27]; exact h27) hB.1 hs hfr b4' (fun _ => by rw [i2]; exact d4)⟩, LI.result (by omega) (by omega) (by omega) (by omega)⟩
    · rw [if_neg c2]
      obtain ⟨g', d1, d2, d4⟩ := HF.instO hs (by rw [md_fol_13]; decide) hmF (by rw [e29]; exact hk) (by rw [e29, e2]; exact hTT) (by rw [e14, e29]; exact c2)
      rw [e29, e2] at d4
      exact ⟨⟨g', d2.result (by rw [e27]; exact h27) hB.1 hs hfr b4' (fun _ => by rw [e2]; exact d4)⟩, LF.result (by omega) (by omega) (by omega) (by omega)⟩
/-- next, match of a leader -/
theorem Iv.nxt (H : Iv c0 B A g) (hs : s < 5) {c : Int} {n m : Int} (hc : 5 * (s : Int) ≤ c ∧ c < 5 * s + 5) (hn : 0 ≤ n ∧ n ≤ B + 1) (hm : 0 ≤ m ∧ m ≤ B) (h3 : A 13 s = 3 → (c - 5 * s).toNat ≠ s → m ≤ (ga g (A 2 s) (c - 5 * s).toNat : Int)) (e : ∀ (k : Nat) (x : Int), ¬ md_no k → ¬ ((k = 17 ∨ k = 18) ∧ x = c) → A' k x = A k x) (e17 : A' 17 c = n ∨ A' 17 c = A 17 c) (e18 : A' 18 c = m ∨ A' 18 c = A 18 c) : Iv c0 B A' g := by
  have HH := H
  obtain ⟨W, K, hsv, hms, hbd⟩ := H
  obtain ⟨⟨s1, s2, s3, s4, s5, s6, s7, s9, s10, s11, s12⟩, s8⟩ := hsv s hs
  have ek : ∀ k : Nat, ¬ md_no k → k ≠ 17 → k ≠ 18 → ∀ x, A' k x = A k x := fun k a b d x => e k x a (by omega)
  refine HH.step (Int.le_refl B) (gle.rf g) W K (s := s) ⟨?_, by rw [ek 8 (by unfold md_no; omega) (by omega) (by omega)]; exact s8⟩ (fun u hu hus => ⟨⟨fun k hk => ek k (by unfold md_no; omega) (by omega) (by omega) _, fun k k1 k2 i i0 i1 => ek k (by unfold md_no; omega) (by omega) (by omega) _, fun v hv => e 18 _ (by unfold md_no; omega) (by omega)⟩, rfl, fun t => rfl, fun _ => rfl, fun _ => rfl, fun _ _ => rfl, fun _ q => q⟩) ⟨ek 27 (by unfold md_no; omega) (by omega) (by omega) 0, fun x => ek 28 (by unfold md_no; omega) (by omega) (by omega) x⟩ ⟨fun u hu => ?_, hbd.2.1, fun x => ?_, fun x => ?_, fun x => ?_⟩
  · unfold Sv sv_V sv_3 sv_2
    rw [ek 2 (by unfold md_no; omega) (by omega) (by omega), ek 3 (by unfold md_no; omega) (by omega) (by omega), ek 4 (by unfold md_no; omega) (by omega) (by omega), ek 13 (by unfold md_no; omega) (by omega) (by omega), ek 14 (by unfold md_no; omega) (by omega) (by omega), ek 16 (by unfold md_no; omega) (by omega) (by omega)]
    refine ⟨s1.cg (fun k hk => ek k (by unfold md_no; omega) (by omega) (by omega) _) (fun k k1 k2 i _ _ => ek k (by unfold md_no; omega) (by omega) (by omega) _), s2, s3, s4, s5, s6, s7, s9, fun z => ?_, s11, s12⟩
    obtain ⟨a1, a2, a3, a4, a5⟩ := s10 z
    refine ⟨a1, a2, a3, fun v hv hn => ?_, a5⟩
    by_cases hvc : 5 * (s : Int) + v = c
    · have : (c - 5 * s).toNat = v := by omega
      rw [this] at h3
      rcases e18 with h | h
      · rw [hvc, h]; exact h3 z hn
      · rw [hvc, h, ← hvc]; exact a4 v hv hn
    · rw [e 18 _ (by unfold md_no; omega) (by omega)]; exact a4 v hv hn
  · rw [ek 2 (by unfold md_no; omega) (by omega) (by omega)]; exact hbd.1 u hu
  · by_cases hx : x = c
    · subst hx
      rcases e17 with h | h
      · rw [h]; exact hn
      · rw [h]; exact hbd.2.2.1 x
    · rw [e 17 x (by unfold md_no; omega) (by omega)]; exact hbd.2.2.1 x
  · by_cases hx : x = c
    · subst hx
      rcases e18 with h | h
      · rw [h]; exact hm
      · rw [h]; exact hbd.2.2.2.1 x
    · rw [e 18 x (by unfold md_no; omega) (by omega)]; exact hbd.2.2.2.1 x
  · rw [ek 20 (by unfold md_no; omega) (by omega) (by omega)]; exact hbd.2.2.2.2 x
theorem md_sendTo_w27 {s to : Int} (h : 0 ≤ A 27 0) : 0 ≤ md_sendTo A s to 27 0 := by
  unfold md_sendTo md_inst md_appd
  have hp : ∀ X : md_A, X 27 0 = A 27 0 → 0 ≤ md_post X 27 0 := fun X hX => by
    unfold md_post
    split
    · rw [hX]; exact h
    · rw [md_us, hX]; omega
  split
  · exact hp _ (by rw [md_wn (by omega), md_uk (by decide), md_uk (by decide), md_uk (by decide), md_hd_k (by decide)])
  · exact hp _ (by rw [md_ents_k (by decide), md_uk (by decide), md_uk (by decide), md_hd_k (by decide)])
/-- RESULT -/
theorem dl_5 (H : Iv c0 B A g) (hL : Lo A) (hB : 0 ≤ B ∧ B ≤ 80000) (hs : s < 5) (hm : mok c0 g B (fun x => A 29 x)) (hk : A 29 0 = 5) : (∃ g', Iv c0 B (md_res A s (A 29 1)) g') ∧ Lo (md_res A s (A 29 1)) := by
  obtain ⟨⟨b0, b1, b2, b3, b4, b5, b6, b7, b8, b9⟩, -, -, -, m5, -⟩ := hm
  have b1' : 0 ≤ A 29 1 ∧ A 29 1 < 5 := b1
  have b4' : 0 ≤ A 29 4 ∧ A 29 4 ≤ B := b4
  obtain ⟨fr, hfr, efr⟩ := k5_ex b1'.1 b1'.2
  obtain ⟨hb, hcm, hlb, hcf, h2, hnx⟩ := H.B1 hB.1 (by omega) hs
  unfold md_res
  rw [efr]
  by_cases c9 : ¬ (A 13 s = 3 ∧ A 29 3 = A 2 s)
  · rw [if_neg c9]; exact ⟨⟨g, H⟩, hL⟩
  have c0' := Decidable.not_not.mp c9
  rw [if_pos c0']
  obtain ⟨h3, hT⟩ := c0'
  have hga : A 29 6 = 1 → A 29 4 ≤ (ga g (A 2 s) fr : Int) := fun z => by
    have := m5 hk z
    simp only [hT, efr, Int.toNat_natCast] at this
    exact this
  -- the body
  have key : (∃ g', Iv c0 B (md_resB A s fr (5 * s + fr)) g') ∧ Lo (md_resB A s fr (5 * s + fr)) := by
    have wC : md_ww (md_resC A s (5 * s + fr)) := hL.1.1.u (by decide) (by
      have r1 := hL.1.1.1 29 9
      have r2 := hL.1.1.1 19 (5 * s + fr)
      unfold md_max
      split
      · exact r1
      · exact r2)
    have eC : ∀ (k : Nat) (x : Int), k ≠ 19 → md_resC A s (5 * s + fr) k x = A k x := fun k x h => md_uk h
    have HC : Iv c0 B (md_resC A s (5 * s + fr)) g := H.f (fun k hk => by funext x; exact eC k x (fun z => hk (by unfold md_no; omega)))
    have LgC : md_lg A (md_resC A s (5 * s + fr)) := (md_lg.rf A).u (by omega)
    have LC : Lo (md_resC A s (5 * s + fr)) := by
      refine Lo.step H hL hs (ok_u (by omega) (Or.inr (by unfold own; omega))) wC ?_
      have q := hL.2.2.2 s hs
      unfold L2 md_most at q ⊢
      rw [LgC.config, LgC.last, eC 13 _ (by decide), eC 16 _ (by decide), eC 8 _ (by decide), eC 1 _ (by decide), eC 15 _ (by decide)]
      refine ⟨q.1, q.2.1, q.2.2.1, q.2.2.2.1, q.2.2.2.2.1, fun z v hv => ?_⟩
      rw [eC 17 _ (by decide), eC 18 _ (by decide)]
      exact q.2.2.2.2.2 z v hv
    generalize hCe : md_resC A s (5 * s + fr) = C1 at wC eC HC LgC LC
    have q := LC.2.2.2 s hs
    have e13 : C1 13 s = 3 := (eC 13 _ (by decide)).trans h3
    have e2 : C1 2 s = A 2 s := eC 2 _ (by decide)
    have hl := HC.lead hs e13
    have hq := q.2.2.2.2.2 e13 fr hfr
    have hR := (HC.2.2.1 s hs).1.1
    have hlast1 : md_last C1 s = ((gL g (C1 2 s)).length : Int) := by rw [hR.last, hl.2]
    have hla : md_last C1 s = md_last A s := congrFun LgC.last s
    have hcfg : md_config A s = md_config C1 s := (congrFun LgC.config s).symm
    have e29 : ∀ x, C1 29 x = A 29 x := fun x => eC 29 x (by decide)
    have b17 := HC.2.2.2.2.2.2.1 (5 * s + fr)
    have b18 := HC.2.2.2.2.2.2.2.1 (5 * s + fr)
    have hbC : md_B C1 s := LgC.B hb
    unfold md_resB
    rw [hCe]
    by_cases c6 : A 29 6 = 1
    · rw [if_pos c6]
      have hgL : A 29 4 ≤ md_last C1 s := by
        have h1 := hga c6
        have h3 := HC.2.1.1 (C1 2 s) fr
        rw [e2] at h3 hlast1
        omega
      have hmx : md_max (C1 29 4) (C1 18 (5 * s + fr)) = A 29 4 ∨ md_max (C1 29 4) (C1 18 (5 * s + fr)) = C1 18 (5 * s + fr) := by
        rw [e29]
        unfold md_max
        split
        · exact Or.inl rfl
        · exact Or.inr rfl
      have hmB : 0 ≤ md_max (C1 29 4) (C1 18 (5 * s + fr)) ∧ md_max (C1 29 4) (C1 18 (5 * s + fr)) ≤ B ∧ md_max (C1 29 4) (C1 18 (5 * s + fr)) ≤ md_last C1 s := by
        rcases hmx with h | h <;> rw [h] <;> omega
      have M17 : md_resM C1 (5 * s + fr) 17 (5 * s + fr) = md_max (C1 29 4) (C1 18 (5 * s + fr)) + 1 := md_us
      have M18 : md_resM C1 (5 * s + fr) 18 (5 * s + fr) = md_max (C1 29 4) (C1 18 (5 * s + fr)) := (md_uk (by decide)).trans md_us
      have Mo : ∀ (k : Nat) (x : Int), ¬ ((k = 17 ∨ k = 18) ∧ x = 5 * s + fr) → md_resM C1 (5 * s + fr) k x = C1 k x := fun k x h => by
        unfold md_resM
        rw [md_un (by omega), md_un (by omega)]
      have HM : Iv c0 B (md_resM C1 (5 * s + fr)) g := by
        refine HC.nxt hs (c := 5 * s + fr) (n := md_max (C1 29 4) (C1 18 (5 * s + fr)) + 1) (m := md_max (C1 29 4) (C1 18 (5 * s + fr))) (by omega) (by omega) (by omega) (fun _ hne => ?_) (fun k x a b => Mo k x b) (Or.inl M17) (Or.inl M18)
        rw [show (5 * (s : Int) + fr - 5 * s).toNat = fr by omega] at hne ⊢
        have h1 := hga c6
        have h4 := ((HC.2.2.1 s hs).1.2.2.2.2.2.2.2.2.1 e13).2.2.2.1 fr hfr hne
        rw [e2] at h4 ⊢
        rcases hmx with h | h <;> rw [h] <;> omega
      have LgM : md_lg C1 (md_resM C1 (5 * s + fr)) := fun k k1 k2 => by funext x; exact Mo k x (by omega)
      have wM : md_ww (md_resM C1 (5 * s + fr)) := (wC.u (by decide) (by omega)).u (by decide) (by omega)
      have okM : ok C1 (md_resM C1 (5 * s + fr)) s := (ok_u (by omega) (Or.inr (by unfold own; omega))).tr (ok_u (by omega) (Or.inr (by unfold own; omega)))
      have LM : Lo (md_resM C1 (5 * s + fr)) := by
        refine Lo.step HC LC hs okM wM ?_
        unfold L2 md_most at q ⊢
        rw [LgM.config, LgM.last, Mo 13 _ (by omega), Mo 16 _ (by omega), Mo 8 _ (by omega), Mo 1 _ (by omega), Mo 15 _ (by omega)]
        refine ⟨q.1, q.2.1, q.2.2.1, q.2.2.2.1, q.2.2.2.2.1, fun z v hv => ?_⟩
        by_cases hv2 : v = fr
        · subst hv2
          rw [M17, M18]
          omega
        · rw [Mo 17 _ (by omega), Mo 18 _ (by omega)]
          exact q.2.2.2.2.2 z v hv
      have m13 : md_resM C1 (5 * s + fr) 13 s = 3 := (Mo 13 _ (by omega)).trans e13
      have m2 : md_resM C1 (5 * s + fr) 2 s = C1 2 s := Mo 2 _ (by omega)
      have hbM : md_B (md_resM C1 (5 * s + fr)) s := LgM.B hbC
      have m14 : md_resM C1 (5 * s + fr) 14 s = A 14 s := (Mo 14 _ (by omega)).trans (eC 14 _ (by decide))
      obtain ⟨g2, -, p2, p3⟩ := HM.look hs m13
      have wK := md_look_ww (s := s) wM hbM (by rw [m14]; have := hb; omega)
      have qM := LM.2.2.2 s hs
      have kk : ∀ (k : Nat) (x : Int), k ≠ 13 → k ≠ 14 → k ≠ 25 → md_look (md_resM C1 (5 * s + fr)) s k x = md_resM C1 (5 * s + fr) k x := fun k x a b d => md_look_k ⟨a, b, d⟩
      have LgK : md_lg (md_resM C1 (5 * s + fr)) (md_look (md_resM C1 (5 * s + fr)) s) := fun k k1 k2 => by funext x; exact kk k x (by omega) (by omega) (by omega)
      have LK : Lo (md_look (md_resM C1 (5 * s + fr)) s) := by
        refine Lo.step HM LM hs (ok_look _ s) wK ?_
        have r13 := look_13 (md_resM C1 (5 * s + fr)) s
        rw [m13] at r13
        obtain ⟨q1, q2, q3, q4, q5, q6⟩ := qM
        refine ⟨by omega, by rw [kk 16 _ (by decide) (by decide) (by decide)]; exact q2, fun z => by omega, by rw [kk 1 _ (by decide) (by decide) (by decide)]; exact q4, by rw [kk 15 _ (by decide) (by decide) (by decide)]; exact q5, fun _ v hv => ?_⟩
        rw [kk 17 _ (by decide) (by decide) (by decide), kk 18 _ (by decide) (by decide) (by decide), LgK.last]
        exact q6 m13 v hv
      unfold md_resY
      split
      · have h17 : md_look (md_resM C1 (5 * s + fr)) s 17 (5 * s + fr) ≤ md_last (md_look (md_resM C1 (5 * s + fr)) s) s + 1 := by
          rw [kk 17 _ (by decide) (by decide) (by decide), M17, LgK.last, LgM.last]
          omega
        have k2 : md_look (md_resM C1 (5 * s + fr)) s 2 s = md_resM C1 (5 * s + fr) 2 s := kk 2 _ (by decide) (by decide) (by decide)
        refine ⟨⟨g2, p2.sendTo wK.2.1 hB.1 hs (by rw [k2]; exact p3) hfr h17⟩, LK.k (fun j x a b d => md_sendTo_k ⟨a, b, d⟩) (md_sendTo_ww wK (by omega) (by omega) (by rw [kk 17 _ (by decide) (by decide) (by decide), M17]; omega))⟩
      · exact ⟨⟨g2, p2⟩, LK⟩
    · rw [if_neg c6]
      have hN : md_resN C1 (5 * s + fr) 17 (5 * s + fr) = (if md_min (C1 17 (5 * s + fr) - 1) (C1 29 4 + 1) < 1 then 1 else md_min (C1 17 (5 * s + fr) - 1) (C1 29 4 + 1)) := md_us
      have hNb : 1 ≤ md_resN C1 (5 * s + fr) 17 (5 * s + fr) ∧ md_resN C1 (5 * s + fr) 17 (5 * s + fr) ≤ B + 1 ∧ md_resN C1 (5 * s + fr) 17 (5 * s + fr) ≤ md_last C1 s + 1 := by
        rw [hN]
        have hl0 : 0 ≤ md_last C1 s := by rw [hla]; have := hb; unfold md_last; omega
        unfold md_min
        repeat' split
        all_goals omega
      have No : ∀ (k : Nat) (x : Int), ¬ (k = 17 ∧ x = 5 * s + fr) → md_resN C1 (5 * s + fr) k x = C1 k x := fun k x h => md_un h
      have HN : Iv c0 B (md_resN C1 (5 * s + fr)) g := by
        refine HC.nxt hs (c := 5 * s + fr) (n := md_resN C1 (5 * s + fr) 17 (5 * s + fr)) (m := C1 18 (5 * s + fr)) (by omega) (by omega) (by omega) (fun _ hne => ?_) (fun k x a b => No k x (by omega)) (Or.inl rfl) (Or.inr (No 18 _ (by omega)))
        rw [show (5 * (s : Int) + fr - 5 * s).toNat = fr by omega] at hne ⊢
        exact ((HC.2.2.1 s hs).1.2.2.2.2.2.2.2.2.1 e13).2.2.2.1 fr hfr hne
      have LgN : md_lg C1 (md_resN C1 (5 * s + fr)) := fun k k1 k2 => by funext x; exact No k x (by omega)
      have wN : md_ww (md_resN C1 (5 * s + fr)) := wC.u (by decide) (by rw [← hN]; omega)
      have LN : Lo (md_resN C1 (5 * s + fr)) := by
        refine Lo.step HC LC hs (ok_u (by omega) (Or.inr (by unfold own; omega))) wN ?_
        unfold L2 md_most at q ⊢
        rw [LgN.config, LgN.last, No 13 _ (by omega), No 16 _ (by omega), No 8 _ (by omega), No 1 _ (by omega), No 15 _ (by omega)]
        refine ⟨q.1, q.2.1, q.2.2.1, q.2.2.2.1, q.2.2.2.2.1, fun z v hv => ?_⟩
        have hq2 := q.2.2.2.2.2 z v hv
        rw [No 18 _ (by omega)]
        by_cases hv2 : v = fr
        · subst hv2
          omega
        · rw [No 17 _ (by omega)]
          exact hq2
      have n2 : md_resN C1 (5 * s + fr) 2 s = C1 2 s := No 2 _ (by omega)
      split
      · refine ⟨⟨g, HN.sendTo wN.2.1 hB.1 hs (by rw [n2]; exact hl) hfr (by rw [LgN.last]; omega)⟩, LN.k (fun j x a b d => md_sendTo_k ⟨a, b, d⟩) (md_sendTo_ww wN (by omega) (by omega) (by omega))⟩
      · exact ⟨⟨g, HN⟩, LN⟩
  split
  · obtain ⟨⟨g', p⟩, pL⟩ := key
    exact ⟨⟨g', p.f (fun k hk => by funext x; exact md_rd_k ⟨fun z => hk (by unfold md_no; omega), fun z => hk (by unfold md_no; omega)⟩ _)⟩, Lo.step p pL hs (ok_rd _ s s _) (md_rd_ww pL.1.1 _) ((pL.2.2.2 s hs).same (fun k k1 _ => by funext x; exact md_rd_k (by omega) _))⟩
  · exact key
end SF16
