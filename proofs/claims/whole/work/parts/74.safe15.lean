/-! safety: deliver -/
section SF15
variable {c0 : Int} {g g' : Gh} {A A' : md_A} {B : Int} {s : Nat} {l : List En}
theorem md_get_29 {k x : Int} (h0 : 0 ≤ x) (h1 : x < 20) : md_get A k 29 x = A 28 (20 * k + x) := by
  unfold md_get
  rw [md_take_k (by decide)]
  exact if_pos ⟨rfl, h0, h1⟩
theorem md_get_k {k x : Int} {j : Nat} (h : j ≠ 27 ∧ j ≠ 28 ∧ j ≠ 29) : md_get A k j x = A j x := by
  unfold md_get
  rw [md_take_k ⟨h.1, h.2.1⟩, md_wn (fun z => h.2.2 z.1)]
theorem Inv.get (h : Inv c0 B A) {k : Int} (hk : 0 ≤ k ∧ k < A 27 0) : (∃ g, Iv c0 B (md_get A k) g ∧ mok c0 g B (fun x => md_get A k 29 x)) ∧ Lo (md_get A k) := by
  obtain ⟨⟨g, H⟩, hL⟩ := h
  have e27 : md_w A 29 0 20 (fun x => A 28 (20 * k + x)) 27 0 = A 27 0 := md_wn (by omega)
  have H1 : Iv c0 B (md_w A 29 0 20 (fun x => A 28 (20 * k + x))) g := H.f29 (fun j hj => by funext x; exact md_wn (fun z => hj z.1))
  have w1 : md_ww (md_w A 29 0 20 (fun x => A 28 (20 * k + x))) := ⟨fun j x => by
    unfold md_w
    split
    · exact hL.1.1.1 _ _
    · exact hL.1.1.1 _ _, by rw [e27]; exact hL.1.1.2⟩
  refine ⟨⟨g, H1.take (by rw [e27]; exact hk), ?_⟩, hL.k (fun j x a b c => md_get_k ⟨a, b, c⟩) (md_take_ww w1 (by rw [e27]; exact hk))⟩
  obtain ⟨n, rfl⟩ := Int.eq_ofNat_of_zero_le hk.1
  exact (H.2.2.2.1 n hk.2).cg (fun x x0 x1 => md_get_29 x0 x1)
theorem Iv.newTerm (H : Iv c0 B A g) (hs : s < 5) {t : Int} (ht : A 2 s < t) (hB : t ≤ B) : Iv c0 B (md_newTerm A s t) g := by
  have e2 : md_newTerm A s t 2 s = t := by
    unfold md_newTerm
    rw [md_follow_k (by decide), md_uk (by decide), md_us]
  refine H.fol hs (fun k x a1 a2 => ?_) (by rw [e2]; omega) (by rw [e2]; exact hB) (fun z => by rw [e2] at z; omega) ?_
  · unfold md_newTerm
    by_cases hk : k = 25
    · exact absurd (by unfold md_no; omega) a1
    · by_cases h13 : k = 13
      · subst h13
        rw [md_follow_13, if_neg (fun e => a2 ⟨by omega, e⟩), md_uk (by decide), md_uk (by decide)]
      · rw [md_follow_k ⟨h13, hk⟩, md_un (by omega), md_un (by omega)]
  · unfold md_newTerm
    rw [md_follow_13, if_pos rfl]
    decide
theorem L2.fol (h : L2 A s) (e13 : A' 13 s = 0) (e16 : A' 16 s = A 16 s) (e1 : A' 1 s = A 1 s) (e15 : A' 15 s = A 15 s ∨ A' 15 s = 1) : L2 A' s := by
  obtain ⟨q1, q2, q3, q4, q5, q6⟩ := h
  refine ⟨by omega, by rw [e16]; exact q2, fun z => by omega, by rw [e1]; exact q4, ?_, fun z => by omega⟩
  rcases e15 with e | e
  · rw [e]; exact q5
  · exact Or.inr e
theorem Lo.newTerm (H : Iv c0 B A g) (hL : Lo A) (hs : s < 5) {t : Int} (ht : rng t) : Lo (md_newTerm A s t) := by
  refine Lo.step H hL hs (((ok_u (by omega) (Or.inr (by unfold own; omega))).tr (ok_u (by omega) (Or.inr (by unfold own; omega)))).tr (ok_follow _ s)) (md_follow_ww ((hL.1.1.u (by decide) ht).u (by decide) (by omega))) ((hL.2.2.2 s hs).fol ?_ (md_newTerm_k (by decide)) (md_newTerm_k (by decide)) (Or.inl (md_newTerm_k (by decide))))
  unfold md_newTerm
  rw [md_follow_13, if_pos rfl]
theorem Lo.reply (hL : Lo A) {kind fr to good t : Int} (h1 : rng kind) (h2 : rng fr) (h3 : rng to) (h4 : rng t) : Lo (md_reply A kind fr to good t) := by
  refine hL.k (fun j x a b c => ?_) ?_
  · unfold md_reply
    rw [md_post_k ⟨a, b⟩, md_uk c, md_begin_k c]
  · unfold md_reply
    exact ((hL.1.1.begin h1 h2 h3 h4).u (by decide) (by split <;> omega)).post
theorem Lo.result (hL : Lo A) {fr to good i r : Int} (h2 : rng fr) (h3 : rng to) (h4 : rng i) (h5 : rng r) : Lo (md_result A fr to good i r) := by
  refine hL.k (fun j x a b c => ?_) ?_
  · unfold md_result
    rw [md_post_k ⟨a, b⟩, md_uk c, md_uk c, md_uk c, md_begin_k c]
  · unfold md_result
    exact ((((hL.1.1.begin (by omega) h2 h3 (hL.1.1.1 _ _)).u (by decide) h4).u (by decide) (by split <;> omega)).u (by decide) h5).post
/-- QUESTION -/
theorem dl_0 (H : Iv c0 B A g) (hL : Lo A) (hB : 0 ≤ B ∧ B ≤ 80000) (hs : s < 5) (hm : mok c0 g B (fun x => A 29 x)) : (∃ g', Iv c0 B (md_ques A s (A 29 1) (A 29 3)) g') ∧ Lo (md_ques A s (A 29 1) (A 29 3)) := by
  obtain ⟨⟨b0, b1, b2, b3, b4, b5, b6, b7, b8, b9⟩, -⟩ := hm
  have b1' : 0 ≤ A 29 1 ∧ A 29 1 < 5 := b1
  have b3' : 0 ≤ A 29 3 ∧ A 29 3 ≤ B + 1 := b3
  obtain ⟨fr, hfr, efr⟩ := k5_ex b1'.1 b1'.2
  obtain ⟨-, -, -, -, h2, -⟩ := H.B1 hB.1 (by omega) hs
  have hg : 0 ≤ (if md_quesG A s (A 29 3) = 0 then A 2 s else A 29 3) ∧ (if md_quesG A s (A 29 3) = 0 then A 2 s else A 29 3) ≤ B + 1 := by split <;> omega
  unfold md_ques
  refine ⟨⟨g, ?_⟩, hL.reply (by omega) (by omega) (by omega) (by omega)⟩
  rw [efr]
  exact H.reply hL.1.1.2.1 hB.1 hs hfr (Or.inl rfl) hg (fun z => by omega) (fun _ z => by rw [if_pos z]; exact h2.2) (fun z => by omega)
/-- CALL -/
theorem dl_2 (H : Iv c0 B A g) (hL : Lo A) (hB : 0 ≤ B ∧ B ≤ 80000) (hs : s < 5) (hm : mok c0 g B (fun x => A 29 x)) (hk : A 29 0 = 2) : (∃ g', Iv c0 B (md_called A s (A 29 1) (A 29 3)) g') ∧ Lo (md_called A s (A 29 1) (A 29 3)) := by
  obtain ⟨⟨b0, b1, b2, b3, b4, b5, b6, b7, b8, b9⟩, m2, -⟩ := hm
  have b1' : 0 ≤ A 29 1 ∧ A 29 1 < 5 := b1
  obtain ⟨fr, hfr, efr⟩ := k5_ex b1'.1 b1'.2
  obtain ⟨hb, hcm, hlb, -, h2, -⟩ := H.B1 hB.1 (by omega) hs
  obtain ⟨l0, c1, c2, c3⟩ := m2 hk
  simp only [efr, Int.toNat_natCast] at c1 c2 c3
  have R := (H.2.2.1 s hs).1.1
  have q := hL.2.2.2 s hs
  have h27 := hL.1.1.2.1
  unfold md_called
  rw [efr]
  by_cases hG : md_callG A s fr (A 29 3) = 0
  · have eA : md_callA A s fr (A 29 3) = A := if_pos hG
    rw [eA]
    exact ⟨⟨g, H.reply h27 hB.1 hs hfr (Or.inr rfl) (by omega) (fun _ => h2.2) (fun z => by omega) (fun _ z => absurd hG z)⟩, hL.reply (by omega) (by omega) (by omega) (by omega)⟩
  · have eA : md_callA A s fr (A 29 3) = md_u A 3 s fr := if_neg hG
    rw [eA]
    unfold md_callG at hG
    have hcond : A 29 3 = A 2 s ∧ (A 3 s = -1 ∨ A 3 s = fr) ∧ md_lies A (A 29 4) (A 29 5) s = 0 := by
      apply Decidable.by_contra
      intro z
      rw [if_neg z] at hG
      exact hG rfl
    obtain ⟨d1, d2, d3⟩ := hcond
    have hup : up (gG g s) l0 := by
      unfold md_lies at d3
      have hla := R.last
      have hte : md_termAt A s (md_last A s) = lt (gG g s) := by
        rw [R.term (by omega) (by omega) (by rw [hla]; exact Int.le_refl _), hla, Int.toNat_natCast]
        rfl
      rw [hte, hla] at d3
      have hn : ¬ (A 29 5 < lt (gG g s) ∨ (A 29 5 = lt (gG g s) ∧ A 29 4 < ((gG g s).length : Int))) := fun z => by
        rw [if_pos z] at d3
        exact absurd d3 (by decide)
      unfold up
      omega
    rw [d1] at c1
    obtain ⟨g', e1, e2, ⟨lg, e3, e4⟩, e5⟩ := H.vote hs (A' := md_u A 3 s fr) (fun k x a1 a2 => md_un (by omega)) (c := fr) d2 md_us c1 hup
    have L' : Lo (md_u A 3 s fr) := by
      refine Lo.step H hL hs (ok_u (by omega) (Or.inr (by unfold own; omega))) (hL.1.1.u (by decide) (by omega)) ?_
      obtain ⟨q1, q2, q3, q4, q5, q6⟩ := q
      have lg : md_lg A (md_u A 3 s fr) := (md_lg.rf A).u (by omega)
      unfold md_most at q3
      unfold L2 md_most
      rw [lg.config, lg.last, md_uk (k := 3) (j := 13) (by decide), md_uk (k := 3) (j := 16) (by decide), md_uk (k := 3) (j := 8) (by decide), md_uk (k := 3) (j := 1) (by decide), md_uk (k := 3) (j := 15) (by decide)]
      refine ⟨q1, q2, q3, q4, q5, fun z v hv => ?_⟩
      rw [md_uk (by decide), md_uk (by decide)]
      exact q6 z v hv
    refine ⟨⟨g', ?_⟩, L'.reply (by omega) (by omega) (by omega) (by omega)⟩
    exact e2.reply (by rw [md_uk (by decide)]; exact h27) hB.1 hs hfr (Or.inr rfl) (by omega) (fun _ => h2.2) (fun z => by omega) (fun _ _ => ⟨lg, l0, e3, by rw [e5]; exact c1, e4⟩)
theorem Iv.folF (H : Iv c0 B A g) (hs : s < 5) : Iv c0 B (md_fol A s) g := (H.follow hs).f (fun k hk => by funext x; exact md_uk (fun z => hk (by unfold md_no; omega)))
theorem md_fol_13 : md_fol A s 13 s = 0 := by
  unfold md_fol
  rw [md_uk (by decide), md_follow_13, if_pos rfl]
theorem ok_fol (A : md_A) (s : Int) : ok A (md_fol A s) s := (ok_follow A s).tr (ok_u (by omega) (Or.inr (by unfold own; omega)))
theorem Lo.folF (H : Iv c0 B A g) (hL : Lo A) (hs : s < 5) : Lo (md_fol A s) :=
  Lo.step H hL hs (ok_fol A s) (md_fol_ww hL.1.1) ((hL.2.2.2 s hs).fol md_fol_13 (md_fol_k (by decide)) (md_fol_k (by decide)) (Or.inr md_us))
theorem tk_lgo {s i p : Int} (hb : md_B A s) : (∀ (k : Nat) (x : Int), 8 ≤ k → k ≤ 12 → ¬ (k = 8 ∧ x = s) → ¬ (9 ≤ k ∧ k ≤ 12 ∧ 48 * s ≤ x ∧ x < 48 * s + 48) → md_tk A s i p k x = A k x) ∧ md_B (md_tk A s i p) s := by
  unfold md_tk
  by_cases c1 : i ≤ A 4 s ∨ (i ≤ md_last A s ∧ md_termAt A s i = A 29 p)
  · rw [if_pos c1]; exact ⟨fun _ _ _ _ _ _ => rfl, hb⟩
  · rw [if_neg c1]
    have hl : md_last A s = A 4 s + A 8 s := rfl
    have c4 : md_cutx A s i 4 s = A 4 s := md_cutx_k (by decide)
    have c8 : 0 ≤ md_cutx A s i 8 s ∧ md_cutx A s i 8 s ≤ 48 := by
      unfold md_cutx
      by_cases c : i ≤ md_last A s
      · rw [if_pos c, md_us]; omega
      · rw [if_neg c]; omega
    have co : ∀ (k : Nat) (x : Int), ¬ (k = 8 ∧ x = s) → md_cutx A s i k x = A k x := fun k x h => by
      unfold md_cutx
      split
      · exact md_un h
      · rfl
    by_cases c3 : 48 ≤ md_cutx A s i 8 s
    · rw [if_pos c3]
      exact ⟨fun k x _ _ h _ => co k x h, hb.1, hb.2.1, by rw [c4]; exact hb.2.2.1, by rw [c4]; exact hb.2.2.2.1, c8.1, c8.2⟩
    · rw [if_neg c3]
      unfold md_tkP
      refine ⟨fun k x k1 k2 h h2 => ?_, hb.1, hb.2.1, ?_, ?_, ?_, ?_⟩
      · unfold md_push
        rw [md_un (by omega), md_un (by omega), md_un (by omega), md_un (by omega), md_un (by omega), co k x h]
      · rw [md_push_k (by decide), c4]; exact hb.2.2.1
      · rw [md_push_k (by decide), c4]; exact hb.2.2.2.1
      · rw [show ∀ (X : md_A) (t so ke va : Int), md_push X s t so ke va 8 s = X 8 s + 1 from fun _ _ _ _ _ => md_us]; omega
      · rw [show ∀ (X : md_A) (t so ke va : Int), md_push X s t so ke va 8 s = X 8 s + 1 from fun _ _ _ _ _ => md_us]; omega
theorem tks_lgo {s bf m : Int} (hb : md_B A s) : ∀ (k : Nat) (x : Int), 8 ≤ k → k ≤ 12 → ¬ (k = 8 ∧ x = s) → ¬ (9 ≤ k ∧ k ≤ 12 ∧ 48 * s ≤ x ∧ x < 48 * s + 48) → (md_tks A s bf m).1 k x = A k x := fun k x k1 k2 h1 h2 => by
  obtain ⟨a1, a2⟩ := tk_lgo (i := bf + 1) (p := 10) hb
  obtain ⟨a3, -⟩ := tk_lgo (A := md_tk A s (bf + 1) 10) (i := bf + 1 + 1) (p := 14) a2
  unfold md_tks
  split
  · rfl
  · split
    · exact a1 k x k1 k2 h1 h2
    · split
      · exact a1 k x k1 k2 h1 h2
      · split
        · exact (a3 k x k1 k2 h1 h2).trans (a1 k x k1 k2 h1 h2)
        · exact (a3 k x k1 k2 h1 h2).trans (a1 k x k1 k2 h1 h2)
/-- APPEND -/
theorem dl_4 (H : Iv c0 B A g) (hL : Lo A) (hB : 0 ≤ B ∧ B ≤ 80000) (hs : s < 5) (hm : mok c0 g B (fun x => A 29 x)) (hk : A 29 0 = 4) (hT : A 29 3 ≤ A 2 s) : (∃ g', Iv c0 B (md_app A s (A 29 1)) g') ∧ Lo (md_app A s (A 29 1)) := by
  have hm0 := hm
  obtain ⟨⟨b0, b1, b2, b3, b4, b5, b6, b7, b8, b9⟩, -, -, m4, -⟩ := hm
  have b1' : 0 ≤ A 29 1 ∧ A 29 1 < 5 := b1
  have b4' : 0 ≤ A 29 4 ∧ A 29 4 ≤ B := b4
  obtain ⟨fr, hfr, efr⟩ := k5_ex b1'.1 b1'.2
  obtain ⟨hb, hcm, hlb, -, h2, -⟩ := H.B1 hB.1 (by omega) hs
  have h27 := hL.1.1.2.1
  have r9 := hL.1.1.1 29 9
  unfold md_app
  rw [efr]
  by_cases c1 : A 29 3 < A 2 s
  · rw [if_pos c1]
    exact ⟨⟨g, H.result h27 hB.1 hs hfr (by omega) (fun z => absurd rfl z)⟩, hL.result (by omega) (by omega) (by omega) (by omega)⟩
  · rw [if_neg c1]
    have HF := H.folF hs
    have LF := Lo.folF H hL hs
    have e29 : ∀ x, md_fol A s 29 x = A 29 x := fun x => md_fol_k (by decide)
    have e2 : md_fol A s 2 s = A 2 s := md_fol_k (by decide)
    have e27 : md_fol A s 27 0 = A 27 0 := md_fol_k (by decide)
    have lgf := md_fol_lg A s
    by_cases c2 : md_last A s < A 29 4 ∨ (A 4 s ≤ A 29 4 ∧ ¬ md_termAt A s (A 29 4) = A 29 5)
    · rw [if_pos c2]
      have hr0 : 0 ≤ (if md_min (md_last A s) (A 29 4 - 1) < 0 then 0 else md_min (md_last A s) (A 29 4 - 1)) ∧ (if md_min (md_last A s) (A 29 4 - 1) < 0 then 0 else md_min (md_last A s) (A 29 4 - 1)) ≤ B := by
        unfold md_min
        repeat' split
        all_goals omega
      exact ⟨⟨g, HF.result (by rw [e27]; exact h27) hB.1 hs hfr hr0 (fun z => absurd rfl z)⟩, LF.result (by omega) (by omega) (by omega) (by omega)⟩
    · rw [if_neg c2]
      have hTT : A 29 3 = A 2 s := by omega
      have hla : md_last (md_fol A s) s = md_last A s := congrFun lgf.last s
      have hte : ∀ i, md_termAt (md_fol A s) s i = md_termAt A s i := fun i => by
        unfold md_termAt md_cell
        rw [hla, lgf 4 (by decide) (by decide), lgf 5 (by decide) (by decide), lgf 9 (by decide) (by decide)]
      have hmF : mok c0 g B (fun x => md_fol A s 29 x) := hm0.cg (fun x _ _ => e29 x)
      obtain ⟨g', d1, d2, d3, d4⟩ := HF.append hs (by rw [md_fol_13]; decide) hmF (by rw [e29]; exact hk) (by rw [e29, e2]; exact hTT) (by rw [hla, e29, e29, hte, lgf 4 (by decide) (by decide)]; exact c2)
      rw [e29, e29] at d3 d4
      rw [e2] at d4
      obtain ⟨⟨c, a0⟩, -⟩ := m4 hk
      simp only [hTT] at a0
      have hgB : (ga g' (A 2 s) s : Int) ≤ B := by
        have h1 := d2.2.1.1 (A 2 s) s
        have h3 := d2.2.2.2.2.2.1 _ _ (d1.2.1 _ c a0).1
        omega
      have t2 : md_appT (md_fol A s) s 2 s = A 2 s := by
        unfold md_appT
        rw [md_uk (by decide), md_tks_k (by omega), e2]
      have t27 : md_appT (md_fol A s) s 27 0 = A 27 0 := by
        unfold md_appT
        rw [md_uk (by decide), md_tks_k (by omega), e27]
      have tk : ∀ k : Nat, k ≠ 14 → k < 8 ∨ 12 < k → ∀ x, md_appT (md_fol A s) s k x = md_fol A s k x := fun k a b x => by
        unfold md_appT
        rw [md_uk a, md_tks_k b]
      have hBF : md_B (md_fol A s) s := lgf.B hb
      have wT : md_ww (md_appT (md_fol A s) s) := by
        have w1 := md_tks_ww (A := md_fol A s) (s := s) (bf := md_fol A s 29 4) (m := md_fol A s 29 7) hBF LF.1.1
        refine w1.u (by decide) ?_
        have r1 := LF.1.1.1 29 8
        have r2 := LF.1.1.1 14 s
        have r3 := md_tks_in (md_fol A s) s (md_fol A s 29 4) (md_fol A s 29 7)
        rw [e29] at r3
        rw [e29] at r1
        unfold md_max md_min
        rw [e29, e29, e29]
        repeat' split
        all_goals first | exact r2 | exact r1 | (rw [e29] at r3; omega)
      have okT : ok (md_fol A s) (md_appT (md_fol A s) s) s := by
        have hx := tks_lgo (A := md_fol A s) (s := s) (bf := md_fol A s 29 4) (m := md_fol A s 29 7) hBF
        refine ok.tr ⟨fun k x k1 k0 ho => ?_, fun k x k1 k2 => md_tks_k (by omega), fun x => Or.inl (md_tks_k (by omega))⟩ (ok_u (by omega) (Or.inr (by unfold own; omega)))
        by_cases h8 : k < 8 ∨ 12 < k
        · exact md_tks_k h8
        · exact hx k x (by omega) (by omega) (fun z => ho (by unfold own; omega)) (fun z => ho (by unfold own; omega))
      have LT : Lo (md_appT (md_fol A s) s) := Lo.step HF LF hs okT wT ((LF.2.2.2 s hs).fol (by rw [tk 13 (by decide) (by omega)]; exact md_fol_13) (tk 16 (by decide) (by omega) _) (tk 1 (by decide) (by omega) _) (Or.inl (tk 15 (by decide) (by omega) _)))
      refine ⟨⟨g', d2.result (by rw [t27]; exact h27) hB.1 hs hfr (by omega) (fun _ => by rw [t2]; exact d4)⟩, LT.result (by omega) (by omega) (by omega) (by omega)⟩
end SF15
