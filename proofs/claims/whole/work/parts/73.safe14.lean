/-! safety: read, lose, deliver -/
section SF14
variable {c0 : Int} {g g' : Gh} {A A' : md_A} {B : Int} {s : Nat} {l : List En}
theorem mok.cg {w w' : Int → Int} (h : mok c0 g B w) (e : ∀ x : Int, 0 ≤ x → x < 20 → w' x = w x) : mok c0 g B w' := by
  obtain ⟨m1, m2, m3, m4, m5, m6⟩ := h
  unfold mok
  simp only [e 0 (by decide) (by decide), e 1 (by decide) (by decide), e 2 (by decide) (by decide), e 3 (by decide) (by decide), e 4 (by decide) (by decide), e 5 (by decide) (by decide), e 6 (by decide) (by decide), e 7 (by decide) (by decide), e 8 (by decide) (by decide), e 10 (by decide) (by decide)]
  refine ⟨m1, m2, m3, fun q => ?_, m5, m6⟩
  obtain ⟨a0, a1, a2, a3, a4⟩ := m4 q
  refine ⟨a0, a1, a2, fun j hj => ?_, a4⟩
  have h7 := m1.2.2.2.2.2.2.2.1.2
  rw [e _ (by omega) (by omega), e _ (by omega) (by omega), e _ (by omega) (by omega), e _ (by omega) (by omega)]
  exact a3 j hj
theorem Iv.take (H : Iv c0 B A g) {k : Int} (hk : 0 ≤ k ∧ k < A 27 0) : Iv c0 B (md_take A k) g := by
  have e : ∀ (j : Nat) (x : Int), j ≠ 27 → j ≠ 28 → md_take A k j x = A j x := fun j x a b => by
    unfold md_take
    rw [md_uk a, md_wn (fun z => b z.1)]
  obtain ⟨W, K, hs, hms, b0, b1, b2, b3, b4⟩ := H
  refine ⟨W, K, fun u hu => ?_, fun j hj => ?_, fun s hs => ?_, b1, fun x => ?_, fun x => ?_, fun x => ?_⟩
  · obtain ⟨c1, c2⟩ := hs u hu
    refine ⟨c1.cg c2 ⟨fun k hk => e k _ (by omega) (by omega), fun k k1 k2 i _ _ => e k _ (by omega) (by omega), fun v _ => e 18 _ (by omega) (by omega)⟩, ?_⟩
    rw [e 8 _ (by omega) (by omega)]
    exact c2
  · have h27 : md_take A k 27 0 = A 27 0 - 1 := md_us
    rw [h27] at hj
    have e28 : ∀ x, md_take A k 28 x = if 20 * k ≤ x ∧ x < 20 * A 27 0 - 20 then A 28 (x + 20) else A 28 x := fun x => by
      unfold md_take
      rw [md_uk (by decide)]
      by_cases c : 20 * k ≤ x ∧ x < 20 * A 27 0 - 20
      · rw [if_pos c]; exact if_pos ⟨rfl, c⟩
      · rw [if_neg c]; exact md_wn (fun z => c z.2)
    by_cases hjk : (j : Int) < k
    · refine (hms j (by omega)).cg (fun x x0 x1 => ?_)
      show md_take A k 28 (20 * j + x) = A 28 (20 * j + x)
      rw [e28, if_neg (by omega)]
    · refine (hms (j + 1) (by omega)).cg (fun x x0 x1 => ?_)
      show md_take A k 28 (20 * j + x) = A 28 (20 * ((j + 1 : Nat) : Int) + x)
      rw [e28, if_pos (by omega)]
      congr 1
      omega
  · rw [e 2 _ (by omega) (by omega)]; exact b0 s hs
  · rw [e 17 _ (by omega) (by omega)]; exact b2 x
  · rw [e 18 _ (by omega) (by omega)]; exact b3 x
  · rw [e 20 _ (by omega) (by omega)]; exact b4 x
theorem md_take_k {k x : Int} {j : Nat} (h : j ≠ 27 ∧ j ≠ 28) : md_take A k j x = A j x := by
  unfold md_take
  rw [md_uk h.1, md_wn (fun z => h.2 z.1)]
theorem md_take_ww {k : Int} (h : md_ww A) (hk : 0 ≤ k ∧ k < A 27 0) : md_ww (md_take A k) := by
  refine ⟨?_, ?_⟩
  · unfold md_take
    refine md_r_u (fun j x => ?_) (by omega)
    unfold md_w
    split
    · exact h.1 _ _
    · exact h.1 j x
  · have : md_take A k 27 0 = A 27 0 - 1 := md_us
    rw [this]
    have := h.2
    omega
/-- fields 27 to 29 alone are new -/
theorem Lo.k (hL : Lo A) (e : ∀ (j : Nat) (x : Int), j ≠ 27 → j ≠ 28 → j ≠ 29 → A' j x = A j x) (hw : md_ww A') : Lo A' := by
  refine ⟨⟨hw, by rw [e 21 0 (by decide) (by decide) (by decide)]; exact hL.1.2⟩, fun i i0 i1 => ?_, fun s hs => ?_, fun s hs => (hL.2.2.2 s hs).same (fun k k1 _ => by funext x; exact e k x (by omega) (by omega) (by omega))⟩
  · rw [e 21 0 (by decide) (by decide) (by decide)] at i1
    rw [e 23 i (by decide) (by decide) (by decide)]
    exact hL.2.1 i i0 i1
  · rw [e 21 0 (by decide) (by decide) (by decide)]
    exact Int.le_trans (kept_mono (fun x => e 22 x (by decide) (by decide) (by decide)) (fun x => Or.inl (e 25 x (by decide) (by decide) (by decide))) s _) (hL.2.2.1 s hs)
theorem Inv.lose (h : Inv c0 B A) {k : Int} (hk : 0 ≤ k ∧ k < A 27 0) : Inv c0 B (md_take A k) := by
  obtain ⟨⟨g, H⟩, hL⟩ := h
  exact ⟨⟨g, H.take hk⟩, hL.k (fun j x a b _ => md_take_k ⟨a, b⟩) (md_take_ww hL.1.1 hk)⟩
theorem ok_rd (A : md_A) (s u : Int) : ∀ n : Nat, ok A (md_rd A s n) u
  | 0 => ok.rf A u
  | n + 1 => by
    unfold md_rd
    split
    · refine (ok_rd A s u n).tr ⟨fun k x k1 _ _ => by rw [md_uk (by omega), md_uk (by omega)], fun k x k1 k2 => by rw [md_uk (by omega), md_uk (by omega)], fun x => ?_⟩
      rw [md_uk (by decide)]
      by_cases e : x = n
      · right; rw [e, md_us]; decide
      · left; exact md_ui e
    · exact ok_rd A s u n
theorem kept_cg (h : ∀ i : Nat, (i : Int) < A 21 0 → A' 22 i = A 22 i ∧ A' 25 i = A 25 i) (s : Int) : ∀ n : Nat, (n : Int) ≤ A 21 0 → md_kept A' s n = md_kept A s n
  | 0, _ => rfl
  | n + 1, hn => by
    rw [md_kept_s, md_kept_s, kept_cg h s n (by omega), (h n (by omega)).1, (h n (by omega)).2]
theorem Inv.read (h : Inv c0 B A) (hB : 0 ≤ B ∧ B ≤ 80000) {x key : Int} (hk : rng key) (hc : md_readE A x key = 0) : Inv c0 (B + 1) (md_read A x key) := by
  obtain ⟨⟨g, H⟩, hL⟩ := h
  unfold md_readE at hc
  by_cases c1 : ¬ ((0 ≤ x ∧ x < 5) ∧ 0 ≤ key ∧ key < 4)
  · rw [if_pos c1] at hc; exact absurd hc (by decide)
  rw [if_neg c1] at hc
  by_cases c2 : md_leads A x = 0
  · rw [if_pos c2] at hc; exact absurd hc (by decide)
  rw [if_neg c2] at hc
  by_cases c3 : md_kept A x (A 21 0).toNat = 4 ∨ A 21 0 = 60 ∨ md_old A x = 1
  · rw [if_pos c3] at hc; exact absurd hc (by decide)
  have h5 := (Decidable.not_not.mp c1).1
  have h4 := (Decidable.not_not.mp c1).2
  obtain ⟨s, hs, rfl⟩ := k5_ex h5.1 h5.2
  obtain ⟨hb, hcm, hlb, hcf, h2, hnx⟩ := H.B1 hB.1 (by omega) hs
  have q := hL.2.2.2 s hs
  have h3 : A 13 s = 3 := by unfold md_leads at c2; split at c2; rename_i hh; exact hh.2; exact absurd rfl c2
  have h21 := hL.1.2
  have h20 := H.2.2.2.2.2.2.2.2
  have e : ∀ (k : Nat) (i : Int), k ≠ 20 → k ≠ 21 → k ≠ 22 → k ≠ 23 → k ≠ 24 → md_keep A s key k i = A k i := fun k i a b c d f => md_keep_k ⟨a, b, c, d, f⟩
  have k20 : ∀ i, md_keep A s key 20 i = if i = s then A 20 s + 1 else A 20 i := fun i => by
    unfold md_keep
    rw [md_uk (by decide), md_uk (by decide), md_uk (by decide), md_uk (by decide)]
    by_cases hi : i = s
    · rw [hi, md_us, if_pos rfl]
    · rw [md_ui hi, if_neg hi]
  have H1 := H.le (B' := B + 1) (by omega)
  have p1 : Iv c0 (B + 1) (md_keep A s key) g := H1.same (fun u hu => ⟨fun k hk => e k _ (by omega) (by omega) (by omega) (by omega) (by omega), fun k k1 k2 i _ _ => e k _ (by omega) (by omega) (by omega) (by omega) (by omega), fun v _ => e 18 _ (by omega) (by omega) (by omega) (by omega) (by omega)⟩) ⟨e 27 0 (by omega) (by omega) (by omega) (by omega) (by omega), fun x => e 28 x (by omega) (by omega) (by omega) (by omega) (by omega)⟩ ⟨fun x => by rw [e 17 x (by omega) (by omega) (by omega) (by omega) (by omega)]; have := H.2.2.2.2.2.2.1 x; omega, fun x => by rw [e 18 x (by omega) (by omega) (by omega) (by omega) (by omega)]; have := H.2.2.2.2.2.2.2.1 x; omega, fun x => by rw [k20]; have := h20 x; have := h20 s; split <;> omega⟩
  have w1 := md_keep_ww (x := s) (key := key) hL.1.1 (by omega) hk (by have := h20 s; omega) hL.1.2
  have e21 : md_keep A s key 21 0 = A 21 0 + 1 := md_us
  have lgk : md_lg A (md_keep A s key) := fun k k1 k2 => by funext x; exact e k x (by omega) (by omega) (by omega) (by omega) (by omega)
  have L1 : Lo (md_keep A s key) := by
    refine ⟨⟨w1, by rw [e21]; omega⟩, fun i i0 i1 => ?_, fun u hu => ?_, fun u hu => ?_⟩
    · rw [e21] at i1
      unfold md_keep
      rw [md_uk (by decide), md_uk (by decide)]
      by_cases hie : i = A 21 0
      · subst hie
        rw [md_us]; exact h4
      · rw [md_ui hie, md_ui hie, md_uk (by decide)]
        exact hL.2.1 i i0 (by omega)
    · rw [e21, show (A 21 0 + 1).toNat = (A 21 0).toNat + 1 by omega, md_kept_s]
      have hc := kept_cg (A := A) (A' := md_keep A s key) (fun i hi => ⟨by
        unfold md_keep
        rw [md_uk (by decide), md_uk (by decide), md_uk (by decide), md_ui (by omega), md_uk (by decide)], e 25 _ (by omega) (by omega) (by omega) (by omega) (by omega)⟩) u (A 21 0).toNat (by omega)
      rw [hc]
      have h22 : md_keep A s key 22 ((A 21 0).toNat : Int) = s := by
        rw [show ((A 21 0).toNat : Int) = A 21 0 by omega]
        unfold md_keep
        rw [md_uk (by decide), md_uk (by decide), md_uk (by decide), md_us]
      rw [h22]
      have h3u := hL.2.2.1 u hu
      by_cases hus : u = s
      · subst hus
        split <;> omega
      · rw [if_neg (fun z => hus (by omega))]
        omega
    · have qu := hL.2.2.2 u hu
      unfold L2 md_most at qu ⊢
      rw [lgk.config, lgk.last, e 13 _ (by omega) (by omega) (by omega) (by omega) (by omega), e 16 _ (by omega) (by omega) (by omega) (by omega) (by omega), e 8 _ (by omega) (by omega) (by omega) (by omega) (by omega), e 1 _ (by omega) (by omega) (by omega) (by omega) (by omega), e 15 _ (by omega) (by omega) (by omega) (by omega) (by omega)]
      refine ⟨qu.1, qu.2.1, qu.2.2.1, qu.2.2.2.1, qu.2.2.2.2.1, fun z v hv => ?_⟩
      rw [e 17 _ (by omega) (by omega) (by omega) (by omega) (by omega), e 18 _ (by omega) (by omega) (by omega) (by omega) (by omega)]
      exact qu.2.2.2.2.2 z v hv
  have e13 : md_keep A s key 13 s = 3 := (e 13 _ (by omega) (by omega) (by omega) (by omega) (by omega)).trans h3
  have q1 := L1.2.2.2 s hs
  have p2 := Iv.all (A := md_keep A s key) (g := g) (by omega : (0 : Int) ≤ B + 1) hs 5 (by omega) p1 w1.2.1 (p1.lead hs e13) (fun v hv => (q1.2.2.2.2.2 e13 v hv).1)
  have hnx1 : md_nx (md_keep A s key) s := fun i => by rw [e 17 _ (by omega) (by omega) (by omega) (by omega) (by omega)]; exact hnx i
  have w2 := md_all_ww (s := s) w1 ⟨hb.1, hb.2.1⟩ hnx1 5 (by omega)
  have L2' : Lo (md_all (md_keep A s key) s 5) := L1.k (fun j x a b c => md_all_k ⟨a, b, c⟩ 5) w2
  have p3 : Iv c0 (B + 1) (md_read A s key) g := p2.1.f (fun k hk => by funext x; exact md_rd_k ⟨fun z => hk (by unfold md_no; omega), fun z => hk (by unfold md_no; omega)⟩ _)
  exact ⟨⟨g, p3⟩, Lo.step p2.1 L2' hs (ok_rd _ s s _) (md_rd_ww w2 _) ((L2'.2.2.2 s hs).same (fun k k1 _ => by funext x; exact md_rd_k (by omega) _))⟩
end SF14
