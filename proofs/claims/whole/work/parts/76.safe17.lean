/-! safety: deliver -/
section SF17
variable {c0 : Int} {g g' : Gh} {A A' : md_A} {B : Int} {s : Nat} {l : List En}
theorem md_in_mok (hm : mok c0 g B (fun x => A 29 x)) : mok c0 g B (fun x => md_in A 29 x) := hm.cg (fun x _ _ => md_in_k (by decide))
theorem Iv.inn (H : Iv c0 B A g) (hL : Lo A) (hB : 0 ≤ B ∧ B ≤ 80000) (hs : s < 5) (h2 : A 29 2 = s) (hm : mok c0 g B (fun x => A 29 x)) : Iv c0 B (md_in A) g ∧ Lo (md_in A) ∧ (2 ≤ A 29 0 → A 29 3 ≤ md_in A 2 s) := by
  have b8 : 2 ≤ A 29 0 → A 29 3 ≤ B := hm.1.2.2.2.2.2.2.2.2.1
  unfold md_in
  rw [h2]
  by_cases c : 1 < A 29 0 ∧ A 2 s < A 29 3
  · rw [if_pos c]
    have hb := b8 (by omega)
    have h20 := (H.2.2.1 s hs).1.2.2.1.1
    refine ⟨H.newTerm hs c.2 hb, Lo.newTerm H hL hs (by omega), fun _ => ?_⟩
    have : md_newTerm A s (A 29 3) 2 s = A 29 3 := by
      unfold md_newTerm
      rw [md_follow_k (by decide), md_uk (by decide), md_us]
    rw [this]; exact Int.le_refl _
  · rw [if_neg c]
    exact ⟨H, hL, fun _ => by omega⟩
theorem still (h : L2 A s) : md_ldif (md_stand A s) s = A := by
  have e : md_stand A s = A := if_neg (fun z => by have := (h.2.2.1 (Or.inl z.1)).2; omega)
  rw [e]
  exact if_neg (fun z => by have := (h.2.2.1 (Or.inr z.1)).2; omega)
theorem Iv.DE (H : Iv c0 B A g) (hL : Lo A) (hB : 0 ≤ B ∧ B ≤ 80000) (hs : s < 5) : md_DE A s := by
  obtain ⟨hb, hcm, hlb, hcf, h2, hnx⟩ := H.B1 hB.1 (by omega) hs
  have q := hL.2.2.2 s hs
  exact ⟨hL.1, fun u hu => (H.B1 hB.1 (by omega) hu).1, ⟨hb, hcf, hcm, ⟨h2.1, by omega⟩, q.2.1⟩, hnx, fun z => by have := (q.2.2.1 z).1; omega⟩
/-- one more yes -/
theorem dl_y (H : Iv c0 B A g) (hL : Lo A) (hB : 0 ≤ B ∧ B ≤ 80000) (hs : s < 5) {fr : Nat} (hfr : fr < 5) (h13 : A 13 s = 1 ∨ A 13 s = 2) (hV : A 13 s = 2 → ∃ lg, gV g (A 2 s) fr = some (s, lg) ∧ up lg (gG g s)) :
    md_DE (md_u A 16 s (io (A 16 s) (one fr))) s ∧ (∃ g', Iv c0 (B + 2) (md_weigh (md_u A 16 s (io (A 16 s) (one fr))) s) g') ∧ Lo (md_weigh (md_u A 16 s (io (A 16 s) (one fr))) s) := by
  obtain ⟨hb, hcm, hlb, hcf, h2, hnx⟩ := H.B1 hB.1 (by omega) hs
  have q := hL.2.2.2 s hs
  have h1 := set5_one (k := (fr : Int)) (by omega) (by omega)
  have h5 := set5_or q.2.1 h1
  have lg : md_lg A (md_u A 16 s (io (A 16 s) (one fr))) := (md_lg.rf A).u (by omega)
  have e : ∀ (k : Nat) (x : Int), k ≠ 16 → md_u A 16 s (io (A 16 s) (one fr)) k x = A k x := fun k x h => md_uk h
  have H1 : Iv c0 B (md_u A 16 s (io (A 16 s) (one fr))) g := H.yes hs (fun k x a1 a2 => md_un (by omega)) (fun z v hv hbit => by
    rw [md_us] at hbit
    rcases bit_io q.2.1.1 h1.1 hbit with h | h
    · exact Or.inl h
    · have := bit_one fr hfr v hv h
      subst this
      exact Or.inr (hV z))
  have w1 : md_ww (md_u A 16 s (io (A 16 s) (one fr))) := hL.1.1.u (by decide) (by omega)
  have h40 := (q.2.2.1 h13).1
  obtain ⟨r1, r2, r3, r4⟩ := H1.weigh ⟨hB.1, by omega⟩ w1 hs (by rw [md_us]; exact h5) (by rw [e 13 _ (by decide)]; omega) (fun _ => by rw [e 8 _ (by decide)]; exact h40) ⟨by rw [e 1 _ (by decide)]; exact q.2.2.2.1, by rw [e 15 _ (by decide)]; exact q.2.2.2.2.1⟩
  refine ⟨⟨⟨w1, by rw [e 21 _ (by decide)]; exact hL.1.2⟩, fun u hu => lg.B (H.B1 hB.1 (by omega) hu).1, ⟨lg.B hb, by rw [lg.config]; exact hcf, ?_, ?_, by rw [md_us]; exact h5⟩, fun i => by rw [e 17 _ (by decide)]; exact hnx i, fun _ => by rw [e 8 _ (by decide)]; omega⟩, r1, Lo.step H hL hs ((ok_u (by omega) (Or.inr (by unfold own; omega))).tr r4) r2 r3⟩
  · rw [e 4 _ (by decide), e 14 _ (by decide), lg.last]; exact hcm
  · rw [e 2 _ (by decide)]; omega
theorem Inv.deliver (h : Inv c0 B A) (hB : 0 ≤ B ∧ B ≤ 80000) {k : Int} (hk : 0 ≤ k ∧ k < A 27 0) :
    (md_DP (md_get A k) ∧ md_MW (md_get A k 29) ∧ (md_get A k 1 (md_get A k 29 2) = 0 → md_DE (md_come0 (md_in (md_get A k)) (md_get A k 29 2) (md_get A k 29 0)) (md_get A k 29 2))) ∧ md_dlv0 A k = md_deliver A k ∧ Inv c0 (B + 2) (md_deliver A k) := by
  obtain ⟨⟨g, H, hm⟩, hL⟩ := h.get hk
  unfold md_dlv0 md_deliver
  generalize md_get A k = N at H hm hL
  clear h hk
  have b0 : 0 ≤ N 29 0 ∧ N 29 0 ≤ 6 := hm.1.1
  have b1 : 0 ≤ N 29 1 ∧ N 29 1 < 5 := hm.1.2.1
  have b2 : 0 ≤ N 29 2 ∧ N 29 2 < 5 := hm.1.2.2.1
  have b4 : 0 ≤ N 29 4 ∧ N 29 4 ≤ B := hm.1.2.2.2.2.1
  have b5 : 0 ≤ N 29 5 := hm.1.2.2.2.2.2.1
  have b6 : N 29 6 = 0 ∨ N 29 6 = 1 := hm.1.2.2.2.2.2.2.1
  have b7 : 0 ≤ N 29 7 ∧ N 29 7 ≤ 2 := hm.1.2.2.2.2.2.2.2.1
  have b10 : N 29 0 ≠ 4 → N 29 7 = 0 := hm.1.2.2.2.2.2.2.2.2.2.2
  obtain ⟨s, hs, es⟩ := k5_ex b2.1 b2.2
  obtain ⟨fr, hfr, efr⟩ := k5_ex b1.1 b1.2
  obtain ⟨Hi, Li, hTi⟩ := H.inn hL hB hs es hm
  have hmi := md_in_mok hm
  have ei : ∀ x, md_in N 29 x = N 29 x := fun x => md_in_k (by decide)
  have hMW : md_MW (N 29) := by
    refine ⟨b0, b1, b6, fun z => ?_, fun z => ?_⟩
    · have h4 : N 29 0 = 4 := Decidable.by_contra (fun q => by have := b10 q; omega)
      obtain ⟨⟨c, a0⟩, a1, a2, a3, -⟩ := hm.2.2.2.1 h4
      have a3' : (gL g (N 29 3))[(N 29 4).toNat + 0]? = some (N 29 10, N 29 11, N 29 12, N 29 13) := a3 0 z
      have hlen : (N 29 4).toNat + 0 < (gL g (N 29 3)).length := (List.getElem?_eq_some_iff.mp a3').1
      have hpos : ∀ i, 1 ≤ i → i ≤ (gL g (N 29 3)).length → 1 ≤ tm (gL g (N 29 3)) i := fun i i1 i2 => gl_pos H.1.2.1 (H.1.2.1 _ c a0).2.2.2.2.2.1 i1 i2
      have := hpos ((N 29 4).toNat + 0 + 1) (by omega) (by omega)
      unfold tm at this
      rw [if_neg (by omega), show (N 29 4).toNat + 0 + 1 - 1 = (N 29 4).toNat + 0 by omega, a3'] at this
      have h9 : (1 : Int) ≤ N 29 10 := this
      omega
    · have h4 : N 29 0 = 4 := Decidable.by_contra (fun q => by have := b10 q; omega)
      obtain ⟨⟨c, a0⟩, a1, a2, a3, -⟩ := hm.2.2.2.1 h4
      have a3' : (gL g (N 29 3))[(N 29 4).toNat + 1]? = some (N 29 14, N 29 15, N 29 16, N 29 17) := a3 1 z
      have hlen : (N 29 4).toNat + 1 < (gL g (N 29 3)).length := (List.getElem?_eq_some_iff.mp a3').1
      have hpos : ∀ i, 1 ≤ i → i ≤ (gL g (N 29 3)).length → 1 ≤ tm (gL g (N 29 3)) i := fun i i1 i2 => gl_pos H.1.2.1 (H.1.2.1 _ c a0).2.2.2.2.2.1 i1 i2
      have := hpos ((N 29 4).toNat + 1 + 1) (by omega) (by omega)
      unfold tm at this
      rw [if_neg (by omega), show (N 29 4).toNat + 1 + 1 - 1 = (N 29 4).toNat + 1 by omega, a3'] at this
      have h9 : (1 : Int) ≤ N 29 14 := this
      omega
  have hDQ : md_DQ (md_in N) s := by
    obtain ⟨hb, hcm, hlb, hcf, h2, hnx⟩ := Hi.B1 hB.1 (by omega) hs
    have q := Li.2.2.2 s hs
    have h18 := Hi.2.2.2.2.2.2.2.1 (5 * s + md_in N 29 1)
    refine ⟨Li.1, ⟨hb, hcf, hcm, ⟨h2.1, by omega⟩, q.2.1⟩, hnx, Li.2.1, fun z => by have := (q.2.2.1 z).1; omega, by rw [ei]; omega, by rw [ei]; exact b7, by rw [ei]; exact b5, by omega⟩
  have hDP : md_DP N := ⟨b0, b1, b2, hL.1, fun _ => by rw [es]; exact hDQ⟩
  rw [es]
  by_cases hup : N 1 s = 0
  · rw [if_pos hup, if_pos hup]
    -- the handlers
    have fin : ∀ C0 : md_A, md_come0 (md_in N) s (N 29 0) = C0 → md_come (md_in N) s (N 29 0) = C0 → (∃ g', Iv c0 B C0 g') → Lo C0 → (md_DP N ∧ md_MW (N 29) ∧ (N 1 s = 0 → md_DE (md_come0 (md_in N) s (N 29 0)) s)) ∧ md_ldif (md_stand (md_come0 (md_in N) s (N 29 0)) s) s = md_come (md_in N) s (N 29 0) ∧ Inv c0 (B + 2) (md_come (md_in N) s (N 29 0)) := by
      intro C0 e1 e2 ⟨g', p⟩ pL
      rw [e1, e2]
      exact ⟨⟨hDP, hMW, fun _ => p.DE pL hB hs⟩, still (pL.2.2.2 s hs), ⟨⟨g', p.le (by omega)⟩, pL⟩⟩
    have finY : md_in N 13 s = 1 ∨ md_in N 13 s = 2 → (md_in N 13 s = 2 → ∃ lg, gV g (md_in N 2 s) fr = some (s, lg) ∧ up lg (gG g s)) → md_come0 (md_in N) s (N 29 0) = md_u (md_in N) 16 s (io (md_in N 16 s) (one fr)) → md_come (md_in N) s (N 29 0) = md_weigh (md_u (md_in N) 16 s (io (md_in N 16 s) (one fr))) s → (md_DP N ∧ md_MW (N 29) ∧ (N 1 s = 0 → md_DE (md_come0 (md_in N) s (N 29 0)) s)) ∧ md_ldif (md_stand (md_come0 (md_in N) s (N 29 0)) s) s = md_come (md_in N) s (N 29 0) ∧ Inv c0 (B + 2) (md_come (md_in N) s (N 29 0)) := by
      intro h13 hV e1 e2
      obtain ⟨d1, d2, d3⟩ := dl_y Hi Li hB hs hfr h13 hV
      rw [e1, e2]
      exact ⟨⟨hDP, hMW, fun _ => d1⟩, rfl, d2, d3⟩
    have hk7 : N 29 0 = 0 ∨ N 29 0 = 1 ∨ N 29 0 = 2 ∨ N 29 0 = 3 ∨ N 29 0 = 4 ∨ N 29 0 = 5 ∨ N 29 0 = 6 := by omega
    rcases hk7 with hk | hk | hk | hk | hk | hk | hk
    · have := dl_0 Hi Li hB hs hmi
      exact fin _ (by unfold md_come0; rw [hk, if_pos rfl]) (by unfold md_come; rw [hk, if_pos rfl]) this.1 this.2
    · -- ANSWER
      have e1 : md_come0 (md_in N) s (N 29 0) = md_ans0 (md_in N) s (md_in N 29 1) (md_in N 29 3) := by unfold md_come0; rw [hk, if_neg (by decide), if_pos rfl]
      have e2 : md_come (md_in N) s (N 29 0) = md_ans (md_in N) s (md_in N 29 1) (md_in N 29 3) := by unfold md_come; rw [hk, if_neg (by decide), if_pos rfl]
      unfold md_ans0 at e1
      unfold md_ans at e2
      by_cases c6 : md_in N 29 6 = 1
      · rw [if_pos c6] at e1 e2
        by_cases c1 : md_in N 13 s = 1 ∧ md_in N 29 3 = md_in N 2 s + 1
        · rw [if_pos c1] at e1 e2
          rw [ei, efr] at e1 e2
          exact finY (Or.inl c1.1) (fun z => by omega) e1 e2
        · rw [if_neg c1] at e1 e2
          exact fin _ e1 e2 ⟨g, Hi⟩ Li
      · rw [if_neg c6] at e1 e2
        by_cases c1 : md_in N 2 s < md_in N 29 3
        · rw [if_pos c1] at e1 e2
          have hb9 : N 29 3 ≤ B := hm.1.2.2.2.2.2.2.2.2.2.1 hk (by rw [ei] at c6; exact b6.resolve_right c6)
          have b3 : 0 ≤ N 29 3 := hm.1.2.2.2.1.1
          exact fin _ e1 e2 ⟨g, Hi.newTerm hs c1 (by rw [ei]; exact hb9)⟩ (Lo.newTerm Hi Li hs (by rw [ei]; omega))
        · rw [if_neg c1] at e1 e2
          exact fin _ e1 e2 ⟨g, Hi⟩ Li
    · have := dl_2 Hi Li hB hs hmi (by rw [ei]; exact hk)
      exact fin _ (by unfold md_come0; rw [hk, if_neg (by decide), if_neg (by decide), if_pos rfl]) (by unfold md_come; rw [hk, if_neg (by decide), if_neg (by decide), if_pos rfl]) this.1 this.2
    · -- VOTE
      have e1 : md_come0 (md_in N) s (N 29 0) = md_voted0 (md_in N) s (md_in N 29 1) (md_in N 29 3) := by unfold md_come0; rw [hk, if_neg (by decide), if_neg (by decide), if_neg (by decide), if_pos rfl]
      have e2 : md_come (md_in N) s (N 29 0) = md_voted (md_in N) s (md_in N 29 1) (md_in N 29 3) := by unfold md_come; rw [hk, if_neg (by decide), if_neg (by decide), if_neg (by decide), if_pos rfl]
      unfold md_voted0 at e1
      unfold md_voted at e2
      by_cases c1 : ¬ md_in N 29 6 = 0 ∧ md_in N 13 s = 2 ∧ md_in N 29 3 = md_in N 2 s
      · rw [if_pos c1] at e1 e2
        rw [ei, efr] at e1 e2
        refine finY (Or.inr c1.2.1) (fun z => ?_) e1 e2
        obtain ⟨lg, l, v1, v2, v3⟩ := hmi.2.2.1 (by show md_in N 29 0 = 3; rw [ei]; exact hk) (by
          show md_in N 29 6 = 1
          rw [ei] at c1 ⊢
          exact b6.resolve_left c1.1)
        have v1' : gV g (md_in N 29 3) (md_in N 29 1).toNat = some ((md_in N 29 2).toNat, lg) := v1
        have v2' : gC g (md_in N 29 3) (md_in N 29 2).toNat = some l := v2
        rw [c1.2.2, ei, ei, efr, es, Int.toNat_natCast, Int.toNat_natCast] at v1'
        rw [c1.2.2, ei, es, Int.toNat_natCast] at v2'
        obtain ⟨w1, -, -⟩ := (Hi.2.2.1 s hs).1.2.2.2.2.2.2.2.2.2.1 z
        rw [v2'] at w1
        cases w1
        exact ⟨lg, v1', v3⟩
      · rw [if_neg c1] at e1 e2
        exact fin _ e1 e2 ⟨g, Hi⟩ Li
    · have := dl_4 Hi Li hB hs hmi (by rw [ei]; exact hk) (by rw [ei]; exact hTi (by omega))
      exact fin _ (by unfold md_come0; rw [hk, if_neg (by decide), if_neg (by decide), if_neg (by decide), if_neg (by decide), if_pos rfl]) (by unfold md_come; rw [hk, if_neg (by decide), if_neg (by decide), if_neg (by decide), if_neg (by decide), if_pos rfl]) this.1 this.2
    · have := dl_5 Hi Li hB hs hmi (by rw [ei]; exact hk)
      exact fin _ (by unfold md_come0; rw [hk, if_neg (by decide), if_neg (by decide), if_neg (by decide), if_neg (by decide), if_neg (by decide), if_pos rfl]) (by unfold md_come; rw [hk, if_neg (by decide), if_neg (by decide), if_neg (by decide), if_neg (by decide), if_neg (by decide), if_pos rfl]) this.1 this.2
    · have := dl_6 Hi Li hB hs hmi (by rw [ei]; exact hk) (by rw [ei]; exact hTi (by omega))
      exact fin _ (by unfold md_come0; rw [hk, if_neg (by decide), if_neg (by decide), if_neg (by decide), if_neg (by decide), if_neg (by decide), if_neg (by decide)]) (by unfold md_come; rw [hk, if_neg (by decide), if_neg (by decide), if_neg (by decide), if_neg (by decide), if_neg (by decide), if_neg (by decide)]) this.1 this.2
  · rw [if_neg hup, if_neg hup]
    exact ⟨⟨hDP, hMW, fun z => absurd z hup⟩, rfl, ⟨⟨g, H.le (by omega)⟩, hL⟩⟩
theorem Inv.yes01 (h : Inv c0 B A) {k : Int} (h0 : 0 ≤ k) (h1 : k < A 27 0) : A 28 (20 * k + 6) = 0 ∨ A 28 (20 * k + 6) = 1 := by
  obtain ⟨⟨g, H⟩, -⟩ := h
  obtain ⟨n, rfl⟩ := Int.eq_ofNat_of_zero_le h0
  exact (H.2.2.2.1 n h1).1.2.2.2.2.2.2.1
theorem Inv.term0 (h : Inv c0 B A) (hB : 0 ≤ B ∧ B ≤ 80000) (hs : s < 5) : 0 ≤ md_termAt A s (A 14 s) := by
  obtain ⟨⟨g, H⟩, -⟩ := h
  obtain ⟨⟨s1, s2, s3, s4, -⟩, -⟩ := H.2.2.1 s hs
  rw [s1.term (by omega) s4.1 s4.2.1]
  by_cases hz : (A 14 s).toNat = 0
  · rw [hz]; exact Int.le_refl _
  · have := gl_pos H.1.2.1 s2 (i := (A 14 s).toNat) (by omega) (by omega)
    omega
theorem Inv.reads (h : Inv c0 B A) (hB : 0 ≤ B ∧ B ≤ 80000) : md_Hk A ∧ ∀ s : Nat, s < 5 → md_kept A s (A 21 0).toNat ≤ 4 ∧ rng (A 20 s + 1) := by
  obtain ⟨⟨g, H⟩, hL⟩ := h
  refine ⟨hL.2.1, fun s hs => ⟨hL.2.2.1 s hs, ?_⟩⟩
  have := H.2.2.2.2.2.2.2.2 s
  omega
end SF17
