/-! safety: a new object -/
def g0 : Gh := ((fun _ => []), (fun _ => 0), (fun _ => none), (fun _ _ => none), (fun _ _ => 0), (fun _ _ _ => False), (fun _ => []), fun _ _ => none)
theorem Inv.new {m : Int} (hm : set5 m) : Inv m 0 (md_new m) := by
  have e : ∀ (k : Nat) (x : Int), k ≠ 3 → k ≠ 6 → md_new m k x = 0 := fun k x h1 h2 => by
    unfold md_new
    rw [if_neg (fun z => h1 z.1), if_neg (fun z => h2 z.1)]
  have e6 : ∀ s : Nat, s < 5 → md_new m 6 s = m := fun s hs => by
    unfold md_new
    rw [if_neg (by omega), if_pos ⟨rfl, by omega, by omega⟩]
  have gw0 : ∀ t, gw g0 t = none := fun _ => rfl
  have hr : md_r (md_new m) := fun k x => by
    unfold md_new
    split
    · omega
    · split <;> omega
  refine ⟨⟨g0, ⟨hm, fun t c hc => (by cases hc), fun t c hc => (by cases hc), fun t n j h => h.elim, fun t c m' hc => (by cases hc)⟩, ⟨fun t v => Nat.le_refl _, fun _ _ => rfl⟩, fun s hs => ⟨⟨?_, fun i i1 i2 => ?_, ⟨?_, ?_⟩, ⟨?_, ?_, Or.inl ?_⟩, fun t ht j hj _ => ?_, fun t ht => absurd ht (Nat.lt_irrefl 0), fun T c lg q => (by cases q), fun T l q => (by cases q), fun z => ?_, fun z => ?_, fun T q => (by cases q)⟩, ?_⟩, fun k hk => ?_, fun s hs => ?_, fun t c hc => (by cases hc), fun x => ?_, fun x => ?_, fun x => ?_⟩, ⟨⟨hr, ?_, ?_⟩, ?_, ?_⟩, fun i i0 i1 => ?_, fun s hs => ?_, fun s hs => ⟨?_, ?_, fun z => ?_, Or.inl ?_, Or.inl ?_, fun z => ?_⟩⟩
  · unfold lgR
    rw [e 4 _ (by decide) (by decide), e 5 _ (by decide) (by decide), e 8 _ (by decide) (by decide), e6 s hs]
    exact ⟨Int.le_refl _, Int.le_refl _, rfl, rfl, rfl, fun i hi => by omega⟩
  · exact absurd i2 (by show ¬ i ≤ 0; omega)
  · rw [e 2 _ (by decide) (by decide)]; exact Int.le_refl _
  · rw [e 2 _ (by decide) (by decide)]; exact Int.le_refl _
  · rw [e 4 _ (by decide) (by decide), e 14 _ (by decide) (by decide)]; exact Int.le_refl _
  · rw [e 14 _ (by decide) (by decide)]; exact Int.le_refl _
  · rw [e 14 _ (by decide) (by decide)]; rfl
  · have : j = 0 := Nat.le_zero.mp hj
    subst this
    exact List.nil_prefix
  · rw [e 13 _ (by decide) (by decide)] at z; exact absurd z (by decide)
  · rw [e 13 _ (by decide) (by decide)] at z; exact absurd z (by decide)
  · rw [e 8 _ (by decide) (by decide)]; decide
  · rw [e 27 _ (by decide) (by decide)] at hk; omega
  · rw [e 2 _ (by decide) (by decide)]; exact Int.le_refl _
  · rw [e 17 _ (by decide) (by decide)]; omega
  · rw [e 18 _ (by decide) (by decide)]; omega
  · rw [e 20 _ (by decide) (by decide)]; omega
  · rw [e 27 _ (by decide) (by decide)]; exact Int.le_refl _
  · rw [e 27 _ (by decide) (by decide)]; decide
  · rw [e 21 _ (by decide) (by decide)]; exact Int.le_refl _
  · rw [e 21 _ (by decide) (by decide)]; decide
  · rw [e 21 _ (by decide) (by decide)] at i1; omega
  · rw [e 21 _ (by decide) (by decide)]; show (0 : Int) ≤ 4; decide
  · rw [e 13 _ (by decide) (by decide)]; omega
  · rw [e 16 _ (by decide) (by decide)]; omega
  · rw [e 13 _ (by decide) (by decide)] at z; omega
  · exact e 1 _ (by decide) (by decide)
  · exact e 15 _ (by decide) (by decide)
  · rw [e 13 _ (by decide) (by decide)] at z; exact absurd z (by decide)
