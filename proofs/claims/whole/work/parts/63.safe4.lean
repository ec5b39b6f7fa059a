/-! safety: steps -/
section SF4
variable {c0 : Int} {g g' : Gh} {A A' : md_A} {B B' : Int} {T : Int}
theorem gle.rf (g : Gh) : gle g g := ⟨fun _ => List.prefix_refl _, fun _ _ h => ⟨h, rfl⟩, fun _ _ _ h => h, fun _ _ => Nat.le_refl _, fun _ _ _ h => h, fun _ _ _ h => h⟩
theorem Iv.step (H : Iv c0 B A g) (hB : B ≤ B') (h : gle g g') (W' : Ws c0 g') (K' : w_K g') {s : Nat} (hS : Sv c0 A' g' s ∧ A' 8 s ≤ 48)
    (ho : ∀ u : Nat, u < 5 → u ≠ s → svE A A' u ∧ gG g' u = gG g u ∧ (∀ t, ga g' t u = ga g t u) ∧ (∀ T, gV g' T u = gV g T u) ∧ (∀ T, gC g' T u = gC g T u) ∧ (∀ t, gw g t = some u → gL g' t = gL g t) ∧ ∀ t, gw g' t = some u → gw g t = some u)
    (hm : A' 27 0 = A 27 0 ∧ ∀ x, A' 28 x = A 28 x) (hb : Bd A' g' B') : Iv c0 B' A' g' := by
  obtain ⟨W, K, hs, hms, -⟩ := H
  refine ⟨W', K', fun u hu => ?_, fun k hk => ?_, hb⟩
  · by_cases hus : u = s
    · subst hus
      exact hS
    · obtain ⟨e, a1, a2, a3, a4, a5, a6⟩ := ho u hu hus
      obtain ⟨b1, b2⟩ := hs u hu
      refine ⟨(b1.cg b2 e).mono h W K a1 a2 a3 a4 a5 a6, ?_⟩
      rw [e.1 8 (by omega)]
      exact b2
  · rw [hm.1] at hk
    have := (hms k hk).mono h W K hB
    simp only [hm.2]
    exact this
theorem Iv.same (H : Iv c0 B A g) (e : ∀ s : Nat, s < 5 → svE A A' s) (hm : A' 27 0 = A 27 0 ∧ ∀ x, A' 28 x = A 28 x) (hb : (∀ x, 0 ≤ A' 17 x ∧ A' 17 x ≤ B + 1) ∧ (∀ x, 0 ≤ A' 18 x ∧ A' 18 x ≤ B) ∧ ∀ x, 0 ≤ A' 20 x ∧ A' 20 x ≤ B) : Iv c0 B A' g := by
  obtain ⟨W, K, hs, hms, hbd⟩ := H
  refine ⟨W, K, fun u hu => ?_, fun k hk => ?_, fun s hs => ?_, hbd.2.1, hb⟩
  · obtain ⟨b1, b2⟩ := hs u hu
    refine ⟨b1.cg b2 (e u hu), ?_⟩
    rw [(e u hu).1 8 (by omega)]
    exact b2
  · rw [hm.1] at hk
    simp only [hm.2]
    exact hms k hk
  · rw [(e s hs).1 2 (by omega)]
    exact hbd.1 s hs
/-- a field that does not count -/
def md_no (k : Nat) : Prop := k = 0 ∨ k = 1 ∨ k = 7 ∨ k = 15 ∨ k = 19 ∨ (21 ≤ k ∧ k ≤ 26) ∨ k = 29
theorem Iv.f (H : Iv c0 B A g) (h : ∀ k, ¬ md_no k → A' k = A k) : Iv c0 B A' g := by
  have e : ∀ k x, ¬ md_no k → A' k x = A k x := fun k x hk => by rw [h k hk]
  refine H.same (fun s hs => ⟨fun k hk => e k _ (by unfold md_no; omega), fun k k1 k2 i _ _ => e k _ (by unfold md_no; omega), fun v _ => e 18 _ (by unfold md_no; omega)⟩) ⟨e 27 0 (by unfold md_no; omega), fun x => e 28 x (by unfold md_no; omega)⟩ ?_
  obtain ⟨-, -, -, -, -, -, b1, b2, b3⟩ := H
  exact ⟨fun x => by rw [e 17 x (by unfold md_no; omega)]; exact b1 x, fun x => by rw [e 18 x (by unfold md_no; omega)]; exact b2 x, fun x => by rw [e 20 x (by unfold md_no; omega)]; exact b3 x⟩
theorem Iv.le (H : Iv c0 B A g) (h : B ≤ B') : Iv c0 B' A g := by
  obtain ⟨W, K, hs, hms, b0, b1, b2, b3, b4⟩ := H
  exact ⟨W, K, hs, fun k hk => (hms k hk).mono (gle.rf g) W K h, fun s hs => by have := b0 s hs; omega, fun t c hc => by have := b1 t c hc; omega, fun x => by have := b2 x; omega, fun x => by have := b3 x; omega, fun x => by have := b4 x; omega⟩
theorem Iv.post (H : Iv c0 B A g) (h27 : 0 ≤ A 27 0) (hm : mok c0 g B (fun x => A 29 x)) : Iv c0 B (md_post A) g := by
  unfold md_post
  by_cases h48 : A 27 0 = 48
  · rw [if_pos h48]
    exact H
  · rw [if_neg h48]
    have e : ∀ (k : Nat) (x : Int), k ≠ 27 → k ≠ 28 → md_u (md_w A 28 (20 * A 27 0) (20 * A 27 0 + 20) (fun x => A 29 (x - 20 * A 27 0))) 27 0 (A 27 0 + 1) k x = A k x := fun k x k1 k2 => by
      rw [md_uk k1]
      unfold md_w
      rw [if_neg (fun z => k2 z.1)]
    obtain ⟨W, K, hs, hms, b0, b1, b2, b3, b4⟩ := H
    refine ⟨W, K, fun u hu => ?_, fun k hk => ?_, fun s hs => ?_, b1, fun x => ?_, fun x => ?_, fun x => ?_⟩
    · obtain ⟨c1, c2⟩ := hs u hu
      refine ⟨c1.cg c2 ⟨fun k hk => e k _ (by omega) (by omega), fun k k1 k2 i _ _ => e k _ (by omega) (by omega), fun v _ => e 18 _ (by omega) (by omega)⟩, ?_⟩
      rw [e 8 _ (by omega) (by omega)]
      exact c2
    · rw [md_us] at hk
      by_cases hk2 : (k : Int) = A 27 0
      · have : (fun x => md_u (md_w A 28 (20 * A 27 0) (20 * A 27 0 + 20) (fun x => A 29 (x - 20 * A 27 0))) 27 0 (A 27 0 + 1) 28 (20 * k + x)) = fun x => if 0 ≤ x ∧ x < 20 then A 29 x else A 28 (20 * k + x) := by
          funext x
          rw [md_uk (by decide)]
          unfold md_w
          by_cases hx : 0 ≤ x ∧ x < 20
          · rw [if_pos ⟨rfl, by omega, by omega⟩, if_pos hx]
            show A 29 (20 * (k : Int) + x - 20 * A 27 0) = A 29 x
            congr 1
            omega
          · rw [if_neg (by omega), if_neg hx]
        rw [this]
        clear this
        obtain ⟨m1, m2, m3, m4, m5, m6⟩ := hm
        have z : ∀ x : Int, 0 ≤ x → x < 20 → (if 0 ≤ x ∧ x < 20 then A 29 x else A 28 (20 * k + x)) = A 29 x := fun x h0 h1 => if_pos ⟨h0, h1⟩
        unfold mok
        simp only [z 0 (by decide) (by decide), z 1 (by decide) (by decide), z 2 (by decide) (by decide), z 3 (by decide) (by decide), z 4 (by decide) (by decide), z 5 (by decide) (by decide), z 6 (by decide) (by decide), z 7 (by decide) (by decide), z 8 (by decide) (by decide), z 10 (by decide) (by decide)]
        refine ⟨m1, m2, m3, fun q => ?_, m5, m6⟩
        obtain ⟨a0, a1, a2, a3, a4⟩ := m4 q
        refine ⟨a0, a1, a2, fun j hj => ?_, a4⟩
        have h7 := m1.2.2.2.2.2.2.2.1
        have hj2 : (j : Int) < 2 := by
          have : (fun x => A 29 x) 7 ≤ 2 := h7.2
          have h9 : (j : Int) < A 29 7 := hj
          have h8 : A 29 7 ≤ 2 := h7.2
          omega
        rw [z _ (by omega) (by omega), z _ (by omega) (by omega), z _ (by omega) (by omega), z _ (by omega) (by omega)]
        exact a3 j hj
      · have hk3 : (k : Int) < A 27 0 := by omega
        have : mok c0 g B (fun x => if k = 0 ∧ False then 0 else A 28 (20 * k + x)) := by
          simp only [and_false, if_false]
          exact hms k hk3
        obtain ⟨m1, m2, m3, m4, m5, m6⟩ := hms k hk3
        have z : ∀ x : Int, 0 ≤ x → x < 20 → md_u (md_w A 28 (20 * A 27 0) (20 * A 27 0 + 20) (fun x => A 29 (x - 20 * A 27 0))) 27 0 (A 27 0 + 1) 28 (20 * k + x) = A 28 (20 * k + x) := fun x h0 h1 => by
          rw [md_uk (by decide)]
          unfold md_w
          rw [if_neg (by omega)]
        unfold mok
        simp only [z 0 (by decide) (by decide), z 1 (by decide) (by decide), z 2 (by decide) (by decide), z 3 (by decide) (by decide), z 4 (by decide) (by decide), z 5 (by decide) (by decide), z 6 (by decide) (by decide), z 7 (by decide) (by decide), z 8 (by decide) (by decide), z 10 (by decide) (by decide)]
        refine ⟨m1, m2, m3, fun q => ?_, m5, m6⟩
        obtain ⟨a0, a1, a2, a3, a4⟩ := m4 q
        refine ⟨a0, a1, a2, fun j hj => ?_, a4⟩
        have hj2 : (j : Int) < 2 := by
          have h8 : A 28 (20 * k + 7) ≤ 2 := m1.2.2.2.2.2.2.2.1.2
          omega
        rw [z _ (by omega) (by omega), z _ (by omega) (by omega), z _ (by omega) (by omega), z _ (by omega) (by omega)]
        exact a3 j hj
    · rw [e 2 _ (by omega) (by omega)]
      exact b0 s hs
    · rw [e 17 _ (by omega) (by omega)]
      exact b2 x
    · rw [e 18 _ (by omega) (by omega)]
      exact b3 x
    · rw [e 20 _ (by omega) (by omega)]
      exact b4 x
end SF4
