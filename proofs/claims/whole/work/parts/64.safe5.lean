/-! safety: steps of a server, terms and votes -/
/-- only these fields of s, and such as do not count, are new -/
def dif (A A' : md_A) (s : Int) (K : Nat → Prop) : Prop := ∀ (k : Nat) (x : Int), ¬ md_no k → ¬ (K k ∧ x = s) → A' k x = A k x
section SF5
variable {c0 : Int} {g g' : Gh} {A A' : md_A} {B : Int} {s : Nat} {K : Nat → Prop}
theorem dif.sv (h : dif A A' s K) {u : Nat} (hu : u ≠ s) (hK : ∀ k, K k → (k ≤ 8 ∨ 13 ≤ k) ∧ k ≠ 18) : svE A A' u := by
  refine ⟨fun k hk => h k _ (by unfold md_no; omega) (by omega), fun k k1 k2 i _ _ => h k _ (by unfold md_no; omega) (fun z => by have := hK k z.1; omega), fun v _ => h 18 _ (by unfold md_no; omega) (fun z => (hK 18 z.1).2 rfl)⟩
theorem dif.ml (h : dif A A' s K) (hK : ∀ k, K k → k < 17) : A' 27 0 = A 27 0 ∧ ∀ x, A' 28 x = A 28 x := ⟨h 27 0 (by unfold md_no; omega) (fun z => by have := hK _ z.1; omega), fun x => h 28 x (by unfold md_no; omega) (fun z => by have := hK _ z.1; omega)⟩
theorem dif.bd (h : dif A A' s K) (hK : ∀ k, K k → k < 17) (hs : s < 5) (H : Bd A g B) (h2 : A' 2 s ≤ B) (hg : ∀ t c, gw g' t = some c → ((gL g' t).length : Int) ≤ B) : Bd A' g' B := by
  obtain ⟨b0, b1, b2, b3, b4⟩ := H
  refine ⟨fun u hu => ?_, hg, fun x => ?_, fun x => ?_, fun x => ?_⟩
  · by_cases hus : u = s
    · subst hus; exact h2
    · rw [h 2 _ (by unfold md_no; omega) (by omega)]; exact b0 u hu
  · rw [h 17 x (by unfold md_no; omega) (fun z => by have := hK _ z.1; omega)]; exact b2 x
  · rw [h 18 x (by unfold md_no; omega) (fun z => by have := hK _ z.1; omega)]; exact b3 x
  · rw [h 20 x (by unfold md_no; omega) (fun z => by have := hK _ z.1; omega)]; exact b4 x
theorem dif.lg (h : dif A A' s K) (hK : ∀ k, K k → k < 4 ∨ 12 < k) {l : List En} (H : lgR c0 A s l) : lgR c0 A' s l :=
  H.cg (fun k hk => h k _ (by unfold md_no; omega) (fun z => by have := hK _ z.1; omega)) (fun k k1 k2 i _ _ => h k _ (by unfold md_no; omega) (fun z => by have := hK _ z.1; omega))
/-- a higher term keeps what was confirmed -/
theorem akp.up {T T' : Int} {v : Nat} {l : List En} (H : akp g T v l) (h : T ≤ T') (h0 : ∀ t, 0 < ga g t v → t ≤ T) : akp g T' v l := fun t ht j hj ha => by
  by_cases h1 : t ≤ T
  · exact H t h1 j hj (fun T2 c a1 a2 a3 => ha T2 c a1 (by omega) a3)
  · have : ¬ 0 < ga g t v := fun z => h1 (h0 t z)
    have : j = 0 := by omega
    subst this
    exact List.nil_prefix
/-- a follower, of its term or a higher one -/
theorem Iv.fol (H : Iv c0 B A g) (hs : s < 5) (hd : dif A A' s (fun k => k = 2 ∨ k = 3 ∨ k = 13)) (h2 : A 2 s ≤ A' 2 s) (hB : A' 2 s ≤ B) (h3 : A' 2 s = A 2 s → A' 3 s = A 3 s) (h13 : A' 13 s ≠ 2 ∧ A' 13 s ≠ 3) : Iv c0 B A' g := by
  have HH := H
  obtain ⟨W, K, hsv, hms, hbd⟩ := H
  obtain ⟨⟨s1, s2, s3, s4, s5, s6, s7, s9, s10, s11, s12⟩, s8⟩ := hsv s hs
  have e14 : A' 14 s = A 14 s := hd 14 _ (by unfold md_no; omega) (by omega)
  have e4 : A' 4 s = A 4 s := hd 4 _ (by unfold md_no; omega) (by omega)
  have e8 : A' 8 s = A 8 s := hd 8 _ (by unfold md_no; omega) (by omega)
  refine HH.step (Int.le_refl B) (gle.rf g) W K (s := s) ⟨⟨hd.lg (by omega) s1, s2, ⟨by omega, by omega⟩, ?_, s5.up h2 s6, fun t ht => by have := s6 t ht; omega, fun T c lg q => ?_, fun T l q => by have := s9 T l q; omega, fun z => absurd z h13.2, fun z => absurd z h13.1, fun T q => ⟨by have := (s12 T q).1; omega, fun _ => h13.1⟩⟩, by rw [e8]; exact s8⟩ (fun u hu hus => ⟨hd.sv hus (by omega), rfl, fun _ => rfl, fun _ => rfl, fun _ => rfl, fun _ _ => rfl, fun _ q => q⟩) (hd.ml (by omega)) (hd.bd (by omega) hs hbd hB hbd.2.1)
  · rw [e14, e4]
    exact ⟨s4.1, s4.2.1, s4.2.2.up h2⟩
  · obtain ⟨a1, a2, a3⟩ := s7 T c lg q
    refine ⟨by omega, fun e => ?_, a3⟩
    by_cases h9 : A' 2 s = A 2 s
    · rw [h3 h9]
      exact a2 (by omega)
    · omega
/-- yes from one more -/
theorem bit_io_one : ∀ a : Nat, a < 32 → ∀ k : Nat, k < 5 → ∀ v : Nat, v < 5 → bit (io (a : Int) (one (k : Int))) v = 1 → bit (a : Int) v = 1 ∨ v = k := by decide +kernel
theorem bit_one : ∀ k : Nat, k < 5 → ∀ v : Nat, v < 5 → bit (one (k : Int)) v = 1 → v = k := by decide +kernel
theorem Iv.yes (H : Iv c0 B A g) (hs : s < 5) (hd : dif A A' s (fun k => k = 16)) (h16 : A 13 s = 2 → ∀ v : Nat, v < 5 → bit (A' 16 s) v = 1 → bit (A 16 s) v = 1 ∨ ∃ lg, gV g (A 2 s) v = some (s, lg) ∧ up lg (gG g s)) : Iv c0 B A' g := by
  have HH := H
  obtain ⟨W, K, hsv, hms, hbd⟩ := H
  obtain ⟨⟨s1, s2, s3, s4, s5, s6, s7, s9, s10, s11, s12⟩, s8⟩ := hsv s hs
  have e : ∀ k : Nat, k ≤ 14 → ¬ md_no k → A' k s = A k s := fun k hk hn => hd k _ hn (by omega)
  have e2 := e 2 (by omega) (by unfold md_no; omega)
  have e3 := e 3 (by omega) (by unfold md_no; omega)
  have e4 := e 4 (by omega) (by unfold md_no; omega)
  have e8 := e 8 (by omega) (by unfold md_no; omega)
  have e13 := e 13 (by omega) (by unfold md_no; omega)
  have e14 := e 14 (by omega) (by unfold md_no; omega)
  have e18 : ∀ x, A' 18 x = A 18 x := fun x => hd 18 _ (by unfold md_no; omega) (by omega)
  refine HH.step (Int.le_refl B) (gle.rf g) W K (s := s) ⟨?_, by rw [e8]; exact s8⟩ (fun u hu hus => ⟨hd.sv hus (by omega), rfl, fun _ => rfl, fun _ => rfl, fun _ => rfl, fun _ _ => rfl, fun _ q => q⟩) (hd.ml (by omega)) (hd.bd (by omega) hs hbd (by rw [e2]; exact hbd.1 s hs) hbd.2.1)
  unfold Sv sv_V sv_3 sv_2
  rw [e2, e3, e4, e13, e14]
  refine ⟨hd.lg (by omega) s1, s2, s3, s4, s5, s6, s7, s9, fun z => ?_, fun z => ?_, s12⟩
  · simp only [e18]
    exact s10 z
  · obtain ⟨a1, a2, a3⟩ := s11 z
    refine ⟨a1, a2, fun v hv hb => ?_⟩
    rcases h16 z v hv hb with h | h
    · exact a3 v hv h
    · exact h
/-- a new vote in the history -/
def gvo (g : Gh) (T : Int) (s c : Nat) (l : List En) : Gh := (g.1, g.2.1, g.2.2.1, (fun T' v => if T' = T ∧ v = s then some (c, l) else gV g T' v), g.2.2.2.2)
def gst (g : Gh) (T : Int) (s : Nat) (l : List En) : Gh := (g.1, g.2.1, g.2.2.1, g.2.2.2.1, g.2.2.2.2.1, g.2.2.2.2.2.1, g.2.2.2.2.2.2.1, fun T' v => if T' = T ∧ v = s then some l else gC g T' v)
theorem gvo_le {T : Int} {c : Nat} {l : List En} (h : gV g T s = none) : gle g (gvo g T s c l) := ⟨fun _ => List.prefix_refl _, fun _ _ h => ⟨h, rfl⟩, fun T' v x hx => by
  show (if T' = T ∧ v = s then some (c, l) else gV g T' v) = some x
  by_cases e : T' = T ∧ v = s
  · rw [e.1, e.2, h] at hx; cases hx
  · rw [if_neg e]; exact hx, fun _ _ => Nat.le_refl _, fun _ _ _ h => h, fun _ _ _ h => h⟩
theorem gst_le {T : Int} {l : List En} (h : gC g T s = none) : gle g (gst g T s l) := ⟨fun _ => List.prefix_refl _, fun _ _ h => ⟨h, rfl⟩, fun _ _ _ h => h, fun _ _ => Nat.le_refl _, fun _ _ _ h => h, fun T' v x hx => by
  show (if T' = T ∧ v = s then some l else gC g T' v) = some x
  by_cases e : T' = T ∧ v = s
  · rw [e.1, e.2, h] at hx; cases hx
  · rw [if_neg e]; exact hx⟩
theorem gvo_W {T : Int} {c : Nat} {l : List En} (W : Ws c0 g) (h : gV g T s = none) : Ws c0 (gvo g T s c l) := by
  obtain ⟨h0, hw, hq, he, hm⟩ := W
  refine ⟨h0, hw, fun T' c' hc => maj_mono (hq T' c' hc) (fun v _ hv => ?_), he, hm⟩
  obtain ⟨lg, a1, a2⟩ := hv
  exact ⟨lg, (gvo_le h).2.2.1 _ _ _ a1, a2⟩
/-- a vote -/
theorem Iv.vote (H : Iv c0 B A g) (hs : s < 5) (hd : dif A A' s (fun k => k = 3)) {c : Nat} (h3 : A 3 s = -1 ∨ A 3 s = c) (h3' : A' 3 s = c) {l : List En} (hC : gC g (A 2 s) c = some l) (hu : up (gG g s) l) : ∃ g', gle g g' ∧ Iv c0 B A' g' ∧ (∃ lg, gV g' (A 2 s) s = some (c, lg) ∧ up lg l) ∧ gC g' = gC g := by
  have HH := H
  obtain ⟨W, K, hsv, hms, hbd⟩ := H
  obtain ⟨⟨s1, s2, s3, s4, s5, s6, s7, s9, s10, s11, s12⟩, s8⟩ := hsv s hs
  have e : ∀ k : Nat, k ≠ 3 → k ≤ 16 → ¬ md_no k → A' k s = A k s := fun k h3 hk hn => hd k _ hn (by omega)
  have e2 := e 2 (by omega) (by omega) (by unfold md_no; omega)
  have e4 := e 4 (by omega) (by omega) (by unfold md_no; omega)
  have e8 := e 8 (by omega) (by omega) (by unfold md_no; omega)
  have e13 := e 13 (by omega) (by omega) (by unfold md_no; omega)
  have e14 := e 14 (by omega) (by omega) (by unfold md_no; omega)
  have e16 := e 16 (by omega) (by omega) (by unfold md_no; omega)
  have e18 : ∀ x, A' 18 x = A 18 x := fun x => hd 18 _ (by unfold md_no; omega) (by omega)
  have fin : ∀ g' : Gh, gle g g' → Ws c0 g' → w_K g' → gG g' = gG g → ga g' = ga g → gC g' = gC g → gL g' = gL g → gw g' = gw g → ge g' = ge g → (∀ u, u ≠ s → ∀ T, gV g' T u = gV g T u) → sv_V A' g' s → Iv c0 B A' g' := by
    intro g' hle W' K' q1 q2 q3 q4 q5 q6 q7 q8
    refine HH.step (Int.le_refl B) hle W' K' (s := s) ⟨?_, by rw [e8]; exact s8⟩ (fun u hu hus => ⟨hd.sv hus (by omega), by rw [q1], fun _ => by rw [q2], q7 u hus, fun _ => by rw [q3], fun _ _ => by rw [q4], fun _ q => by rw [q5] at q; exact q⟩) (hd.ml (by omega)) (hd.bd (by omega) hs hbd (by rw [e2]; exact hbd.1 s hs) (by rw [q4, q5]; exact hbd.2.1))
    unfold Sv sv_3 sv_2
    rw [e2, e4, e13, e14, e16, q1, q2, q3, q4, q5, q6]
    refine ⟨hd.lg (by omega) s1, hle.gl s2, s3, ⟨s4.1, s4.2.1, hle.cmt W.2.2.2.1 s4.2.2⟩, hle.akp W.2.1 K (fun t => by rw [q2]) s5, s6, q8, s9, fun z => ?_, fun z => ?_, s12⟩
    · obtain ⟨a1, a2, a3, a4, a5⟩ := s10 z
      refine ⟨a1, a2, ?_, fun v hv hn => by rw [e18]; exact a4 v hv hn, a5⟩
      rcases a3 with a3 | ⟨n, a3⟩
      · exact Or.inl a3
      · exact Or.inr ⟨n, hle.2.2.2.2.1 _ _ _ a3⟩
    · obtain ⟨a1, a2, a3⟩ := s11 z
      refine ⟨a1, a2, fun v hv hb => ?_⟩
      obtain ⟨lg, b1, b2⟩ := a3 v hv hb
      exact ⟨lg, hle.2.2.1 _ _ _ b1, b2⟩
  cases hV : gV g (A 2 s) s with
  | some x =>
    obtain ⟨c', lg⟩ := x
    obtain ⟨a1, a2, a3, a4, l', a5, a6⟩ := s7 _ c' lg hV
    have hcc : c' = c := by
      have := a2 rfl
      omega
    subst hcc
    refine ⟨g, gle.rf g, fin g (gle.rf g) W K rfl rfl rfl rfl rfl rfl (fun _ _ _ => rfl) (fun T c2 lg2 q => ?_), ⟨lg, hV, ?_⟩, rfl⟩
    · obtain ⟨b1, b2, b3⟩ := s7 T c2 lg2 q
      rw [e2]
      refine ⟨b1, fun eT => ?_, b3⟩
      rw [h3']
      rw [eT, hV] at q
      cases q
      rfl
    · rw [hC] at a5
      cases a5
      exact a6
  | none =>
    have hle := gvo_le (c := c) (l := gG g s) hV
    refine ⟨gvo g (A 2 s) s c (gG g s), hle, fin _ hle (gvo_W W hV) K rfl rfl rfl rfl rfl rfl (fun u hu T => if_neg (fun z => hu z.2)) (fun T c2 lg2 q => ?_), ⟨gG g s, if_pos ⟨rfl, rfl⟩, hu⟩, rfl⟩
    rw [e2]
    have q' : (if T = A 2 s ∧ s = s then some (c, gG g s) else gV g T s) = some (c2, lg2) := q
    by_cases hT : T = A 2 s
    · rw [if_pos ⟨hT, rfl⟩] at q'
      cases q'
      subst hT
      exact ⟨Int.le_refl _, fun _ => h3', s2, fun t ht j hj ha => s5 t (by omega) j hj ha, l, hC, hu⟩
    · rw [if_neg (fun z => hT z.1)] at q'
      obtain ⟨b1, b2, b3, b4, b5⟩ := s7 T c2 lg2 q'
      exact ⟨b1, fun z => absurd z hT, b3, b4, b5⟩
theorem up_rf (l : List En) : up l l := Or.inr ⟨rfl, Nat.le_refl _⟩
/-- a candidate of the next term -/
theorem Iv.cand (H : Iv c0 B A g) (hs : s < 5) (hd : dif A A' s (fun k => k = 2 ∨ k = 3 ∨ k = 13 ∨ k = 16)) (h2 : A' 2 s = A 2 s + 1) (hB : A' 2 s ≤ B) (h3 : A' 3 s = s) (h13 : A' 13 s = 2) (h16 : A' 16 s = one s) : ∃ g', gle g g' ∧ Iv c0 B A' g' ∧ gC g' (A' 2 s) s = some (gG g' s) := by
  have HH := H
  obtain ⟨W, K, hsv, hms, hbd⟩ := H
  obtain ⟨⟨s1, s2, s3, s4, s5, s6, s7, s9, s10, s11, s12⟩, s8⟩ := hsv s hs
  have e14 : A' 14 s = A 14 s := hd 14 _ (by unfold md_no; omega) (by omega)
  have e4 : A' 4 s = A 4 s := hd 4 _ (by unfold md_no; omega) (by omega)
  have e8 : A' 8 s = A 8 s := hd 8 _ (by unfold md_no; omega) (by omega)
  have hV : gV g (A 2 s + 1) s = none := by
    cases h9 : gV g (A 2 s + 1) s with
    | none => rfl
    | some x => have := (s7 _ x.1 x.2 h9).1; omega
  have hC : gC (gvo g (A 2 s + 1) s s (gG g s)) (A 2 s + 1) s = none := by
    cases h9 : gC g (A 2 s + 1) s with
    | none => exact h9
    | some x => have := s9 _ x h9; omega
  have hl1 := gvo_le (c := s) (l := gG g s) hV
  have hl2 := gst_le (l := gG g s) hC
  have hle : gle g (gst (gvo g (A 2 s + 1) s s (gG g s)) (A 2 s + 1) s (gG g s)) := ⟨fun _ => List.prefix_refl _, fun _ _ h => ⟨h, rfl⟩, hl1.2.2.1, fun _ _ => Nat.le_refl _, fun _ _ _ h => h, hl2.2.2.2.2.2⟩
  refine ⟨_, hle, HH.step (Int.le_refl B) hle (gvo_W W hV) K (s := s) ⟨?_, by rw [e8]; exact s8⟩ (fun u hu hus => ⟨hd.sv hus (by omega), rfl, fun _ => rfl, fun _ => if_neg (fun z => hus z.2), fun _ => if_neg (fun z => hus z.2), fun _ _ => rfl, fun _ q => q⟩) (hd.ml (by omega)) (hd.bd (by omega) hs hbd hB hbd.2.1), by rw [h2]; exact if_pos ⟨rfl, rfl⟩⟩
  unfold Sv sv_V sv_3 sv_2
  rw [h2, e4, e14, h13, h16, h3]
  refine ⟨hd.lg (by omega) s1, s2, ⟨by omega, by have := s3.2; show lt (gG g s) ≤ _; omega⟩, ⟨s4.1, s4.2.1, s4.2.2.up (by omega)⟩, s5.up (by omega) s6, fun t ht => by have := s6 t ht; omega, fun T c lg q => ?_, fun T l q => ?_, fun z => absurd z (by decide), fun _ => ⟨if_pos ⟨rfl, rfl⟩, by have := s3.2; show lt (gG g s) < _; omega, fun v hv hb => ?_⟩, fun T q => ?_⟩
  · have q' : (if T = A 2 s + 1 ∧ s = s then some (s, gG g s) else gV g T s) = some (c, lg) := q
    by_cases hT : T = A 2 s + 1
    · rw [if_pos ⟨hT, rfl⟩] at q'
      cases q'
      subst hT
      exact ⟨Int.le_refl _, fun _ => rfl, s2, fun t ht j hj ha => s5 t (by omega) j hj (fun T2 c a1 a2 a3 => ha T2 c a1 (by omega) a3), gG g s, if_pos ⟨rfl, rfl⟩, up_rf _⟩
    · rw [if_neg (fun z => hT z.1)] at q'
      obtain ⟨b1, b2, b3, b4, l, b5, b6⟩ := s7 T c lg q'
      exact ⟨by omega, fun z => absurd z hT, b3, b4, l, hle.2.2.2.2.2 _ _ _ b5, b6⟩
  · have q' : (if T = A 2 s + 1 ∧ s = s then some (gG g s) else gC g T s) = some l := q
    by_cases hT : T = A 2 s + 1
    · omega
    · rw [if_neg (fun z => hT z.1)] at q'
      have := s9 T l q'
      omega
  · have := bit_one s hs v hv hb
    subst this
    exact ⟨gG g v, if_pos ⟨rfl, rfl⟩, up_rf _⟩
  · have := (s12 T q).1
    exact ⟨by omega, fun z => by omega⟩
end SF5
