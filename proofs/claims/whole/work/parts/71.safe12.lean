/-! safety: the local invariant; appending, leading, weighing -/
def L2 (A : md_A) (s : Nat) : Prop := (0 ≤ A 13 s ∧ A 13 s ≤ 3) ∧ set5 (A 16 s) ∧ ((A 13 s = 1 ∨ A 13 s = 2) → A 8 s < 40 ∧ md_most A s (A 16 s) = 0) ∧ (A 1 s = 0 ∨ A 1 s = 1) ∧ (A 15 s = 0 ∨ A 15 s = 1) ∧ (A 13 s = 3 → ∀ v : Nat, v < 5 → A 17 (5 * s + v) ≤ md_last A s + 1 ∧ A 18 (5 * s + v) ≤ md_last A s)
def Lo (A : md_A) : Prop := md_V A ∧ md_Hk A ∧ (∀ s : Nat, s < 5 → md_kept A s (A 21 0).toNat ≤ 4) ∧ ∀ s : Nat, s < 5 → L2 A s
theorem kept_mono {A A' : md_A} (h22 : ∀ x, A' 22 x = A 22 x) (h25 : ∀ x, A' 25 x = A 25 x ∨ A' 25 x ≠ 0) (s : Int) : ∀ n : Nat, md_kept A' s n ≤ md_kept A s n
  | 0 => Int.le_refl _
  | n + 1 => by
    have ih := kept_mono h22 h25 s n
    rw [md_kept_s, md_kept_s, h22]
    rcases h25 n with h | h
    · rw [h]
      split <;> omega
    · rw [if_neg (fun z => h z.2)]
      split <;> omega
section SF12
variable {c0 : Int} {g g' : Gh} {A A' : md_A} {B : Int} {s : Nat} {l : List En}
theorem Iv.B1 (H : Iv c0 B A g) (hB : 0 ≤ B) (hB2 : B ≤ 100000) (hs : s < 5) : md_B A s ∧ (A 4 s ≤ A 14 s ∧ A 14 s ≤ md_last A s) ∧ md_last A s ≤ B ∧ set5 (md_config A s) ∧ (0 ≤ A 2 s ∧ A 2 s ≤ B) ∧ md_nx A s := by
  obtain ⟨⟨s1, s2, s3, s4, -⟩, s8⟩ := H.2.2.1 s hs
  have hl := H.len s2 hB
  have hla := s1.last
  have hcf := s1.config
  have hset := gl_set H.1.1 H.1.2.1 s2
  have h2 := H.2.2.2.2.1 s hs
  obtain ⟨r1, r2, r3, -⟩ := s1
  refine ⟨⟨by omega, by omega, r1, by omega, r2, s8⟩, ⟨s4.1, by omega⟩, by omega, by rw [hcf]; exact hset, ⟨s3.1, h2⟩, fun i => ?_⟩
  have := H.2.2.2.2.2.2.1 (5 * s + i)
  omega
theorem ok.un (h : ok A A' s) {u : Nat} (hu : u ≠ s) : svE A A' u ∧ A' 1 u = A 1 u ∧ A' 15 u = A 15 u ∧ ∀ v : Nat, v < 5 → A' 17 (5 * u + v) = A 17 (5 * u + v) :=
  ⟨⟨fun k hk => h.1 k _ (by omega) (by omega) (by unfold own; omega), fun k k1 k2 i _ _ => h.1 k _ (by omega) (by omega) (by unfold own; omega), fun v _ => h.1 18 _ (by omega) (by omega) (by unfold own; omega)⟩, h.1 1 _ (by omega) (by omega) (by unfold own; omega), h.1 15 _ (by omega) (by omega) (by unfold own; omega), fun v _ => h.1 17 _ (by omega) (by omega) (by unfold own; omega)⟩
theorem Lo.step (H : Iv c0 B A g) (hL : Lo A) (hs : s < 5) (h : ok A A' s) (hw : md_ww A') (h2 : L2 A' s) : Lo A' := by
  obtain ⟨l1, l2, l3, l4⟩ := hL
  have e21 : A' 21 0 = A 21 0 := h.2.1 21 0 (by omega) (by omega)
  refine ⟨⟨hw, by rw [e21]; exact l1.2⟩, fun i i0 i1 => ?_, fun u hu => ?_, fun u hu => ?_⟩
  · rw [e21] at i1
    rw [h.2.1 23 i (by omega) (by omega)]
    exact l2 i i0 i1
  · rw [e21]
    have := kept_mono (fun x => h.2.1 22 x (by omega) (by omega)) h.2.2 u (A 21 0).toNat
    have := l3 u hu
    omega
  · by_cases hus : u = s
    · subst hus; exact h2
    · obtain ⟨e, e1, e15, e17⟩ := h.un hus
      obtain ⟨⟨s1, -⟩, s8⟩ := H.2.2.1 u hu
      have s1' := s1.cg (A' := A') (fun k hk => e.1 k (by omega)) (fun k k1 k2 i i0 i1 => e.2.1 k k1 k2 i i0 (by omega))
      have ecf : md_config A' u = md_config A u := by rw [s1'.config, s1.config]
      have ela : md_last A' u = md_last A u := by rw [s1'.last, s1.last]
      have q := l4 u hu
      unfold L2 md_most at q ⊢
      rw [e.1 13 (by omega), e.1 16 (by omega), e.1 8 (by omega), e1, e15, ecf, ela]
      refine ⟨q.1, q.2.1, q.2.2.1, q.2.2.2.1, q.2.2.2.2.1, fun z v hv => ?_⟩
      rw [e17 v hv, e.2.2 v hv]
      exact q.2.2.2.2.2 z v hv
theorem md_append_k {so ke va i : Int} {s : Int} {k : Nat} (h : k ≠ 27 ∧ k ≠ 28 ∧ k ≠ 29) (h2 : k ≠ 13 ∧ k ≠ 14 ∧ k ≠ 25) (h3 : k ≠ 8 ∧ k ≠ 9 ∧ k ≠ 10 ∧ k ≠ 11 ∧ k ≠ 12) : md_append A s so ke va k i = A k i := by
  unfold md_append
  rw [md_all_k h, md_look_k h2, md_push_k h3]
theorem md_append_ww {so ke va s : Int} (h : md_ww A) (hb : md_B A s) (h8 : A 8 s < 48) (hc : -1 ≤ A 14 s ∧ A 14 s ≤ 1000100) (hn : md_nx A s) (h1 : rng so) (h2 : rng ke) (h3 : rng va) : md_ww (md_append A s so ke va) := by
  have p4 : md_push A s (A 2 s) so ke va 4 s = A 4 s := md_push_k (by decide)
  have p8 : md_push A s (A 2 s) so ke va 8 s = A 8 s + 1 := md_us
  have p14 : md_push A s (A 2 s) so ke va 14 s = A 14 s := md_push_k (by decide)
  have w1 := md_push_ww (t := A 2 s) h (s := s) ⟨hb.2.2.2.2.1, h8⟩ (h.1 2 s) h1 h2 h3
  have w2 := md_look_ww (s := s) w1 ⟨hb.1, hb.2.1, by rw [p4]; exact hb.2.2.1, by rw [p4]; exact hb.2.2.2.1, by rw [p8]; omega, by rw [p8]; omega⟩ (by rw [p14]; exact hc)
  exact md_all_ww w2 ⟨hb.1, hb.2.1⟩ (fun i => by rw [md_look_k (by decide), md_push_k (by decide)]; exact hn i) 5 (by omega)
/-- a leader appends -/
theorem Iv.app (H : Iv c0 B A g) (hB : 0 ≤ B) (h27 : 0 ≤ A 27 0) (hs : s < 5) (h3 : A 13 s = 3) (h8 : A 8 s < 48) {so ke va : Int} (hx : ∀ v : Nat, v < 5 → A 17 (5 * s + v) ≤ md_last A s + 1)
    (hset : set5 (cfg c0 (gL g (A 2 s) ++ [(A 2 s, so, ke, va)])))
    (hM : so = 2 → adj (cfg c0 (gL g (A 2 s))) ke ∧ (∃ n j, gv g (A 2 s) n j) ∧ ∀ m1 : Nat, ge g (A 2 s) < m1 → m1 ≤ (gL g (A 2 s)).length → mb (gL g (A 2 s)) m1 → ∃ n j, m1 ≤ j ∧ gv g (A 2 s) n j) :
    ∃ g', Iv c0 (B + 1) (md_append A s so ke va) g' := by
  obtain ⟨g1, -, p1⟩ := H.push hB hs h3 h8 hset hM
  have p13 : md_push A s (A 2 s) so ke va 13 s = 3 := (md_push_k (by decide)).trans h3
  obtain ⟨g2, -, p2, l1, l2⟩ := p1.look hs p13
  have e2 : md_look (md_push A s (A 2 s) so ke va) s 2 s = md_push A s (A 2 s) so ke va 2 s := md_look_k (by decide)
  have e27 : md_look (md_push A s (A 2 s) so ke va) s 27 0 = A 27 0 := (md_look_k (by decide)).trans (md_push_k (by decide))
  have elast : md_last (md_look (md_push A s (A 2 s) so ke va) s) s = md_last A s + 1 := by
    unfold md_last
    rw [md_look_k (by decide), md_look_k (by decide), md_push_k (by decide), show md_push A s (A 2 s) so ke va 8 s = A 8 s + 1 from md_us]
    omega
  exact ⟨g2, (Iv.all (A := md_look (md_push A s (A 2 s) so ke va) s) (by omega) hs 5 (by omega) p2 (by rw [e27]; exact h27) (by rw [e2]; exact ⟨l1, l2⟩) (fun v hv => by
    rw [md_look_k (by decide), md_push_k (by decide), elast]
    have := hx v hv
    omega)).1⟩
theorem md_ld_v (A : md_A) (s : Int) : ∀ n : Nat, (∀ x, md_ld A s n 13 x = if x = s then 3 else A 13 x) ∧ (∀ x, md_ld A s n 20 x = if x = s then 0 else A 20 x) ∧ (∀ x, md_ld A s n 17 x = if 5 * s ≤ x ∧ x < 5 * s + n then md_last A s + 1 else A 17 x) ∧ ∀ x, md_ld A s n 18 x = if 5 * s ≤ x ∧ x < 5 * s + n then 0 else A 18 x
  | 0 => by
    unfold md_ld
    refine ⟨fun x => ?_, fun x => ?_, fun x => ?_, fun x => ?_⟩
    · rw [md_uk (by decide)]
      by_cases e : x = s
      · rw [e, md_us, if_pos rfl]
      · rw [md_ui e, if_neg e]
    · by_cases e : x = s
      · rw [e, md_us, if_pos rfl]
      · rw [md_ui e, if_neg e, md_uk (by decide)]
    · rw [md_uk (by decide), md_uk (by decide), if_neg (by omega)]
    · rw [md_uk (by decide), md_uk (by decide), if_neg (by omega)]
  | n + 1 => by
    obtain ⟨h1, h2, h3, h4⟩ := md_ld_v A s n
    unfold md_ld
    refine ⟨fun x => ?_, fun x => ?_, fun x => ?_, fun x => ?_⟩
    · rw [md_uk (by decide), md_uk (by decide), md_uk (by decide)]; exact h1 x
    · rw [md_uk (by decide), md_uk (by decide), md_uk (by decide)]; exact h2 x
    · rw [md_uk (by decide), md_uk (by decide)]
      by_cases e : x = 5 * s + n
      · rw [e, md_us, if_pos (by omega)]
      · rw [md_ui e, h3]
        by_cases c : 5 * s ≤ x ∧ x < 5 * s + n
        · rw [if_pos c, if_pos (by omega)]
        · rw [if_neg c, if_neg (by omega)]
    · rw [md_uk (by decide)]
      by_cases e : x = 5 * s + n
      · rw [e, md_us, if_pos (by omega)]
      · rw [md_ui e, md_uk (by decide), h4]
        by_cases c : 5 * s ≤ x ∧ x < 5 * s + n
        · rw [if_pos c, if_pos (by omega)]
        · rw [if_neg c, if_neg (by omega)]
/-- a candidate leads -/
theorem Iv.leads (H : Iv c0 B A g) (hB : 0 ≤ B) (h27 : 0 ≤ A 27 0) (hs : s < 5) (h2 : A 13 s = 2) (h8 : A 8 s < 48) (hm : md_most A s (A 16 s) = 1) : ∃ g', Iv c0 (B + 1) (md_lead A s) g' := by
  obtain ⟨⟨s1, s2, s3, s4, -⟩, s8⟩ := H.2.2.1 s hs
  obtain ⟨v1, v2, v3, v4⟩ := md_ld_v A s 5
  have hl := H.len s2 hB
  have hla := s1.last
  have hbd := H.2.2.2.2
  obtain ⟨g1, -, p1⟩ := H.elect hB hs h2 (most_maj s1 hm) (A' := md_ld A s 5) (fun k x a1 k17 k18 k20 a2 => by
      by_cases k13 : k = 13
      · subst k13; rw [v1, if_neg (fun e => a2 ⟨rfl, e⟩)]
      · by_cases k19 : k = 19
        · exact absurd (by unfold md_no; omega) a1
        · exact md_ld_k ⟨k13, k20, k17, k18, k19⟩ 5) (by rw [v1, if_pos rfl]) (fun v hv => by rw [v4, if_pos (by omega)]) (fun u hu hus v hv => by rw [v4, if_neg (by omega)]) ⟨fun x => by
        rw [v3]; have := hbd.2.2.1 x; have := s1.1; have := s1.2.1; split <;> omega, fun x => by rw [v4]; have := hbd.2.2.2.1 x; split <;> omega, fun x => by rw [v2]; have := hbd.2.2.2.2 x; split <;> omega⟩
  have e13 : md_ld A s 5 13 s = 3 := by rw [v1, if_pos rfl]
  have e8 : md_ld A s 5 8 s = A 8 s := md_ld_k (by decide) 5
  have e4 : md_ld A s 5 4 s = A 4 s := md_ld_k (by decide) 5
  have e27 : md_ld A s 5 27 0 = A 27 0 := md_ld_k (by decide) 5
  obtain ⟨b1, b2⟩ := p1.lead hs e13
  refine p1.app hB (by rw [e27]; exact h27) hs e13 (by rw [e8]; exact h8) (fun v hv => ?_) ?_ (fun z => absurd z (by decide))
  · rw [v3, if_pos (by omega)]
    unfold md_last
    rw [e4, e8]
    exact Int.le_refl _
  · rw [cfg_snoc, if_neg (show ¬ (0 : Int) = 2 by decide)]
    exact gl_set p1.1.1 p1.1.2.1 (p1.1.2.1 _ _ b1).2.2.2.2.2.1
theorem look_13 (A : md_A) (s : Int) : md_look A s 13 s = A 13 s ∨ md_look A s 13 s = 0 := by
  unfold md_look
  split
  · right
    rw [md_follow_13, if_pos rfl]
  · left
    exact md_uk (by decide)
theorem md_lead_k {i s : Int} {k : Nat} (h : k ≠ 27 ∧ k ≠ 28 ∧ k ≠ 29) (h2 : k ≠ 13 ∧ k ≠ 14 ∧ k ≠ 25) (h3 : k ≠ 8 ∧ k ≠ 9 ∧ k ≠ 10 ∧ k ≠ 11 ∧ k ≠ 12) (h4 : k ≠ 20 ∧ k ≠ 17 ∧ k ≠ 18 ∧ k ≠ 19) : md_lead A s k i = A k i := by
  unfold md_lead
  rw [md_append_k h h2 h3, md_ld_k ⟨h2.1, h4⟩ 5]
/-- the votes weighed -/
theorem Iv.weigh (H : Iv c0 B A g) (hB : 0 ≤ B ∧ B ≤ 90000) (hw : md_ww A) (hs : s < 5) (h16 : set5 (A 16 s)) (h13 : 0 ≤ A 13 s ∧ A 13 s ≤ 2) (h40 : A 13 s = 1 ∨ A 13 s = 2 → A 8 s < 40) (h01 : (A 1 s = 0 ∨ A 1 s = 1) ∧ (A 15 s = 0 ∨ A 15 s = 1)) :
    (∃ g', Iv c0 (B + 2) (md_weigh A s) g') ∧ md_ww (md_weigh A s) ∧ L2 (md_weigh A s) s ∧ ok A (md_weigh A s) s := by
  obtain ⟨hb, hcm, hlb, hcf, h2, hnx⟩ := H.B1 hB.1 (by omega) hs
  have H1 := H.le (B' := B + 1) (by omega)
  -- stand
  have hst : (∃ g', Iv c0 (B + 1) (md_stand A s) g') ∧ (0 ≤ md_stand A s 13 s ∧ md_stand A s 13 s ≤ 2) ∧ (md_stand A s 13 s = 1 → md_most (md_stand A s) s (md_stand A s 16 s) = 0) ∧ (md_stand A s 13 s = 1 ∨ md_stand A s 13 s = 2 → A 8 s < 40) ∧ set5 (md_stand A s 16 s) := by
    unfold md_stand
    by_cases c : A 13 s = 1 ∧ md_most A s (A 16 s) = 1
    · rw [if_pos c]
      have k13 : md_ask (md_cand A s) s 2 (A 2 s + 1) 5 13 s = 2 := by
        rw [md_ask_k (by decide)]
        unfold md_cand
        rw [md_uk (by decide), md_uk (by decide), md_uk (by decide), md_us]
      have k16 : md_ask (md_cand A s) s 2 (A 2 s + 1) 5 16 s = one s := by
        rw [md_ask_k (by decide)]
        exact md_us
      have c2 : md_cand A s 2 s = A 2 s + 1 := by
        unfold md_cand
        rw [md_uk (by decide), md_uk (by decide), md_us]
      obtain ⟨g1, -, p1, p2⟩ := H1.cand hs (A' := md_cand A s) (fun k x a1 a2 => by
        unfold md_cand
        rw [md_un (by omega), md_un (by omega), md_un (by omega), md_un (by omega)]) c2 (by rw [c2]; omega) (by
        unfold md_cand
        rw [md_uk (by decide), md_us]) (by
        unfold md_cand
        rw [md_uk (by decide), md_uk (by decide), md_uk (by decide), md_us]) md_us
      have wc := md_cand_ww (s := s) hw ⟨hb.1, hb.2.1⟩ (by omega)
      have lgc : md_lg A (md_cand A s) := md_cand_lg A s
      have := Iv.ask (A := md_cand A s) (g := g1) (kind := 2) (t := A 2 s + 1) hs (by omega : (0 : Int) ≤ B + 1) (Or.inr rfl) (by omega) (fun _ => by omega) 5 (by omega) p1 wc (lgc.B hb) (fun _ => by rw [← c2]; exact p2)
      rw [k13, k16]
      exact ⟨⟨g1, this.1⟩, by omega, fun z => by omega, fun _ => h40 (Or.inl c.1), set5_one (by omega) (by omega)⟩
    · rw [if_neg c]
      refine ⟨⟨g, H1⟩, h13, fun z => ?_, h40, h16⟩
      have hm01 : md_most A s (A 16 s) = 0 ∨ md_most A s (A 16 s) = 1 := by unfold md_most; split; exact Or.inr rfl; exact Or.inl rfl
      rcases hm01 with h | h
      · exact h
      · exact absurd ⟨z, h⟩ c
  obtain ⟨⟨g1, q1⟩, q2, q3, q4, q5⟩ := hst
  have ws := md_stand_ww (s := s) hw hb (by omega)
  have lg : md_lg A (md_stand A s) := fun k k1 k2 => md_stand_lg A s k k1 k2
  have e8 : md_stand A s 8 s = A 8 s := md_stand_k (by decide) (by decide)
  have e1 : md_stand A s 1 s = A 1 s := md_stand_k (by decide) (by decide)
  have e15 : md_stand A s 15 s = A 15 s := md_stand_k (by decide) (by decide)
  have e14 : md_stand A s 14 s = A 14 s := md_stand_k (by decide) (by decide)
  have e17 : ∀ x, md_stand A s 17 x = A 17 x := fun x => md_stand_k (by decide) (by decide)
  unfold md_weigh
  by_cases c : md_stand A s 13 s = 2 ∧ md_most (md_stand A s) s (md_stand A s 16 s) = 1
  · rw [if_pos c]
    have h8 := q4 (Or.inr c.1)
    have hB8 : md_B (md_stand A s) s := lg.B hb
    have hld8 : md_ld (md_stand A s) s 5 8 s = A 8 s := (md_ld_k (by decide) 5).trans e8
    have hww : md_ww (md_lead (md_stand A s) s) := by
      have wl := md_ld_ww (s := s) ws hB8 5
      have lgl := md_ld_lg (md_stand A s) s 5
      refine md_append_ww wl (lgl.B hB8) (by rw [hld8]; omega) (by rw [md_ld_k (by decide) 5, e14]; have := hb.2.2.1; have := hcm; omega) (fun i => ?_) (by omega) (by omega) (by omega)
      rw [(md_ld_v (md_stand A s) s 5).2.2.1]
      have hl2 : md_last (md_stand A s) s = md_last A s := congrFun lg.last s
      have := hnx i
      rw [e17, hl2]
      split <;> omega
    refine ⟨?_, hww, ?_, ((ok_stand A s).tr (ok_ld _ s 5 (by omega))).tr (ok_append _ (by rw [hld8]; have := hb; omega) _ _ _)⟩
    · have := q1.leads (by omega) ws.2.1 hs c.1 (by rw [e8]; omega) c.2
      rw [show B + 1 + 1 = B + 2 by omega] at this
      exact this
    · have r13 : md_lead (md_stand A s) s 13 s = 3 ∨ md_lead (md_stand A s) s 13 s = 0 := by
        unfold md_lead md_append
        rw [md_all_k (by decide)]
        rcases look_13 (md_push (md_ld (md_stand A s) s 5) s (md_ld (md_stand A s) s 5 2 s) 0 0 0) s with h | h
        · left
          rw [h, md_push_k (by decide), (md_ld_v (md_stand A s) s 5).1, if_pos rfl]
        · exact Or.inr h
      have k := fun (k : Nat) (i : Int) (h1 : k = 1 ∨ k = 15 ∨ k = 16 ∨ k = 4) => md_lead_k (A := md_stand A s) (s := s) (k := k) (i := i) (by omega) (by omega) (by omega) (by omega)
      refine ⟨by omega, by rw [k 16 _ (by omega)]; exact q5, fun z => by omega, by rw [k 1 _ (by omega), e1]; exact h01.1, by rw [k 15 _ (by omega), e15]; exact h01.2, fun _ v hv => ?_⟩
      have l8 : md_lead (md_stand A s) s 8 s = A 8 s + 1 := by
        unfold md_lead md_append
        rw [md_all_k (by decide), md_look_k (by decide), show ∀ (X : md_A) (t so ke va : Int), md_push X s t so ke va 8 s = X 8 s + 1 from fun _ _ _ _ _ => md_us, hld8]
      have l17 : md_lead (md_stand A s) s 17 (5 * s + v) = md_last A s + 1 := by
        unfold md_lead
        rw [md_append_k (by decide) (by decide) (by decide), (md_ld_v (md_stand A s) s 5).2.2.1, if_pos (by omega)]
        rw [congrFun lg.last s]
      have l18 : md_lead (md_stand A s) s 18 (5 * s + v) = 0 := by
        unfold md_lead
        rw [md_append_k (by decide) (by decide) (by decide), (md_ld_v (md_stand A s) s 5).2.2.2, if_pos (by omega)]
      rw [l17, l18]
      have hb4 := hb.2.2
      unfold md_last
      rw [l8, k 4 _ (by omega), lg 4 (by decide) (by decide)]
      omega
  · rw [if_neg c]
    refine ⟨⟨g1, q1.le (by omega)⟩, ws, ⟨⟨q2.1, by omega⟩, q5, fun z => ⟨by rw [e8]; exact q4 z, ?_⟩, by rw [e1]; exact h01.1, by rw [e15]; exact h01.2, fun z => by omega⟩, ok_stand A s⟩
    rcases z with z | z
    · exact q3 z
    · have hm01 : md_most (md_stand A s) s (md_stand A s 16 s) = 0 ∨ md_most (md_stand A s) s (md_stand A s 16 s) = 1 := by unfold md_most; split; exact Or.inr rfl; exact Or.inl rfl
      rcases hm01 with h | h
      · exact h
      · exact absurd ⟨z, h⟩ c
end SF12
