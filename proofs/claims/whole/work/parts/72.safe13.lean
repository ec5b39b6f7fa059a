/-! safety: the calls but deliver -/
def Inv (c0 B : Int) (A : md_A) : Prop := (∃ g, Iv c0 B A g) ∧ Lo A
section SF13
variable {c0 : Int} {g g' : Gh} {A A' : md_A} {B : Int} {s : Nat} {l : List En}
theorem Inv.S (h : Inv c0 B A) (hB : 0 ≤ B ∧ B ≤ 90000) : md_S A := by
  obtain ⟨⟨g, H⟩, hL⟩ := h
  refine ⟨hL.1, fun s hs => ?_⟩
  obtain ⟨hb, hcm, hlb, hcf, h2, hnx⟩ := H.B1 hB.1 (by omega) hs
  obtain ⟨q1, q2, q3, q4, q5, q6⟩ := hL.2.2.2 s hs
  exact ⟨⟨hb, hcf, hcm, ⟨h2.1, by omega⟩, q2⟩, hnx, q4, q5⟩
/-- the fields up to 20 are the same -/
theorem L2.same (h : L2 A s) (e : ∀ k, k ≤ 20 → k ≠ 0 → A' k = A k) : L2 A' s := by
  have lg : md_lg A A' := fun k k1 k2 => e k (by omega) (by omega)
  unfold L2 md_most at h ⊢
  rw [lg.config, e 13 (by omega) (by omega), e 16 (by omega) (by omega), e 8 (by omega) (by omega), e 1 (by omega) (by omega), e 15 (by omega) (by omega), e 17 (by omega) (by omega), e 18 (by omega) (by omega), lg.last]
  exact h
theorem Inv.c (h : Inv c0 B A) (v : Int) (hv : rng v) : Inv c0 B (md_u A 0 0 v) := by
  obtain ⟨⟨g, H⟩, hL⟩ := h
  have e : ∀ k, k ≠ 0 → md_u A 0 0 v k = A k := fun k hk => by funext x; exact md_uk hk
  refine ⟨⟨g, H.f (fun k hk => e k (fun z => hk (by unfold md_no; omega)))⟩, ⟨hL.1.1.u (by decide) hv, by rw [e 21 (by decide)]; exact hL.1.2⟩, ?_, fun s hs => ?_, fun s hs => (hL.2.2.2 s hs).same (fun k _ h0 => e k h0)⟩
  · intro i i0 i1
    rw [e 21 (by decide)] at i1
    rw [e 23 (by decide)]
    exact hL.2.1 i i0 i1
  · have := hL.2.2.1 s hs
    rw [e 21 (by decide)]
    exact Int.le_trans (kept_mono (fun x => by rw [e 22 (by decide)]) (fun x => Or.inl (by rw [e 25 (by decide)])) s _) this
theorem Inv.le (h : Inv c0 B A) {B' : Int} (hb : B ≤ B') : Inv c0 B' A := ⟨h.1.imp fun g H => H.le hb, h.2⟩
theorem Inv.timer (h : Inv c0 B A) (hB : 0 ≤ B ∧ B ≤ 80000) {x : Int} (hc : md_timerC A x) : Inv c0 (B + 2) (md_timer A x) := by
  obtain ⟨⟨g, H⟩, hL⟩ := h
  obtain ⟨h5, h1, h3, hm, h8⟩ := hc
  obtain ⟨s, hs, rfl⟩ := k5_ex h5.1 h5.2
  obtain ⟨hb, hcm, hlb, hcf, h2, hnx⟩ := H.B1 hB.1 (by omega) hs
  obtain ⟨q1, q2, q3, q4, q5, q6⟩ := hL.2.2.2 s hs
  have hw := hL.1.1
  -- tick
  have t1 : Iv c0 B (md_u A 15 s 0) g := H.f (fun k hk => by funext x; exact md_uk (fun z => hk (by unfold md_no; omega)))
  have t2 : Iv c0 B (md_u (md_u A 15 s 0) 13 s 1) g := t1.fol hs (fun k x a1 a2 => md_un (by omega)) (by rw [md_uk (by decide)]; exact Int.le_refl _) (by rw [md_uk (by decide), md_uk (by decide)]; exact h2.2) (fun _ => md_uk (by decide)) (by rw [md_us]; decide)
  have t3 : Iv c0 B (md_tick A s) g := t2.yes hs (A' := md_tick A s) (fun k x a1 a2 => md_un (by omega)) (fun z => by rw [md_us] at z; exact absurd z (by decide))
  have wt := md_tick_ww (s := s) hw ⟨hb.1, hb.2.1⟩
  have lgt : md_lg A (md_tick A s) := fun k k1 k2 => by funext x; exact md_tick_k (by omega)
  have t4 := Iv.ask (A := md_tick A s) (g := g) (kind := 0) (t := A 2 s + 1) hs hB.1 (Or.inl rfl) (by omega) (fun z => by omega) 5 (by omega) t3 wt (lgt.B hb) (fun z => by omega)
  have w4 := md_ask_ww (A := md_tick A s) (s := s) (kind := 0) (t := A 2 s + 1) (lgt.B hb) wt (by omega) (by omega) 5 (by omega)
  have e : ∀ (k : Nat) (x : Int), k ≠ 27 → k ≠ 28 → k ≠ 29 → md_ask (md_tick A s) s 0 (A 2 s + 1) 5 k x = md_tick A s k x := fun k x a b c => md_ask_k ⟨a, b, c⟩ 5
  have e13 : md_ask (md_tick A s) s 0 (A 2 s + 1) 5 13 s = 1 := by
    rw [e 13 _ (by decide) (by decide) (by decide)]
    unfold md_tick
    rw [md_uk (by decide), md_us]
  have e16 : md_ask (md_tick A s) s 0 (A 2 s + 1) 5 16 s = one s := by
    rw [e 16 _ (by decide) (by decide) (by decide)]
    exact md_us
  have e15 : md_ask (md_tick A s) s 0 (A 2 s + 1) 5 15 s = 0 := by
    rw [e 15 _ (by decide) (by decide) (by decide)]
    unfold md_tick
    rw [md_uk (by decide), md_uk (by decide), md_us]
  have ek : ∀ k : Nat, k = 1 ∨ k = 8 → md_ask (md_tick A s) s 0 (A 2 s + 1) 5 k s = A k s := fun k hk => by
    rw [e k _ (by omega) (by omega) (by omega)]
    exact md_tick_k (by omega)
  obtain ⟨r1, r2, r3, r4⟩ := t4.1.weigh ⟨hB.1, by omega⟩ w4 hs (by rw [e16]; exact set5_one (by omega) (by omega)) (by rw [e13]; omega) (fun _ => by rw [ek 8 (by omega)]; exact h8) ⟨by rw [ek 1 (by omega)]; exact q4, Or.inl e15⟩
  have okt : ok A (md_tick A s) s := ((ok_u (by omega) (Or.inr (by unfold own; omega))).tr (ok_u (by omega) (Or.inr (by unfold own; omega)))).tr (ok_u (by omega) (Or.inr (by unfold own; omega)))
  exact ⟨r1, Lo.step H hL hs ((okt.tr (ok_ask _ _ _ _ _ _)).tr r4) r2 r3⟩
theorem Inv.beat (h : Inv c0 B A) (hB : 0 ≤ B ∧ B ≤ 80000) {x : Int} (hc : md_beatC A x) : Inv c0 B (md_all A x 5) := by
  obtain ⟨⟨g, H⟩, hL⟩ := h
  obtain ⟨h5, hl⟩ := hc
  obtain ⟨s, hs, rfl⟩ := k5_ex h5.1 h5.2
  obtain ⟨hb, hcm, hlb, hcf, h2, hnx⟩ := H.B1 hB.1 (by omega) hs
  obtain ⟨q1, q2, q3, q4, q5, q6⟩ := hL.2.2.2 s hs
  have h3 : A 13 s = 3 := by unfold md_leads at hl; split at hl; rename_i hh; exact hh.2; exact absurd hl (by decide)
  have := Iv.all (A := A) (g := g) hB.1 hs 5 (by omega) H hL.1.1.2.1 (H.lead hs h3) (fun v hv => (q6 h3 v hv).1)
  exact ⟨⟨g, this.1⟩, Lo.step H hL hs (ok_all A s s 5) (md_all_ww hL.1.1 ⟨hb.1, hb.2.1⟩ hnx 5 (by omega)) ((hL.2.2.2 s hs).same (fun k k1 k2 => by funext x; exact md_all_k (by omega) 5))⟩
/-- behind an append of a leader -/
theorem L2.app (hL : L2 A s) (h3 : A 13 s = 3) {so ke va : Int} : L2 (md_append A s so ke va) s := by
  obtain ⟨q1, q2, q3, q4, q5, q6⟩ := hL
  have r13 : md_append A s so ke va 13 s = 3 ∨ md_append A s so ke va 13 s = 0 := by
    unfold md_append
    rw [md_all_k (by decide)]
    rcases look_13 (md_push A s (A 2 s) so ke va) s with h | h
    · left; rw [h, md_push_k (by decide)]; exact h3
    · exact Or.inr h
  have k : ∀ (k : Nat) (i : Int), k = 1 ∨ k = 4 ∨ k = 15 ∨ k = 16 ∨ k = 17 ∨ k = 18 → md_append A s so ke va k i = A k i := fun k i hk => md_append_k (by omega) (by omega) (by omega)
  have l8 : md_append A s so ke va 8 s = A 8 s + 1 := by
    unfold md_append
    rw [md_all_k (by decide), md_look_k (by decide)]
    exact md_us
  have hl : md_last (md_append A s so ke va) s = md_last A s + 1 := by
    unfold md_last
    rw [l8, k 4 _ (by omega)]
    omega
  refine ⟨by omega, by rw [k 16 _ (by omega)]; exact q2, fun z => by omega, by rw [k 1 _ (by omega)]; exact q4, by rw [k 15 _ (by omega)]; exact q5, fun _ v hv => ?_⟩
  rw [k 17 _ (by omega), k 18 _ (by omega), hl]
  have := q6 h3 v hv
  omega
theorem Inv.put (h : Inv c0 B A) (hB : 0 ≤ B ∧ B ≤ 80000) {x key val : Int} (hk : rng key) (hva : rng val) (hc : md_putE A x key = 0) : Inv c0 (B + 1) (md_append A x 1 key val) := by
  obtain ⟨⟨g, H⟩, hL⟩ := h
  unfold md_putE at hc
  by_cases c1 : ¬ ((0 ≤ x ∧ x < 5) ∧ 0 ≤ key ∧ key < 4)
  · rw [if_pos c1] at hc; exact absurd hc (by decide)
  rw [if_neg c1] at hc
  by_cases c2 : md_leads A x = 0
  · rw [if_pos c2] at hc; exact absurd hc (by decide)
  rw [if_neg c2] at hc
  by_cases c3 : 24 ≤ A 8 x
  · rw [if_pos c3] at hc; exact absurd hc (by decide)
  have h5 := (Decidable.not_not.mp c1).1
  obtain ⟨s, hs, rfl⟩ := k5_ex h5.1 h5.2
  obtain ⟨hb, hcm, hlb, hcf, h2, hnx⟩ := H.B1 hB.1 (by omega) hs
  have q := hL.2.2.2 s hs
  have h3 : A 13 s = 3 := by unfold md_leads at c2; split at c2; rename_i hh; exact hh.2; exact absurd rfl c2
  obtain ⟨b1, b2⟩ := H.lead hs h3
  have h27 := hL.1.1.2.1
  obtain ⟨g', p⟩ := H.app hB.1 h27 hs h3 (by omega) (so := 1) (ke := key) (va := val) (fun v hv => (q.2.2.2.2.2 h3 v hv).1) (by
    rw [cfg_snoc, if_neg (show ¬ (1 : Int) = 2 by decide)]
    exact gl_set H.1.1 H.1.2.1 (H.1.2.1 _ _ b1).2.2.2.2.2.1) (fun z => absurd z (by decide))
  exact ⟨⟨g', p⟩, Lo.step H hL hs (ok_append A (by omega) 1 key val) (md_append_ww hL.1.1 hb (by omega) (by omega) hnx (by omega) hk hva) (q.app h3)⟩
theorem chg_bit : ∀ m : Nat, m < 32 → ∀ k : Nat, k < 5 → ∀ v : Nat, v < 5 → v ≠ k → bit (m : Int) v = bit (ix (m : Int) (one (k : Int))) v := by decide +kernel
theorem Inv.change (h : Inv c0 B A) (hB : 0 ≤ B ∧ B ≤ 80000) {x on j : Int} (hc : md_changeE A x on j = 0) : Inv c0 (B + 1) (md_append A x 2 (ix (md_config A x) (one on)) 0) := by
  obtain ⟨⟨g, H⟩, hL⟩ := h
  unfold md_changeE at hc
  by_cases c1 : ¬ ((0 ≤ x ∧ x < 5) ∧ 0 ≤ on ∧ on < 5)
  · rw [if_pos c1] at hc; exact absurd hc (by decide)
  rw [if_neg c1] at hc
  by_cases c4 : bit (md_config A x) on = j ∨ (j = 0 ∧ md_config A x = one on)
  · rw [if_pos c4] at hc; exact absurd hc (by decide)
  rw [if_neg c4] at hc
  by_cases c2 : md_leads A x = 0
  · rw [if_pos c2] at hc; exact absurd hc (by decide)
  rw [if_neg c2] at hc
  by_cases c3 : 24 ≤ A 8 x ∨ A 14 x < md_lm A x (A 8 x).toNat ∨ md_old A x = 1
  · rw [if_pos c3] at hc; exact absurd hc (by decide)
  have h5 := (Decidable.not_not.mp c1).1
  have h4 := (Decidable.not_not.mp c1).2
  obtain ⟨s, hs, rfl⟩ := k5_ex h5.1 h5.2
  obtain ⟨o1, ho1, rfl⟩ := k5_ex h4.1 h4.2
  obtain ⟨hb, hcm, hlb, hcf, h2, hnx⟩ := H.B1 hB.1 (by omega) hs
  have q := hL.2.2.2 s hs
  have h3 : A 13 s = 3 := by unfold md_leads at c2; split at c2; rename_i hh; exact hh.2; exact absurd rfl c2
  obtain ⟨⟨s1, s2, s3, s4, s5, s6, s7, s9, s10, -⟩, s8⟩ := H.2.2.1 s hs
  obtain ⟨b1, b2, b3, b4, b5⟩ := s10 h3
  have h27 := hL.1.1.2.1
  have hR := s1
  rw [b2] at hR
  have hcfg := hR.config
  have hxo := set5_xor hcf (set5_one h4.1 h4.2)
  have hold : md_termAt A s (A 14 s) = A 2 s := by
    have : md_old A s = 0 := (md_old_01 A s).resolve_right (fun z => c3 (Or.inr (Or.inr z)))
    unfold md_old at this
    split at this
    · assumption
    · exact absurd this (by decide)
  have hr1 := hR.1
  have hlL := hR.2.2.1
  rw [hR.term (by omega) hcm.1 (by rw [← hR.last]; exact hcm.2)] at hold
  obtain ⟨w1, w2, w3, w4, w5, w6, w7⟩ := H.1.2.1 _ _ b1
  have hT1 : 1 ≤ (A 14 s).toNat := by
    apply Nat.pos_of_ne_zero
    intro z
    rw [z, tm_0] at hold
    omega
  have hnle : ¬ A 14 s ≤ ge g (A 2 s) := fun z => by
    have := w5 (A 14 s).toNat hT1 (by omega)
    omega
  obtain ⟨n0, ev0⟩ := b3.resolve_left hnle
  obtain ⟨mm, hmm, emm⟩ := set5_ex hcf
  have hmb : ∀ m1 : Nat, m1 ≤ (gL g (A 2 s)).length → mb (gL g (A 2 s)) m1 → m1 ≤ (A 14 s).toNat := fun m1 m3 m4 => by
    by_cases hm4 : A 4 s < m1
    · have := hR.lm (A 8 s).toNat (by omega) m1 hm4 (by omega) m4
      omega
    · omega
  obtain ⟨g', p⟩ := H.app hB.1 h27 hs h3 (by omega) (so := 2) (ke := ix (md_config A s) (one o1)) (va := 0) (fun v hv => (q.2.2.2.2.2 h3 v hv).1) (by
    rw [cfg_snoc, if_pos rfl]
    exact hxo) (fun _ => ⟨⟨o1, ho1, fun v hv hn => by
      rw [← hcfg, emm]
      exact chg_bit mm hmm o1 ho1 v hv hn⟩, ⟨n0, _, ev0⟩, fun m1 m2 m3 m4 => ⟨n0, _, hmb m1 m3 m4, ev0⟩⟩)
  exact ⟨⟨g', p⟩, Lo.step H hL hs (ok_append A (by omega) _ _ _) (md_append_ww hL.1.1 hb (by omega) (by omega) hnx (by omega) (by omega) (by omega)) (q.app h3)⟩
theorem md_mem_r {A : md_A} (hA : md_r A) (s : Int) (n : Nat) : rng (md_mem A s n) := by
  unfold md_mem
  split
  · exact hA _ _
  · exact hA _ _
theorem Inv.comp (h : Inv c0 B A) (hB : 0 ≤ B ∧ B ≤ 80000) {x : Int} (hc : md_compC A x) : Inv c0 B (md_compact A x) := by
  obtain ⟨⟨g, H⟩, hL⟩ := h
  obtain ⟨s, hs, rfl⟩ := k5_ex hc.1.1 hc.1.2
  obtain ⟨hb, hcm, hlb, hcf, h2, hnx⟩ := H.B1 hB.1 (by omega) hs
  have H' := H.comp hs
  obtain ⟨q1, q2, q3, q4, q5, q6⟩ := hL.2.2.2 s hs
  have hw := hL.1.1
  have R1 := (H.2.2.1 s hs).1.1
  have R2 := (H'.2.2.1 s hs).1.1
  have ecf : md_config (md_compact A s) s = md_config A s := by rw [R1.config, R2.config]
  have ela : md_last (md_compact A s) s = md_last A s := by rw [R1.last, R2.last]
  have cv : ∀ (k : Nat) (x : Int), k ≠ 7 → md_cvals A s k x = A k x := fun k x hk => md_wn (fun z => hk z.1)
  have e : ∀ (k : Nat) (x : Int), k ≠ 7 → ¬ ((4 ≤ k ∧ k ≤ 6 ∨ k = 8) ∧ x = s) → ¬ (9 ≤ k ∧ k ≤ 12 ∧ 48 * (s : Int) ≤ x ∧ x < 48 * s + 48) → md_compact A s k x = A k x := fun k x h7 h1 h2 => by
    unfold md_compact
    rw [md_un (by omega), md_un (by omega), md_un (by omega), md_shift_o (A := md_cvals A s) (by rw [cv 8 _ (by decide)]; exact hb.2.2.2.2.2) (by rw [cv 4 _ (by decide)]; exact hcm.1) k x (by omega) h2, cv k x h7]
  have u8 : md_compact A s 8 s = A 8 s - (A 14 s - A 4 s) := by
    unfold md_compact
    rw [md_uk (by decide), md_uk (by decide), md_uk (by decide), md_shift_8, cv 8 _ (by decide), cv 4 _ (by decide)]
  have hok : ok A (md_compact A s) s := by
    refine ⟨fun k x k1 k0 ho => ?_, fun k x k1 k2 => e k x (by omega) (by omega) (by omega), fun x => Or.inl (e 25 x (by decide) (by omega) (by omega))⟩
    by_cases k7 : k = 7
    · subst k7
      unfold md_compact
      rw [md_uk (by decide), md_uk (by decide), md_uk (by decide), md_shift_k (by omega)]
      exact md_wn (fun z => ho (by unfold own; omega))
    · exact e k x k7 (fun z => ho (by unfold own; omega)) (fun z => ho (by unfold own; omega))
  have hww : md_ww (md_compact A s) := by
    refine ⟨fun k x => ?_, by rw [e 27 0 (by decide) (by omega) (by omega)]; exact hw.2⟩
    unfold md_compact
    have hcv : md_r (md_cvals A s) := fun k x => by
      unfold md_cvals md_w
      split
      · exact md_val_r hw.1 _ _ _
      · exact hw.1 k x
    have hsh : md_r (md_shift (md_cvals A s) s (A 14 s)) := by
      unfold md_shift
      refine md_r_u (fun k x => ?_) (by rw [cv 8 _ (by decide), cv 4 _ (by decide)]; omega)
      unfold md_sh
      split
      · exact hcv _ _
      · exact hcv _ _
    exact md_r_u (md_r_u (md_r_u hsh (hw.1 14 s)) (md_termAt_r hw.1 s (A 14 s))) (md_mem_r hw.1 s _) k x
  refine ⟨⟨g, H'⟩, Lo.step H hL hs hok hww ?_⟩
  unfold md_most at q3
  unfold L2 md_most
  rw [ecf, ela, u8, e 13 _ (by decide) (by omega) (by omega), e 16 _ (by decide) (by omega) (by omega), e 1 _ (by decide) (by omega) (by omega), e 15 _ (by decide) (by omega) (by omega)]
  refine ⟨q1, q2, fun z => ⟨by have := (q3 z).1; omega, (q3 z).2⟩, q4, q5, fun z v hv => ?_⟩
  rw [e 17 _ (by decide) (by omega) (by omega), e 18 _ (by decide) (by omega) (by omega)]
  exact q6 z v hv
theorem Iv.follow (H : Iv c0 B A g) (hs : s < 5) : Iv c0 B (md_follow A s) g := by
  refine H.fol hs (fun k x a1 a2 => ?_) ?_ ?_ (fun _ => ?_) ?_
  · by_cases hk : k = 25
    · exact absurd (by unfold md_no; omega) a1
    · by_cases h13 : k = 13
      · subst h13
        rw [md_follow_13, if_neg (fun e => a2 ⟨by omega, e⟩)]
      · exact md_follow_k ⟨h13, hk⟩
  · rw [md_follow_k (by decide)]; exact Int.le_refl _
  · rw [md_follow_k (by decide)]; exact H.2.2.2.2.1 s hs
  · exact md_follow_k (by decide)
  · rw [md_follow_13, if_pos rfl]; decide
theorem Inv.crash (h : Inv c0 B A) (hB : 0 ≤ B ∧ B ≤ 80000) {x : Int} (hc : (0 ≤ x ∧ x < 5) ∧ A 1 x = 0) : Inv c0 B (md_crash A x) := by
  obtain ⟨⟨g, H⟩, hL⟩ := h
  obtain ⟨s, hs, rfl⟩ := k5_ex hc.1.1 hc.1.2
  obtain ⟨hb, hcm, hlb, hcf, h2, hnx⟩ := H.B1 hB.1 (by omega) hs
  obtain ⟨q1, q2, q3, q4, q5, q6⟩ := hL.2.2.2 s hs
  have hw := hL.1.1
  have t1 : Iv c0 B (md_u A 1 s 1) g := H.f (fun k hk => by funext x; exact md_uk (fun z => hk (by unfold md_no; omega)))
  have t2 := t1.follow hs
  have f13 : md_follow (md_u A 1 s 1) s 13 s = 0 := by rw [md_follow_13, if_pos rfl]
  have e4 : md_follow (md_u A 1 s 1) s 4 s = A 4 s := (md_follow_k (by decide)).trans (md_uk (by decide))
  have e8 : md_follow (md_u A 1 s 1) s 8 s = A 8 s := (md_follow_k (by decide)).trans (md_uk (by decide))
  have e14 : md_follow (md_u A 1 s 1) s 14 s = A 14 s := (md_follow_k (by decide)).trans (md_uk (by decide))
  have R := (t2.2.2.1 s hs).1.1
  have t3 : Iv c0 B (md_u (md_follow (md_u A 1 s 1) s) 14 s (A 4 s)) g := t2.base hs (fun k x a1 a2 a3 => md_un (by omega)) (by rw [md_uk (by decide), e8]; exact hb.2.2.2.2.2) (R.cg (fun k hk => md_uk (by omega)) (fun k k1 k2 i _ _ => md_uk (by omega))) ⟨by rw [md_uk (by decide), md_us, e4]; exact Int.le_refl _, by rw [md_us, e14]; exact hcm.1⟩ (Or.inr (by rw [f13]; decide))
  have t4 : Iv c0 B (md_crash A s) g := t3.f (fun k hk => by funext x; exact md_uk (fun z => hk (by unfold md_no; omega)))
  refine ⟨⟨g, t4⟩, Lo.step H hL hs ((((ok_u (by omega) (Or.inr (by unfold own; omega))).tr (ok_follow _ s)).tr (ok_u (by omega) (Or.inr (by unfold own; omega)))).tr (ok_u (by omega) (Or.inr (by unfold own; omega)))) (((md_follow_ww (hw.u (by decide) (by omega))).u (by decide) (hw.1 4 s)).u (by decide) (by omega)) ?_⟩
  have k : ∀ (k : Nat), k ≠ 13 → k ≠ 14 → k ≠ 15 → k ≠ 25 → k ≠ 1 → ∀ i, md_crash A s k i = A k i := fun k a b c d e i => by
    unfold md_crash
    rw [md_uk c, md_uk b, md_follow_k ⟨a, d⟩, md_uk e]
  have c13 : md_crash A s 13 s = 0 := by
    unfold md_crash
    rw [md_uk (by decide), md_uk (by decide), f13]
  have c1 : md_crash A s 1 s = 1 := by
    unfold md_crash
    rw [md_uk (by decide), md_uk (by decide), md_follow_k (by decide), md_us]
  exact ⟨by omega, by rw [k 16 (by decide) (by decide) (by decide) (by decide) (by decide)]; exact q2, fun z => by omega, Or.inr c1, Or.inl md_us, fun z => by omega⟩
theorem Inv.restart (h : Inv c0 B A) {x : Int} (hc : (0 ≤ x ∧ x < 5) ∧ ¬ A 1 x = 0) : Inv c0 B (md_u A 1 x 0) := by
  obtain ⟨⟨g, H⟩, hL⟩ := h
  obtain ⟨s, hs, rfl⟩ := k5_ex hc.1.1 hc.1.2
  obtain ⟨q1, q2, q3, q4, q5, q6⟩ := hL.2.2.2 s hs
  have lg : md_lg A (md_u A 1 s 0) := (md_lg.rf A).u (by omega)
  refine ⟨⟨g, H.f (fun k hk => by funext x; exact md_uk (fun z => hk (by unfold md_no; omega)))⟩, Lo.step H hL hs (ok_u (by omega) (Or.inr (by unfold own; omega))) (hL.1.1.u (by decide) (by omega)) ?_⟩
  unfold md_most at q3
  unfold L2 md_most
  rw [lg.config, lg.last, md_uk (k := 1) (j := 13) (by decide), md_uk (k := 1) (j := 16) (by decide), md_uk (k := 1) (j := 8) (by decide), md_us, md_uk (k := 1) (j := 15) (by decide)]
  refine ⟨q1, q2, q3, Or.inl rfl, q5, fun z v hv => ?_⟩
  rw [md_uk (by decide), md_uk (by decide)]
  exact q6 z v hv
end SF13
