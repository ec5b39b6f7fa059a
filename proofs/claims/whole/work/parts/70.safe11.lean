/-! safety: what each of the reference's steps leaves alone; looking at the commit, sending, weighing -/
/-- place x of field k is s's -/
def own (s : Int) (k : Nat) (x : Int) : Prop := ((k ≤ 6 ∨ k = 8 ∨ (13 ≤ k ∧ k ≤ 16) ∨ k = 20) ∧ x = s) ∨ (k = 7 ∧ 4 * s ≤ x ∧ x < 4 * s + 4) ∨ ((9 ≤ k ∧ k ≤ 12) ∧ 48 * s ≤ x ∧ x < 48 * s + 48) ∨ ((17 ≤ k ∧ k ≤ 19) ∧ 5 * s ≤ x ∧ x < 5 * s + 5)
/-- only s's places, messages and reads are new; reads stay, or are done -/
def ok (A A' : md_A) (s : Int) : Prop := (∀ (k : Nat) (x : Int), k ≤ 20 → k ≠ 0 → ¬ own s k x → A' k x = A k x) ∧ (∀ (k : Nat) (x : Int), 21 ≤ k → k ≤ 24 → A' k x = A k x) ∧ ∀ x, A' 25 x = A 25 x ∨ A' 25 x ≠ 0
theorem ok.rf (A : md_A) (s : Int) : ok A A s := ⟨fun _ _ _ _ _ => rfl, fun _ _ _ _ => rfl, fun _ => Or.inl rfl⟩
theorem ok.tr {A A' A2 : md_A} {s : Int} (h1 : ok A A' s) (h2 : ok A' A2 s) : ok A A2 s := ⟨fun k x a b c => (h2.1 k x a b c).trans (h1.1 k x a b c), fun k x a b => (h2.2.1 k x a b).trans (h1.2.1 k x a b), fun x => by
  rcases h2.2.2 x with h | h
  · rw [h]; exact h1.2.2 x
  · exact Or.inr h⟩
theorem ok_k {A A' : md_A} (s : Int) (h : ∀ (k : Nat) (x : Int), k ≠ 27 → k ≠ 28 → k ≠ 29 → A' k x = A k x) : ok A A' s := ⟨fun k x a _ _ => h k x (by omega) (by omega) (by omega), fun k x _ b => h k x (by omega) (by omega) (by omega), fun x => Or.inl (h 25 x (by omega) (by omega) (by omega))⟩
theorem ok_u {A : md_A} {s : Int} {k : Nat} {i v : Int} (hk : k ≤ 20) (h : k = 0 ∨ own s k i) : ok A (md_u A k i v) s := ⟨fun k' x _ a b => by
  by_cases e : k' = k ∧ x = i
  · obtain ⟨rfl, rfl⟩ := e
    rcases h with h | h
    · exact absurd h a
    · exact absurd h b
  · exact md_un e, fun k' x a b => md_uk (by omega), fun x => Or.inl (md_uk (by omega))⟩
theorem ok_follow (A : md_A) (s : Int) : ok A (md_follow A s) s := by
  unfold md_follow
  by_cases h : A 13 s = 3
  · rw [if_pos h]
    refine ok.tr (ok_u (k := 13) (i := s) (v := 0) (by omega) (Or.inr (by unfold own; omega))) ⟨fun k x a _ _ => md_wn (by omega), fun k x a b => md_wn (by omega), fun x => ?_⟩
    by_cases e : (25 : Nat) = 25 ∧ 0 ≤ x ∧ x < A 21 0
    · have : md_w (md_u A 13 s 0) 25 0 (A 21 0) (fun x => if A 22 x = s ∧ A 25 x = 0 then 2 else A 25 x) 25 x = if A 22 x = s ∧ A 25 x = 0 then 2 else A 25 x := if_pos e
      rw [this]
      split
      · exact Or.inr (by decide)
      · exact Or.inl (md_uk (by decide)).symm
    · exact Or.inl (md_wn e)
  · rw [if_neg h]
    exact ok_u (by omega) (Or.inr (by unfold own; omega))
theorem md_follow_13 (A : md_A) (s x : Int) : md_follow A s 13 x = if x = s then 0 else A 13 x := by
  unfold md_follow
  by_cases h : A 13 s = 3
  · rw [if_pos h, md_wn (by omega)]
    by_cases e : x = s
    · rw [e, md_us, if_pos rfl]
    · rw [md_ui e, if_neg e]
  · rw [if_neg h]
    by_cases e : x = s
    · rw [e, md_us, if_pos rfl]
    · rw [md_ui e, if_neg e]
theorem ok_post (A : md_A) (s : Int) : ok A (md_post A) s := ok_k s (fun k x h1 h2 h3 => md_post_k ⟨h1, h2⟩)
theorem ok_all (A : md_A) (s t : Int) (n : Nat) : ok A (md_all A s n) t := ok_k t (fun k x h1 h2 h3 => md_all_k ⟨h1, h2, h3⟩ n)
theorem ok_ask (A : md_A) (s kind t u : Int) (n : Nat) : ok A (md_ask A s kind t n) u := ok_k u (fun k x h1 h2 h3 => md_ask_k ⟨h1, h2, h3⟩ n)
theorem ok_sendTo (A : md_A) (s to u : Int) : ok A (md_sendTo A s to) u := ok_k u (fun k x h1 h2 h3 => md_sendTo_k ⟨h1, h2, h3⟩)
theorem ok_look (A : md_A) (s : Int) : ok A (md_look A s) s := by
  unfold md_look
  have h1 : ok A (md_fcm A s) s := ok_u (by omega) (Or.inr (by unfold own; omega))
  split
  · exact h1.tr (ok_follow _ s)
  · exact h1
theorem ok_push (A : md_A) {s : Int} (h : 0 ≤ A 8 s ∧ A 8 s < 48) (t so ke va : Int) : ok A (md_push A s t so ke va) s := by
  unfold md_push
  exact ((((ok_u (by omega) (Or.inr (by unfold own; omega))).tr (ok_u (by omega) (Or.inr (by unfold own; omega)))).tr (ok_u (by omega) (Or.inr (by unfold own; omega)))).tr (ok_u (by omega) (Or.inr (by unfold own; omega)))).tr (ok_u (by omega) (Or.inr (by unfold own; omega)))
theorem ok_append (A : md_A) {s : Int} (h : 0 ≤ A 8 s ∧ A 8 s < 48) (so ke va : Int) : ok A (md_append A s so ke va) s := ((ok_push A h _ so ke va).tr (ok_look _ s)).tr (ok_all _ s s 5)
theorem ok_ld (A : md_A) (s : Int) : ∀ n : Nat, n ≤ 5 → ok A (md_ld A s n) s
  | 0, _ => (ok_u (by omega) (Or.inr (by unfold own; omega))).tr (ok_u (by omega) (Or.inr (by unfold own; omega)))
  | n + 1, h => (((ok_ld A s n (by omega)).tr (ok_u (by omega) (Or.inr (by unfold own; omega)))).tr (ok_u (by omega) (Or.inr (by unfold own; omega)))).tr (ok_u (by omega) (Or.inr (by unfold own; omega)))
theorem ok_cand (A : md_A) (s : Int) : ok A (md_cand A s) s := (((ok_u (by omega) (Or.inr (by unfold own; omega))).tr (ok_u (by omega) (Or.inr (by unfold own; omega)))).tr (ok_u (by omega) (Or.inr (by unfold own; omega)))).tr (ok_u (by omega) (Or.inr (by unfold own; omega)))
theorem ok_stand (A : md_A) (s : Int) : ok A (md_stand A s) s := by
  unfold md_stand
  split
  · exact (ok_cand A s).tr (ok_ask _ _ _ _ _ _)
  · exact ok.rf A s
section SF11
variable {c0 : Int} {g g' : Gh} {A A' : md_A} {B : Int} {s : Nat} {l : List En}
theorem bit_ia_r {a q : Int} {v : Nat} (h : bit (ia a q) v = 1) : bit q v = 1 := by
  by_cases hq : q < 0
  · exfalso
    unfold bit ia at h
    rw [show q.toNat = 0 by omega, Nat.and_zero] at h
    simp at h
  · obtain ⟨y, rfl⟩ := Int.eq_ofNat_of_zero_le (by omega : 0 ≤ q)
    have h1 : ∀ z : Nat, bit (z : Int) v = ((z.testBit v).toNat : Int) := fun z => by
      unfold bit
      rw [Int.toNat_natCast]
      have h2 : (z : Int) / 2 ^ v % 2 = ((z / 2 ^ v % 2 : Nat) : Int) := by norm_cast
      rw [h2, Nat.testBit_eq_decide_div_mod_eq]
      rcases Nat.mod_two_eq_zero_or_one (z / 2 ^ v) with h | h <;> rw [h] <;> rfl
    have h3 : bit (ia a (y : Int)) v = (((a.toNat &&& y).testBit v).toNat : Int) := h1 _
    rw [h3, Nat.testBit_and] at h
    rw [h1]
    cases hy : y.testBit v with
    | true => rfl
    | false => rw [hy] at h; simp at h
theorem bit_io {a q : Int} {v : Nat} (ha : 0 ≤ a) (hq : 0 ≤ q) (h : bit (io a q) v = 1) : bit a v = 1 ∨ bit q v = 1 := by
  obtain ⟨x, rfl⟩ := Int.eq_ofNat_of_zero_le ha
  obtain ⟨y, rfl⟩ := Int.eq_ofNat_of_zero_le hq
  have h1 : ∀ z : Nat, bit (z : Int) v = ((z.testBit v).toNat : Int) := fun z => by
    unfold bit
    rw [Int.toNat_natCast]
    have h2 : (z : Int) / 2 ^ v % 2 = ((z / 2 ^ v % 2 : Nat) : Int) := by norm_cast
    rw [h2, Nat.testBit_eq_decide_div_mod_eq]
    rcases Nat.mod_two_eq_zero_or_one (z / 2 ^ v) with h | h <;> rw [h] <;> rfl
  have h3 : bit (io (x : Int) (y : Int)) v = (((x ||| y).testBit v).toNat : Int) := h1 _
  rw [h3, Nat.testBit_or] at h
  rw [h1, h1]
  cases hx : x.testBit v with
  | true => exact Or.inl rfl
  | false =>
    cases hy : y.testBit v with
    | true => exact Or.inr rfl
    | false => rw [hx, hy] at h; simp at h
theorem io_pos (a q : Int) : 0 ≤ io a q := by unfold io; omega
theorem reach_bit {k : Nat} {mark : Int} (hs : s < 5) {v : Nat} (hv : v < 5) : ∀ n : Nat, n ≤ 5 → 0 ≤ md_reach A k s mark n ∧ (bit (md_reach A k s mark n) v = 1 → v = s ∨ mark ≤ A k (5 * s + v))
  | 0, _ => by
    have := set5_one (k := (s : Int)) (by omega) (by omega)
    exact ⟨this.1, fun h => Or.inl (bit_one s hs v hv h)⟩
  | n + 1, hn => by
    obtain ⟨h0, h1⟩ := reach_bit hs hv n (by omega)
    rw [md_reach_s]
    refine ⟨io_pos _ _, fun h => ?_⟩
    by_cases c : A k (5 * s + n) < mark
    · rw [if_pos c] at h
      rcases bit_io h0 (Int.le_refl 0) h with h | h
      · exact h1 h
      · unfold bit at h; simp at h
    · rw [if_neg c] at h
      have h5 := set5_one (k := (n : Int)) (by omega) (by omega)
      rcases bit_io h0 h5.1 h with h | h
      · exact h1 h
      · have := bit_one n (by omega) v hv h
        subst this
        exact Or.inr (by omega)
theorem most_maj {bits : Int} (hR : lgR c0 A s l) (h : md_most A s bits = 1) : maj (cfg c0 l) (fun v => bit bits v = 1) := by
  unfold md_most at h
  rw [hR.config] at h
  by_cases c : md_cnt (cfg c0 l) < 2 * md_cnt (ia (cfg c0 l) bits)
  · exact ⟨bits, c, fun v _ hb => bit_ia_r hb⟩
  · rw [if_neg c] at h; exact absurd h (by decide)
theorem fc_is (A : md_A) (s : Int) : ∀ n : Nat, md_fc A s n = A 14 s ∨ ∃ m : Nat, 1 ≤ m ∧ m ≤ n ∧ md_fc A s n = A 14 s + m ∧ md_termAt A s (A 14 s + m) = A 2 s ∧ md_most A s (md_reach A 18 s (A 14 s + m) 5) = 1
  | 0 => Or.inl rfl
  | n + 1 => by
    unfold md_fc
    by_cases c : md_termAt A s (A 14 s + n + 1) = A 2 s ∧ md_most A s (md_reach A 18 s (A 14 s + n + 1) 5) = 1
    · rw [if_pos c]
      refine Or.inr ⟨n + 1, by omega, Nat.le_refl _, by omega, ?_, ?_⟩
      · rw [show A 14 s + ((n + 1 : Nat) : Int) = A 14 s + n + 1 by omega]; exact c.1
      · rw [show A 14 s + ((n + 1 : Nat) : Int) = A 14 s + n + 1 by omega]; exact c.2
    · rw [if_neg c]
      rcases fc_is A s n with h | ⟨m, h1, h2, h3⟩
      · exact Or.inl h
      · exact Or.inr ⟨m, h1, by omega, h3⟩
theorem Iv.lead (H : Iv c0 B A g) (hs : s < 5) (h3 : A 13 s = 3) : gw g (A 2 s) = some s ∧ gG g s = gL g (A 2 s) := by
  have := (H.2.2.1 s hs).1.2.2.2.2.2.2.2.2.1 h3
  exact ⟨this.1, this.2.1⟩
theorem Iv.look (H : Iv c0 B A g) (hs : s < 5) (h3 : A 13 s = 3) : ∃ g', gle g g' ∧ Iv c0 B (md_look A s) g' ∧ gw g' (A 2 s) = some s ∧ gG g' s = gL g' (A 2 s) := by
  obtain ⟨⟨s1, s2, s3, s4, s5, s6, s7, s9, s10, -⟩, s8⟩ := H.2.2.1 s hs
  obtain ⟨b1, b2, b3, b4, b5⟩ := s10 h3
  have hfcm : ∃ g', gle g g' ∧ Iv c0 B (md_fcm A s) g' := by
    rcases fc_is A s (md_last A s - A 14 s).toNat with h | ⟨m, m1, m2, m3, m4, m5⟩
    · refine ⟨g, gle.rf g, ?_⟩
      have : md_fcm A s = A := by
        unfold md_fcm
        rw [h]
        funext k x
        unfold md_u
        split
        · rename_i hh; rw [hh.1, hh.2]
        · rfl
      rw [this]
      exact H
    · have hR := s1
      rw [b2] at hR s4
      have hla : md_last A s = ((gL g (A 2 s)).length : Int) := hR.last
      have r1 := hR.1
      have r2 := hR.2.1
      rw [hla] at m2
      have hmj := most_maj hR m5
      refine H.commit hs h3 (A' := md_fcm A s) (fun k x a1 a2 => md_un (by omega)) (j := (A 14 s + m).toNat) (by
        show md_fcm A s 14 s = _
        unfold md_fcm
        rw [md_us, hla, show (((gL g (A 2 s)).length : Int) - A 14 s).toNat = (md_last A s - A 14 s).toNat by rw [hla], m3]
        omega) (by omega) (by omega) (by omega) ?_ (maj_mono hmj (fun v hv hb => ?_))
      · rw [← hR.term (by omega) (i := A 14 s + m) (by omega) (by omega)]
        exact m4
      · have := (reach_bit (A := A) (k := 18) (mark := A 14 s + m) hs hv 5 (by omega)).2 hb
        by_cases hvs : v = s
        · subst hvs
          rw [b5]; omega
        · have h18 := b4 v hv hvs
          rcases this with h | h
          · exact absurd h hvs
          · omega
  obtain ⟨g', d1, d2⟩ := hfcm
  have e13 : md_fcm A s 13 s = 3 := (md_uk (by decide)).trans h3
  have e2 : md_fcm A s 2 s = A 2 s := md_uk (by decide)
  have hl := d2.lead hs e13
  rw [e2] at hl
  unfold md_look
  split
  · refine ⟨g', d1, ?_, hl⟩
    have f := ok_follow (md_fcm A s) s
    refine d2.fol hs (fun k x a1 a2 => ?_) ?_ ?_ (fun _ => ?_) ?_
    · by_cases hk : k = 25
      · exact absurd (by unfold md_no; omega) a1
      · by_cases h13 : k = 13
        · subst h13
          rw [md_follow_13, if_neg (fun e => a2 ⟨by omega, e⟩)]
        · exact md_follow_k ⟨h13, hk⟩
    · rw [md_follow_k (by decide)]; exact Int.le_refl _
    · rw [md_follow_k (by decide), e2]; exact H.2.2.2.2.1 s hs
    · exact md_follow_k (by decide)
    · rw [md_follow_13, if_pos rfl]; decide
  · exact ⟨g', d1, d2, hl⟩
theorem Iv.all (hB : 0 ≤ B) (hs : s < 5) : ∀ n : Nat, n ≤ 5 → Iv c0 B A g → 0 ≤ A 27 0 → gw g (A 2 s) = some s ∧ gG g s = gL g (A 2 s) → (∀ v : Nat, v < 5 → A 17 (5 * s + v) ≤ md_last A s + 1) → Iv c0 B (md_all A s n) g ∧ 0 ≤ md_all A s n 27 0
  | 0, _, H, h27, _, _ => ⟨H, h27⟩
  | n + 1, hn, H, h27, hl, hx => by
    obtain ⟨ih, i27⟩ := Iv.all hB hs n (by omega) H h27 hl hx
    unfold md_all
    by_cases c : (n : Int) = s ∨ ¬ bit (md_config A s) n = 1
    · rw [if_pos c]; exact ⟨ih, i27⟩
    · rw [if_neg c]
      have e2 : md_all A s n 2 s = A 2 s := md_all_k (by decide) n
      have e17 : ∀ x, md_all A s n 17 x = A 17 x := fun x => md_all_k (by decide) n
      have elast : md_last (md_all A s n) s = md_last A s := congrFun (md_all_lg A s n).last s
      refine ⟨ih.sendTo i27 hB hs (by rw [e2]; exact hl) (by omega) (by rw [e17, elast]; exact hx n (by omega)), ?_⟩
      unfold md_sendTo md_inst md_appd
      have hp : ∀ X : md_A, X 27 0 = md_all A s n 27 0 → 0 ≤ md_post X 27 0 := fun X hX => by
        unfold md_post
        split
        · rw [hX]; exact i27
        · rw [md_us, hX]; omega
      split
      · exact hp _ (by rw [md_wn (by omega), md_uk (by decide), md_uk (by decide), md_uk (by decide), md_hd_k (by decide)])
      · exact hp _ (by rw [md_ents_k (by decide), md_uk (by decide), md_uk (by decide), md_hd_k (by decide)])
end SF11
