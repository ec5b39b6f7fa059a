/-! safety: INSTALL, compact, crash; what a leader sends and decides -/
theorem md_un {A : md_A} {k j : Nat} {i x v : Int} (h : ¬ (j = k ∧ x = i)) : md_u A k i v j x = A j x := if_neg h
theorem md_wn {A : md_A} {k j : Nat} {lo hi x : Int} {f : Int → Int} (h : ¬ (j = k ∧ lo ≤ x ∧ x < hi)) : md_w A k lo hi f j x = A j x := if_neg h
theorem md_shn {A : md_A} {lo gone x : Int} {n j : Nat} (h : ¬ ((j = 9 ∨ j = 10 ∨ j = 11 ∨ j = 12) ∧ lo ≤ x ∧ x < lo + n)) : md_sh A lo n gone j x = A j x := if_neg h
section SF10
variable {c0 : Int} {g g' : Gh} {A A' : md_A} {B : Int} {s : Nat} {l : List En}
theorem pre_lt (W : Ws c0 g) {T : Int} {c : Nat} (hc : gw g T = some c) {l1 : List En} (hp : l1 <+: gL g T) : lt l1 ≤ T := by
  obtain ⟨w1, w2, w3, w4, w5, w6, w7⟩ := W.2.1 T c hc
  unfold lt
  by_cases hn : l1.length = 0
  · rw [hn, tm_0]; omega
  · rw [← tm_pre hp (Nat.le_refl _)]
    have hl := hp.length_le
    by_cases he : l1.length ≤ ge g T
    · have := w5 l1.length (by omega) he; omega
    · rw [w4 l1.length (by omega) hl]; exact Int.le_refl _
theorem md_shift_8 {s i : Int} : md_shift A s i 8 s = A 8 s - (i - A 4 s) := md_us
theorem md_shift_lg {s i : Int} {k : Nat} (h1 : 9 ≤ k) (h2 : k ≤ 12) {j : Int} (j0 : 0 ≤ j) (j1 : j < A 8 s - (i - A 4 s)) : md_shift A s i k (48 * s + j) = A k (48 * s + (i - A 4 s) + j) := by
  unfold md_shift md_sh
  rw [md_uk (by omega), if_pos ⟨by omega, by omega, by omega⟩]
  congr 1
  omega
theorem md_shift_o {s i : Int} (h8 : A 8 s ≤ 48) (hi : A 4 s ≤ i) : ∀ (k : Nat) (x : Int), ¬ (k = 8 ∧ x = s) → ¬ (9 ≤ k ∧ k ≤ 12 ∧ 48 * s ≤ x ∧ x < 48 * s + 48) → md_shift A s i k x = A k x := fun k x h1 h2 => by
  unfold md_shift
  rw [md_un h1, md_shn (by omega)]
/-- the log of s, its base higher -/
theorem lgR.rebase {s : Int} (h : lgR c0 A s l) {i : Int} (h1 : A 4 s ≤ i) (h2 : i ≤ (l.length : Int)) (e4 : A' 4 s = i) (e5 : A' 5 s = tm l i.toNat) (e6 : A' 6 s = cfg c0 (l.take i.toNat)) (e8 : A' 8 s = A 8 s - (i - A 4 s)) (e9 : ∀ k : Nat, 9 ≤ k → k ≤ 12 → ∀ j : Int, 0 ≤ j → j < A 8 s - (i - A 4 s) → A' k (48 * s + j) = A k (48 * s + (i - A 4 s) + j)) : lgR c0 A' s l := by
  obtain ⟨r1, r2, r3, r4, r5, r6⟩ := h
  unfold lgR
  rw [e4, e5, e6, e8]
  refine ⟨by omega, by omega, by omega, rfl, rfl, fun j hj => ?_⟩
  rw [e9 9 (by omega) (by omega) j (by omega) hj, e9 10 (by omega) (by omega) j (by omega) hj, e9 11 (by omega) (by omega) j (by omega) hj, e9 12 (by omega) (by omega) j (by omega) hj]
  have := r6 ((i - A 4 s).toNat + j) (by omega)
  rw [show (A 4 s).toNat + ((i - A 4 s).toNat + j) = i.toNat + j by omega, show (48 * s + (((i - A 4 s).toNat + j : Nat) : Int)) = 48 * s + (i - A 4 s) + j by omega] at this
  exact this
/-- base and commit of s are new, its log is not -/
theorem Iv.base (H : Iv c0 B A g) (hs : s < 5) (hd : lgo A A' s) (h8 : A' 8 s ≤ 48) (hR : lgR c0 A' s (gG g s)) (h14 : A' 4 s ≤ A' 14 s ∧ A' 14 s ≤ A 14 s) (h3 : A' 14 s = A 14 s ∨ A 13 s ≠ 3) : Iv c0 B A' g := by
  have HH := H
  obtain ⟨W, K, hsv, hms, hbd⟩ := H
  obtain ⟨⟨s1, s2, s3, s4, s5, s6, s7, s9, s10, s11, s12⟩, s8⟩ := hsv s hs
  have e : ∀ k : Nat, k = 2 ∨ k = 3 ∨ k = 13 ∨ k = 16 → A' k s = A k s := fun k hk => hd k _ (by unfold md_no; omega) (by omega) (by omega)
  have e18 : ∀ x, A' 18 x = A 18 x := fun x => hd 18 _ (by unfold md_no; omega) (by omega) (by omega)
  refine HH.step (Int.le_refl B) (gle.rf g) W K (s := s) ⟨?_, h8⟩ (fun u hu hus => ⟨⟨fun k hk => hd k _ (by unfold md_no; omega) (by omega) (by omega), fun k k1 k2 i i0 i1 => hd k _ (by unfold md_no; omega) (by omega) (by omega), fun v _ => hd 18 _ (by unfold md_no; omega) (by omega) (by omega)⟩, rfl, fun t => rfl, fun _ => rfl, fun _ => rfl, fun _ _ => rfl, fun _ q => q⟩) ⟨hd 27 0 (by unfold md_no; omega) (by omega) (by omega), fun x => hd 28 x (by unfold md_no; omega) (by omega) (by omega)⟩ ⟨fun u hu => ?_, hbd.2.1, fun x => ?_, fun x => ?_, fun x => ?_⟩
  · unfold Sv sv_V sv_3 sv_2
    rw [e 2 (by omega), e 3 (by omega), e 13 (by omega), e 16 (by omega)]
    have h4 := hR.1
    refine ⟨hR, s2, s3, ⟨h14.1, by omega, s4.2.2.le (by omega)⟩, s5, s6, s7, s9, fun z => ?_, s11, s12⟩
    rcases h3 with h3 | h3
    · rw [h3]
      simp only [e18]
      exact s10 z
    · exact absurd z h3
  · rw [hd 2 _ (by unfold md_no; omega) (by omega) (by omega)]; exact hbd.1 u hu
  · rw [hd 17 x (by unfold md_no; omega) (by omega) (by omega)]; exact hbd.2.2.1 x
  · rw [e18]; exact hbd.2.2.2.1 x
  · rw [hd 20 x (by unfold md_no; omega) (by omega) (by omega)]; exact hbd.2.2.2.2 x
theorem Iv.comp (H : Iv c0 B A g) (hs : s < 5) : Iv c0 B (md_compact A s) g := by
  obtain ⟨⟨s1, s2, s3, s4, s5⟩, s8⟩ := H.2.2.1 s hs
  have hR := s1
  obtain ⟨r1, r2, r3, -⟩ := s1
  have cv : ∀ (k : Nat) (x : Int), k ≠ 7 → md_cvals A s k x = A k x := fun k x hk => by
    unfold md_cvals md_w
    rw [if_neg (fun z => hk z.1)]
  have c8 : md_cvals A s 8 s = A 8 s := cv 8 _ (by decide)
  have c4 : md_cvals A s 4 s = A 4 s := cv 4 _ (by decide)
  have sh := md_shift_o (A := md_cvals A s) (s := s) (i := A 14 s) (by rw [c8]; exact s8) (by rw [c4]; exact s4.1)
  have e : ∀ (k : Nat) (x : Int), k ≠ 7 → ¬ ((4 ≤ k ∧ k ≤ 6 ∨ k = 8) ∧ x = s) → ¬ (9 ≤ k ∧ k ≤ 12 ∧ 48 * (s : Int) ≤ x ∧ x < 48 * s + 48) → md_compact A s k x = A k x := fun k x h7 h1 h2 => by
    unfold md_compact
    rw [show ∀ (X : md_A) (a b c : Int), md_u (md_u (md_u X 4 s a) 5 s b) 6 s c k x = X k x from fun X a b c => by
      rw [md_un (by omega), md_un (by omega), md_un (by omega)], sh k x (by omega) h2, cv k x h7]
  have u4 : md_compact A s 4 s = A 14 s := by
    unfold md_compact
    rw [md_uk (by decide), md_uk (by decide), md_us]
  have u5 : md_compact A s 5 s = md_termAt A s (A 14 s) := by
    unfold md_compact
    rw [md_uk (by decide), md_us]
  have u6 : md_compact A s 6 s = md_mem A s (md_gone A s) := md_us
  have u8 : md_compact A s 8 s = A 8 s - (A 14 s - A 4 s) := by
    unfold md_compact
    rw [md_uk (by decide), md_uk (by decide), md_uk (by decide), md_shift_8, c8, c4]
  refine H.base hs (fun k x a1 a2 a3 => e k x (fun z => a1 (by unfold md_no; omega)) (by omega) a3) (by rw [u8]; omega) (hR.rebase s4.1 s4.2.1 u4 ?_ ?_ u8 (fun k k1 k2 j j0 j1 => ?_)) ⟨?_, ?_⟩ (Or.inl (e 14 _ (by decide) (by omega) (by omega)))
  · rw [u5, hR.term (by omega) s4.1 s4.2.1]
  · rw [u6]
    unfold md_gone
    rw [hR.mem _ (by omega), show (A 4 s).toNat + (A 14 s - A 4 s).toNat = (A 14 s).toNat by omega]
  · unfold md_compact
    rw [md_uk (by omega), md_uk (by omega), md_uk (by omega), md_shift_lg k1 k2 j0 (by rw [c8, c4]; exact j1), c4, cv k _ (by omega)]
  · rw [u4, e 14 _ (by decide) (by omega) (by omega)]; exact Int.le_refl _
  · rw [e 14 _ (by decide) (by omega) (by omega)]; exact Int.le_refl _
/-- an INSTALL taken -/
theorem Iv.inst (H : Iv c0 B A g) (hs : s < 5) (h13 : A 13 s ≠ 2 ∧ A 13 s ≠ 3) (hm : mok c0 g B (fun x => A 29 x)) (hk : A 29 0 = 6) (hT : A 29 3 = A 2 s) (hc : A 14 s < A 29 4) :
    ∃ g', gle g g' ∧ Iv c0 B (md_insA A s) g' ∧ A 29 4 ≤ (ga g' (A 2 s) s : Int) := by
  obtain ⟨⟨s1, s2, s3, s4, s5⟩, s8⟩ := H.2.2.1 s hs
  obtain ⟨m1, -, -, -, -, m6⟩ := hm
  obtain ⟨⟨c, a0⟩, a1, a2, a3, a4⟩ := m6 hk
  simp only [hT] at a0 a1 a2 a3 a4
  have hR := s1
  obtain ⟨r1, r2, r3, -⟩ := s1
  have w5 : 0 ≤ A 29 5 := m1.2.2.2.2.2.1
  have e : ∀ (k : Nat) (x : Int), k ≠ 7 → ¬ ((4 ≤ k ∧ k ≤ 6 ∨ k = 14) ∧ x = s) → md_insA A s k x = md_insL A s k x := fun k x h7 h1 => by
    unfold md_insA
    rw [md_un (by omega), md_wn (by omega), md_un (by omega), md_un (by omega), md_un (by omega)]
  have u14 : md_insA A s 14 s = A 29 4 := md_us
  have u4 : md_insA A s 4 s = A 29 4 := by
    unfold md_insA
    rw [md_uk (by decide), md_wn (by omega), md_uk (by decide), md_uk (by decide), md_us]
  have u5 : md_insA A s 5 s = A 29 5 := by
    unfold md_insA
    rw [md_uk (by decide), md_wn (by omega), md_uk (by decide), md_us]
  have u6 : md_insA A s 6 s = A 29 10 := by
    unfold md_insA
    rw [md_uk (by decide), md_wn (by omega), md_us]
  have hterm : ∀ X : List En, X <+: gG g s → X <+: gL g (A 2 s) → (A 29 4).toNat ≤ X.length → md_termAt A s (A 29 4) = A 29 5 := fun X x1 x2 x3 => by
    have hl := x1.length_le
    rw [hR.term (by omega) (by omega) (by omega), tm_pre x1 x3, a2, tm_pre x2 x3]
  by_cases hmt : md_termAt A s (A 29 4) = A 29 5
  · -- the log goes on behind it
    have hin : A 29 4 ≤ ((gG g s).length : Int) := by
      apply Int.not_lt.mp
      intro z
      rw [hR.noterm (Or.inr z)] at hmt
      omega
    have htm : tm (gG g s) (A 29 4).toNat = tm (gL g (A 2 s)) (A 29 4).toNat := by
      rw [← a2, ← hmt, hR.term (by omega) (by omega) hin]
    have heq := inL_eq H.1 a0 s2 (by omega) (by omega) htm
    have eL : md_insL A s = md_shift A s (A 29 4) := if_pos hmt
    have sh := md_shift_o (A := A) (s := s) (i := A 29 4) s8 (by omega)
    have u8 : md_insA A s 8 s = A 8 s - (A 29 4 - A 4 s) := by rw [e 8 _ (by decide) (by omega), eL, md_shift_8]
    have hR1 : lgR c0 (md_insA A s) s (gG g s) := hR.rebase (i := A 29 4) (by omega) hin u4 (by rw [u5, htm, a2]) (by rw [u6, a3, heq]) u8 (fun k k1 k2 j j0 j1 => by rw [e k _ (by omega) (by omega), eL, md_shift_lg k1 k2 j0 j1])
    obtain ⟨g', d1, d2, d3⟩ := H.log hs a0 h13 (A' := md_insA A s) (fun k x b1 b2 b3 => by
        rw [e k x (fun z => b1 (by unfold md_no; omega)) (by omega), eL, sh k x (by omega) b3]) (by rw [u8]; omega) (k := (A 29 4).toNat) (by omega) hR1 s2 s3.2 (by rw [u4, u14]; omega) (by rw [u14]; exact a4.on heq) (fun X x1 _ => x1) (by rw [← heq]; exact List.take_prefix _ _)
    exact ⟨g', d1, d2, by omega⟩
  · have eL : md_insL A s = md_u A 8 s 0 := if_neg hmt
    have u8 : md_insA A s 8 s = 0 := by rw [e 8 _ (by decide) (by omega), eL, md_us]
    have hlen : ((gL g (A 2 s)).take (A 29 4).toNat).length = (A 29 4).toNat := len_take (by omega)
    have hpre : (gL g (A 2 s)).take (A 29 4).toNat <+: gL g (A 2 s) := List.take_prefix _ _
    have hR1 : lgR c0 (md_insA A s) s ((gL g (A 2 s)).take (A 29 4).toNat) := by
      unfold lgR
      rw [u4, u5, u6, u8, hlen, a2, a3, tm_pre hpre (by omega), List.take_take, Nat.min_self]
      exact ⟨by omega, by omega, by omega, rfl, rfl, fun j hj => by omega⟩
    obtain ⟨g', d1, d2, d3⟩ := H.log hs a0 h13 (A' := md_insA A s) (fun k x b1 b2 b3 => by
        rw [e k x (fun z => b1 (by unfold md_no; omega)) (by omega), eL]
        rw [md_un (by omega)]) (by rw [u8]; omega) (k := (A 29 4).toNat) (by omega) hR1 (gl_pre (H.1.2.1 _ c a0).2.2.2.2.2.1 hpre) (pre_lt H.1 a0 hpre) (by rw [u4, u14, hlen]; omega) (by rw [u14]; exact a4.on (by rw [List.take_take, Nat.min_self])) (fun X x1 x2 => pre_two x2 hpre (by
          rw [hlen]
          apply Nat.le_of_not_lt
          intro z
          exact hmt (hterm X x1 x2 (by omega)))) (List.prefix_refl _)
    exact ⟨g', d1, d2, by omega⟩
/-- an INSTALL of what is decided here -/
theorem Iv.instO (H : Iv c0 B A g) (hs : s < 5) (h13 : A 13 s ≠ 2 ∧ A 13 s ≠ 3) (hm : mok c0 g B (fun x => A 29 x)) (hk : A 29 0 = 6) (hT : A 29 3 = A 2 s) (hc : ¬ A 14 s < A 29 4) :
    ∃ g', gle g g' ∧ Iv c0 B A g' ∧ A 29 4 ≤ (ga g' (A 2 s) s : Int) := by
  obtain ⟨⟨s1, s2, s3, s4, s5⟩, s8⟩ := H.2.2.1 s hs
  obtain ⟨m1, -, -, -, -, m6⟩ := hm
  obtain ⟨⟨c, a0⟩, a1, a2, a3, a4⟩ := m6 hk
  simp only [hT] at a0 a1 a2 a3 a4
  have hdec := H.dec hs a0
  have r1 := s1.1
  have h4 : 0 ≤ A 29 4 := m1.2.2.2.2.1.1
  obtain ⟨g', d1, d2, d3⟩ := H.log hs a0 h13 (lgo.rf A s) s8 (k := (A 29 4).toNat) (by omega) s1 s2 s3.2 ⟨s4.1, s4.2.1⟩ s4.2.2 (fun X x1 _ => x1) (by
    have := take_pre hdec (i := (A 29 4).toNat) (by rw [len_take (by omega)]; omega)
    rw [this, List.take_take, Nat.min_eq_left (by omega)]
    exact List.take_prefix _ _)
  exact ⟨g', d1, d2, by omega⟩
/-- what a leader sends -/
theorem Iv.sendTo (H : Iv c0 B A g) (h27 : 0 ≤ A 27 0) (hB : 0 ≤ B) (hs : s < 5) (h3 : gw g (A 2 s) = some s ∧ gG g s = gL g (A 2 s)) {to : Nat} (hto : to < 5) (hn : A 17 (5 * s + to) ≤ md_last A s + 1) : Iv c0 B (md_sendTo A s to) g := by
  obtain ⟨⟨s1, s2, s3, s4, s5, s6, s7, s9, s10, -⟩, s8⟩ := H.2.2.1 s hs
  obtain ⟨b1, b2⟩ := h3
  have hR := s1
  obtain ⟨r1, r2, r3, r4, r5, -⟩ := s1
  have h2B := H.2.2.2.2.1 s hs
  have h17 := H.2.2.2.2.2.2.1 (5 * s + to)
  have hlenB := H.2.2.2.2.2.1 _ _ b1
  rw [b2] at s2 s4 r3 r4 r5 hR
  have hla : md_last A s = ((gL g (A 2 s)).length : Int) := hR.last
  have hd29 : ∀ kind x : Int, 0 ≤ x → x < 8 → md_hd A s to kind 29 x = if x = 3 then A 2 s else if x = 2 then (to : Int) else if x = 1 then (s : Int) else if x = 0 then kind else 0 := fun kind x x0 x8 => by
    unfold md_hd
    rw [md_ui (by omega), md_ui (by omega), md_begin_29 x0 (by omega)]
  have hdk : ∀ (kind : Int) (k : Nat), k ≠ 29 → md_hd A s to kind k = A k := fun kind k hk => by
    funext x
    exact md_hd_k hk
  have h8w : ∀ kind : Int, md_hd A s to kind 29 8 = A 14 s := fun kind => md_us
  unfold md_sendTo
  by_cases c : A 17 (5 * s + to) - 1 < A 4 s
  · rw [if_pos c]
    unfold md_inst
    have ek : ∀ k, k ≠ 29 → (md_w (md_u (md_u (md_u (md_hd A s to 6) 29 4 (A 4 s)) 29 5 (A 5 s)) 29 10 (A 6 s)) 29 11 15 (fun x => A 7 (4 * s + (x - 11)))) k = A k := fun k hk => by
      funext x
      rw [md_wn (fun z => hk z.1), md_uk hk, md_uk hk, md_uk hk, hdk 6 k hk]
    have w : ∀ x : Int, 0 ≤ x → x < 8 → (md_w (md_u (md_u (md_u (md_hd A s to 6) 29 4 (A 4 s)) 29 5 (A 5 s)) 29 10 (A 6 s)) 29 11 15 (fun x => A 7 (4 * s + (x - 11)))) 29 x = if x = 5 then A 5 s else if x = 4 then A 4 s else if x = 3 then A 2 s else if x = 2 then (to : Int) else if x = 1 then (s : Int) else if x = 0 then 6 else 0 := fun x x0 x8 => by
      rw [md_wn (by omega), md_ui (by omega)]
      by_cases e5 : x = 5
      · subst e5; rw [md_us]; rfl
      · rw [md_ui e5, if_neg e5]
        by_cases e4 : x = 4
        · subst e4; rw [md_us]; rfl
        · rw [md_ui e4, if_neg e4, hd29 6 x x0 x8]
    have w10 : (md_w (md_u (md_u (md_u (md_hd A s to 6) 29 4 (A 4 s)) 29 5 (A 5 s)) 29 10 (A 6 s)) 29 11 15 (fun x => A 7 (4 * s + (x - 11)))) 29 10 = A 6 s := by
      rw [md_wn (by omega), md_us]
    refine (H.f29 ek).post (by rw [ek 27 (by decide)]; exact h27) ?_
    have v0 := w 0 (by decide) (by decide)
    have v1 := w 1 (by decide) (by decide)
    have v2 := w 2 (by decide) (by decide)
    have v3 := w 3 (by decide) (by decide)
    have v4 := w 4 (by decide) (by decide)
    have v5 := w 5 (by decide) (by decide)
    have v6 := w 6 (by decide) (by decide)
    have v7 := w 7 (by decide) (by decide)
    simp at v0 v1 v2 v3 v4 v5 v6 v7
    have h5 : 0 ≤ A 5 s := by
      rw [r4]
      by_cases hz : (A 4 s).toNat = 0
      · rw [hz]; exact Int.le_refl _
      · have := gl_pos H.1.2.1 s2 (i := (A 4 s).toNat) (by omega) (by omega); omega
    unfold mok
    simp only [v0, v1, v2, v3, v4, v5, v6, v7, w10]
    refine ⟨⟨by omega, by omega, by omega, by omega, by omega, h5, Or.inl trivial, by omega, fun _ => h2B, fun z => by omega, fun _ => by first | rfl | trivial⟩, fun z => by omega, fun z => by omega, fun z => by omega, fun z => by omega, fun _ => ⟨⟨s, b1⟩, by omega, r4, r5, s4.2.2.le (by omega)⟩⟩
  · rw [if_neg c]
    unfold md_appd
    have htm : md_termAt A s (A 17 (5 * s + to) - 1) = tm (gL g (A 2 s)) (A 17 (5 * s + to) - 1).toNat := hR.term (by omega) (by omega) (by omega)
    rw [htm]
    have ht0 : 0 ≤ tm (gL g (A 2 s)) (A 17 (5 * s + to) - 1).toNat := by
      by_cases hz : (A 17 (5 * s + to) - 1).toNat = 0
      · rw [hz]; exact Int.le_refl _
      · have := gl_pos H.1.2.1 s2 (i := (A 17 (5 * s + to) - 1).toNat) (by omega) (by omega); omega
    -- a common end
    have fin : ∀ (Bf : md_A) (cnt : Int), (∀ k, k ≠ 29 → Bf k = A k) → (∀ x : Int, 0 ≤ x → x < 9 → x ≠ 7 → Bf 29 x = if x = 8 then A 14 s else if x = 5 then tm (gL g (A 2 s)) (A 17 (5 * s + to) - 1).toNat else if x = 4 then A 17 (5 * s + to) - 1 else if x = 3 then A 2 s else if x = 2 then (to : Int) else if x = 1 then (s : Int) else if x = 0 then 4 else 0) → Bf 29 7 = cnt → (0 ≤ cnt ∧ cnt ≤ 2 ∧ A 17 (5 * s + to) - 1 + cnt ≤ ((gL g (A 2 s)).length : Int)) → (∀ k : Nat, (k : Int) < cnt → (gL g (A 2 s))[(A 17 (5 * s + to) - 1).toNat + k]? = some (Bf 29 (10 + 4 * k), Bf 29 (10 + 4 * k + 1), Bf 29 (10 + 4 * k + 2), Bf 29 (10 + 4 * k + 3))) → Iv c0 B (md_post Bf) g := by
      intro Bf cnt ek w w7 hcnt hen
      refine (H.f29 ek).post (by rw [ek 27 (by decide)]; exact h27) ?_
      have v0 := w 0 (by decide) (by decide) (by decide)
      have v1 := w 1 (by decide) (by decide) (by decide)
      have v2 := w 2 (by decide) (by decide) (by decide)
      have v3 := w 3 (by decide) (by decide) (by decide)
      have v4 := w 4 (by decide) (by decide) (by decide)
      have v5 : Bf 29 5 = tm (gL g (A 2 s)) (A 17 (5 * s + to) - 1).toNat := w 5 (by decide) (by decide) (by decide)
      have v6 := w 6 (by decide) (by decide) (by decide)
      have v8 := w 8 (by decide) (by decide) (by decide)
      simp at v0 v1 v2 v3 v4 v6 v8
      unfold mok
      simp only [v0, v1, v2, v3, v4, v5, v6, v8, w7]
      refine ⟨⟨by omega, by omega, by omega, by omega, by omega, ht0, Or.inl trivial, by omega, fun _ => h2B, fun z => by omega, fun z => by first | exact absurd rfl z | exact absurd trivial z | omega⟩, fun z => by omega, fun z => by omega, fun _ => ⟨⟨s, b1⟩, hcnt.2.2, trivial, hen, by omega, by omega, s4.2.2⟩, fun z => by omega, fun z => by omega⟩
    have w0 : ∀ x : Int, 0 ≤ x → x < 9 → x ≠ 7 → (md_u (md_u (md_hd A s to 4) 29 4 (A 17 (5 * s + to) - 1)) 29 5 (tm (gL g (A 2 s)) (A 17 (5 * s + to) - 1).toNat)) 29 x = if x = 8 then A 14 s else if x = 5 then tm (gL g (A 2 s)) (A 17 (5 * s + to) - 1).toNat else if x = 4 then A 17 (5 * s + to) - 1 else if x = 3 then A 2 s else if x = 2 then (to : Int) else if x = 1 then (s : Int) else if x = 0 then 4 else 0 := fun x x0 x9 x7 => by
      by_cases e8 : x = 8
      · subst e8; rw [md_ui (by decide), md_ui (by decide), h8w]; rfl
      · rw [if_neg e8]
        by_cases e5 : x = 5
        · subst e5; rw [md_us]; rfl
        · rw [md_ui e5, if_neg e5]
          by_cases e4 : x = 4
          · subst e4; rw [md_us]; rfl
          · rw [md_ui e4, if_neg e4, hd29 4 x x0 (by omega)]
    have w7 : (md_u (md_u (md_hd A s to 4) 29 4 (A 17 (5 * s + to) - 1)) 29 5 (tm (gL g (A 2 s)) (A 17 (5 * s + to) - 1).toNat)) 29 7 = 0 := by
      rw [md_ui (by decide), md_ui (by decide), hd29 4 7 (by decide) (by decide)]; rfl
    have k0 : ∀ k, k ≠ 29 → (md_u (md_u (md_hd A s to 4) 29 4 (A 17 (5 * s + to) - 1)) 29 5 (tm (gL g (A 2 s)) (A 17 (5 * s + to) - 1).toNat)) k = A k := fun k hk => by
      funext x
      rw [md_uk hk, md_uk hk, hdk 4 k hk]
    generalize md_u (md_u (md_hd A s to 4) 29 4 (A 17 (5 * s + to) - 1)) 29 5 (tm (gL g (A 2 s)) (A 17 (5 * s + to) - 1).toNat) = B0 at w0 w7 k0
    have p1 : ∀ (Bf : md_A) (i cc : Int), (0 ≤ cc ∧ cc ≤ 1) → (∀ k, k ≠ 29 → md_put1 A Bf s i cc k = Bf k) ∧ (∀ x : Int, 0 ≤ x → x < 9 → x ≠ 7 → md_put1 A Bf s i cc 29 x = Bf 29 x) ∧ md_put1 A Bf s i cc 29 7 = cc + 1 ∧ (md_put1 A Bf s i cc 29 (10 + 4 * cc) = A 9 (md_cell A s i) ∧ md_put1 A Bf s i cc 29 (10 + 4 * cc + 1) = A 10 (md_cell A s i) ∧ md_put1 A Bf s i cc 29 (10 + 4 * cc + 2) = A 11 (md_cell A s i) ∧ md_put1 A Bf s i cc 29 (10 + 4 * cc + 3) = A 12 (md_cell A s i)) ∧ (∀ x : Int, 10 ≤ x → x < 10 + 4 * cc → md_put1 A Bf s i cc 29 x = Bf 29 x) := fun Bf i cc hcc => by
      unfold md_put1
      refine ⟨fun k hk => ?_, fun x x0 x9 x7 => ?_, md_us, ⟨?_, ?_, ?_, ?_⟩, fun x x0 x1 => ?_⟩
      · funext x
        rw [md_uk hk, md_uk hk, md_uk hk, md_uk hk, md_uk hk]
      · rw [md_ui x7, md_ui (by omega), md_ui (by omega), md_ui (by omega), md_ui (by omega)]
      · rw [md_ui (by omega), md_ui (by omega), md_ui (by omega), md_ui (by omega), md_us]
      · rw [md_ui (by omega), md_ui (by omega), md_ui (by omega), md_us]
      · rw [md_ui (by omega), md_ui (by omega), md_us]
      · rw [md_ui (by omega), md_us]
      · rw [md_ui (by omega), md_ui (by omega), md_ui (by omega), md_ui (by omega), md_ui (by omega)]
    have at1 := fun (i : Int) (h1 : A 4 s < i) (h2 : i ≤ ((gL g (A 2 s)).length : Int)) => hR.at h1 h2
    unfold md_ents
    rw [hla]
    by_cases d1 : ((gL g (A 2 s)).length : Int) < A 17 (5 * s + to)
    · rw [if_pos d1]
      exact fin B0 0 k0 w0 w7 (by omega) (fun k hk => by omega)
    · rw [if_neg d1]
      obtain ⟨q1, q2, q3, q4, -⟩ := p1 B0 (A 17 (5 * s + to)) 0 (by omega)
      have a1 := at1 (A 17 (5 * s + to)) (by omega) (by omega)
      by_cases d2 : ((gL g (A 2 s)).length : Int) < A 17 (5 * s + to) + 1
      · rw [if_pos d2]
        refine fin _ 1 (fun k hk => (q1 k hk).trans (k0 k hk)) (fun x x0 x9 x7 => (q2 x x0 x9 x7).trans (w0 x x0 x9 x7)) q3 (by omega) (fun k hk => ?_)
        have hk0 : k = 0 := by omega
        subst hk0
        rw [show (A 17 (5 * s + to) - 1).toNat + 0 = (A 17 (5 * s + to)).toNat - 1 by omega, a1, ← q4.1, ← q4.2.1, ← q4.2.2.1, ← q4.2.2.2]
        rfl
      · rw [if_neg d2]
        obtain ⟨t1, t2, t3, t4, t5⟩ := p1 (md_put1 A B0 s (A 17 (5 * s + to)) 0) (A 17 (5 * s + to) + 1) 1 (by omega)
        have a2 := at1 (A 17 (5 * s + to) + 1) (by omega) (by omega)
        refine fin _ 2 (fun k hk => (t1 k hk).trans ((q1 k hk).trans (k0 k hk))) (fun x x0 x9 x7 => (t2 x x0 x9 x7).trans ((q2 x x0 x9 x7).trans (w0 x x0 x9 x7))) t3 (by omega) (fun k hk => ?_)
        have hk01 : k = 0 ∨ k = 1 := by omega
        rcases hk01 with rfl | rfl
        · rw [t5 _ (by omega) (by omega), t5 _ (by omega) (by omega), t5 _ (by omega) (by omega), t5 _ (by omega) (by omega), show (A 17 (5 * s + to) - 1).toNat + 0 = (A 17 (5 * s + to)).toNat - 1 by omega, a1, ← q4.1, ← q4.2.1, ← q4.2.2.1, ← q4.2.2.2]
          rfl
        · rw [show (A 17 (5 * s + to) - 1).toNat + 1 = (A 17 (5 * s + to) + 1).toNat - 1 by omega, a2, ← t4.1, ← t4.2.1, ← t4.2.2.1, ← t4.2.2.2]
          rfl
end SF10
