/-! safety: messages that are sent; APPEND and INSTALL taken -/
section SF9
variable {c0 : Int} {g g' : Gh} {A A' : md_A} {B : Int} {s : Nat} {l : List En}
theorem md_begin_29 {kind fr to t x : Int} (h0 : 0 ≤ x) (h1 : x < 20) : md_begin A kind fr to t 29 x = if x = 3 then t else if x = 2 then to else if x = 1 then fr else if x = 0 then kind else 0 := by
  unfold md_begin md_u md_w
  by_cases e3 : x = 3
  · simp [e3]
  · by_cases e2 : x = 2
    · simp [e2]
    · by_cases e1 : x = 1
      · simp [e1]
      · by_cases e0 : x = 0
        · simp [e0]
        · simp [e3, e2, e1, e0, h0, h1]
theorem md_begin_no {kind fr to t : Int} {k : Nat} (h : k ≠ 29) : md_begin A kind fr to t k = A k := by
  funext x
  exact md_begin_k h
/-- messages of other kinds than APPEND and INSTALL -/
theorem mok_sm {w : Int → Int} {kind fr to t i lt0 y : Int} (h0 : w 0 = kind) (h1 : w 1 = fr) (h2 : w 2 = to) (h3 : w 3 = t) (h4 : w 4 = i) (h5 : w 5 = lt0) (h6 : w 6 = y) (h7 : w 7 = 0) (hk : kind = 0 ∨ kind = 1 ∨ kind = 2 ∨ kind = 3 ∨ kind = 5) (hf : 0 ≤ fr ∧ fr < 5) (hto : 0 ≤ to ∧ to < 5) (ht : 0 ≤ t ∧ t ≤ B + 1) (hi : 0 ≤ i ∧ i ≤ B) (hl : 0 ≤ lt0) (hy : y = 0 ∨ y = 1) (ht2 : 2 ≤ kind → t ≤ B) (ht1 : kind = 1 → y = 0 → t ≤ B)
    (m2 : kind = 2 → ∃ l, gC g t fr.toNat = some l ∧ i = (l.length : Int) ∧ lt0 = lt l) (m3 : kind = 3 → y = 1 → ∃ lg l, gV g t fr.toNat = some (to.toNat, lg) ∧ gC g t to.toNat = some l ∧ up lg l) (m5 : kind = 5 → y = 1 → i ≤ (ga g t fr.toNat : Int)) : mok c0 g B w := by
  unfold mok
  rw [h0, h1, h2, h3, h4, h5, h6, h7]
  have k1 : (0 ≤ kind ∧ kind ≤ 6) ∧ kind ≠ 4 ∧ kind ≠ 6 := by clear m2 m3 m5; omega
  exact ⟨⟨k1.1, hf, hto, ht, hi, hl, hy, ⟨by decide, by decide⟩, ht2, ht1, fun _ => rfl⟩, m2, m3, fun z => absurd z k1.2.1, m5, fun z => absurd z k1.2.2⟩
theorem Iv.f29 (H : Iv c0 B A g) (h : ∀ k, k ≠ 29 → A' k = A k) : Iv c0 B A' g := H.f (fun k hk => h k (fun e => hk (by unfold md_no; omega)))
theorem Iv.result (H : Iv c0 B A g) (h27 : 0 ≤ A 27 0) (hB : 0 ≤ B) (hs : s < 5) {to : Nat} (hto : to < 5) {good i r : Int} (hi : 0 ≤ i ∧ i ≤ B) (hg : good ≠ 0 → i ≤ (ga g (A 2 s) s : Int)) : Iv c0 B (md_result A s to good i r) g := by
  have h2 := (H.2.2.1 s hs).1.2.2.1.1
  have h2B := H.2.2.2.2.1 s hs
  unfold md_result
  have e : ∀ k, k ≠ 29 → (md_u (md_u (md_u (md_begin A 5 s to (A 2 s)) 29 4 i) 29 6 (if good = 0 then 0 else 1)) 29 9 r) k = A k := fun k hk => by
    funext x
    rw [md_uk hk, md_uk hk, md_uk hk, md_begin_k hk]
  have w : ∀ x : Int, 0 ≤ x → x < 9 → (md_u (md_u (md_u (md_begin A 5 s to (A 2 s)) 29 4 i) 29 6 (if good = 0 then 0 else 1)) 29 9 r) 29 x = if x = 6 then (if good = 0 then 0 else 1) else if x = 4 then i else if x = 3 then A 2 s else if x = 2 then (to : Int) else if x = 1 then (s : Int) else if x = 0 then 5 else 0 := fun x x0 x9 => by
    rw [md_ui (by omega)]
    by_cases e6 : x = 6
    · subst e6; rw [md_us]; rfl
    · rw [md_ui e6, if_neg e6]
      by_cases e4 : x = 4
      · subst e4; rw [md_us]; rfl
      · rw [md_ui e4, if_neg e4, md_begin_29 x0 (by omega)]
  refine (H.f29 e).post (by rw [e 27 (by decide)]; exact h27) (mok_sm (w 0 (by decide) (by decide)) (w 1 (by decide) (by decide)) (w 2 (by decide) (by decide)) (w 3 (by decide) (by decide)) (w 4 (by decide) (by decide)) (w 5 (by decide) (by decide)) (w 6 (by decide) (by decide)) (w 7 (by decide) (by decide)) (by simp) (by simp; omega) (by simp; omega) (by simp; omega) (by simpa using hi) (by simp) ?_ (by simp; exact h2B) (by simp) (by simp) (by simp) ?_)
  · by_cases hz : good = 0
    · simp [hz]
    · simp [hz]
  · intro _ hy
    by_cases hz : good = 0
    · simp [hz] at hy
    · simpa using hg hz
theorem Iv.reply (H : Iv c0 B A g) (h27 : 0 ≤ A 27 0) (hB : 0 ≤ B) (hs : s < 5) {to : Nat} (hto : to < 5) {kind good t : Int} (hk : kind = 1 ∨ kind = 3) (ht : 0 ≤ t ∧ t ≤ B + 1) (ht2 : kind = 3 → t ≤ B) (ht1 : kind = 1 → good = 0 → t ≤ B) (m3 : kind = 3 → good ≠ 0 → ∃ lg l, gV g t s = some (to, lg) ∧ gC g t to = some l ∧ up lg l) : Iv c0 B (md_reply A kind s to good t) g := by
  unfold md_reply
  have e : ∀ k, k ≠ 29 → (md_u (md_begin A kind s to t) 29 6 (if good = 0 then 0 else 1)) k = A k := fun k hk => by
    funext x
    rw [md_uk hk, md_begin_k hk]
  have w : ∀ x : Int, 0 ≤ x → x < 9 → (md_u (md_begin A kind s to t) 29 6 (if good = 0 then 0 else 1)) 29 x = if x = 6 then (if good = 0 then 0 else 1) else if x = 3 then t else if x = 2 then (to : Int) else if x = 1 then (s : Int) else if x = 0 then kind else 0 := fun x x0 x9 => by
    by_cases e6 : x = 6
    · subst e6; rw [md_us]; rfl
    · rw [md_ui e6, if_neg e6, md_begin_29 x0 (by omega)]
  have hgd : ∀ z : Int, (if good = 0 then (0 : Int) else 1) = z → (z = 0 → good = 0) ∧ (z = 1 → good ≠ 0) := fun z hz => by
    by_cases h9 : good = 0
    · rw [if_pos h9] at hz; exact ⟨fun _ => h9, fun h => by omega⟩
    · rw [if_neg h9] at hz; exact ⟨fun h => by omega, fun _ => h9⟩
  refine (H.f29 e).post (by rw [e 27 (by decide)]; exact h27) (mok_sm (w 0 (by decide) (by decide)) (w 1 (by decide) (by decide)) (w 2 (by decide) (by decide)) (w 3 (by decide) (by decide)) (w 4 (by decide) (by decide)) (w 5 (by decide) (by decide)) (w 6 (by decide) (by decide)) (w 7 (by decide) (by decide)) (by simp; omega) (by simp; omega) (by simp; omega) (by simpa using ht) (by simp; exact hB) (by simp) ?_ ?_ ?_ ?_ ?_ ?_)
  · by_cases hz : good = 0
    · simp [hz]
    · simp [hz]
  · intro h; simp at h ⊢; exact ht2 (by omega)
  · intro h hy; simp at h; exact ht1 h ((hgd _ rfl).1 hy)
  · intro h; simp at h; omega
  · intro h hy
    simp at h
    have := m3 h ((hgd _ rfl).2 hy)
    simpa using this
  · intro h; simp at h; omega
theorem Iv.ask (hs : s < 5) {kind t : Int} (hB : 0 ≤ B) (hk : kind = 0 ∨ kind = 2) (ht : 0 ≤ t ∧ t ≤ B + 1) (ht2 : kind = 2 → t ≤ B) : ∀ n : Nat, n ≤ 5 → Iv c0 B A g → md_ww A → md_B A s → (kind = 2 → gC g t s = some (gG g s)) → Iv c0 B (md_ask A s kind t n) g ∧ 0 ≤ md_ask A s kind t n 27 0
  | 0, _, H, hw, _, _ => ⟨H, hw.2.1⟩
  | n + 1, hn, H, hw, hb, hC => by
    obtain ⟨ih, i27⟩ := Iv.ask hs hB hk ht ht2 n (by omega) H hw hb hC
    unfold md_ask
    by_cases c : (n : Int) = s ∨ bit (md_config A s) n = 0
    · rw [if_pos c]; exact ⟨ih, i27⟩
    · rw [if_neg c]
      have hR := (H.2.2.1 s hs).1.1
      have hgl := (H.2.2.1 s hs).1.2.1
      have hlast : md_last A s = ((gG g s).length : Int) := hR.last
      have hterm : md_termAt A s (md_last A s) = lt (gG g s) := by
        rw [hR.term (by omega) (by rw [hlast]; have := hR.2.2.1; have := hR.2.1; omega) (by rw [hlast]; exact Int.le_refl _), hlast, Int.toNat_natCast]
        rfl
      have hlen := H.len hgl hB
      have hlt0 : 0 ≤ lt (gG g s) := by
        by_cases hz : (gG g s).length = 0
        · rw [gl_lt0 hz]; exact Int.le_refl _
        · have := gl_pos H.1.2.1 hgl (i := (gG g s).length) (by omega) (Nat.le_refl _)
          unfold lt; omega
      rw [hterm, hlast]
      have e : ∀ k, k ≠ 29 → (md_u (md_u (md_begin (md_ask A s kind t n) kind s n t) 29 4 ((gG g s).length : Int)) 29 5 (lt (gG g s))) k = md_ask A s kind t n k := fun k hk => by
        funext x
        rw [md_uk hk, md_uk hk, md_begin_k hk]
      have w : ∀ x : Int, 0 ≤ x → x < 9 → (md_u (md_u (md_begin (md_ask A s kind t n) kind s n t) 29 4 ((gG g s).length : Int)) 29 5 (lt (gG g s))) 29 x = if x = 5 then lt (gG g s) else if x = 4 then ((gG g s).length : Int) else if x = 3 then t else if x = 2 then (n : Int) else if x = 1 then (s : Int) else if x = 0 then kind else 0 := fun x x0 x9 => by
        by_cases e5 : x = 5
        · subst e5; rw [md_us]; rfl
        · rw [md_ui e5, if_neg e5]
          by_cases e4 : x = 4
          · subst e4; rw [md_us]; rfl
          · rw [md_ui e4, if_neg e4, md_begin_29 x0 (by omega)]
      refine ⟨(ih.f29 e).post (by rw [e 27 (by decide)]; exact i27) (mok_sm (w 0 (by decide) (by decide)) (w 1 (by decide) (by decide)) (w 2 (by decide) (by decide)) (w 3 (by decide) (by decide)) (w 4 (by decide) (by decide)) (w 5 (by decide) (by decide)) (w 6 (by decide) (by decide)) (w 7 (by decide) (by decide)) (by simp; omega) (by simp; omega) (by simp; omega) (by simpa using ht) (by simp; omega) (by simpa using hlt0) (by simp) ?_ ?_ ?_ ?_ ?_), ?_⟩
      · intro h; simp at h ⊢; exact ht2 (by omega)
      · intro h; simp at h; omega
      · intro h; simp at h
        exact ⟨gG g s, by simpa using hC h, by simp, by simp⟩
      · intro h; simp at h; omega
      · intro h; simp at h; omega
      · unfold md_post
        split
        · rw [e 27 (by decide)]; exact i27
        · rw [md_us, e 27 (by decide)]; omega
theorem inL_eq (W : Ws c0 g) {T : Int} {c : Nat} (hc : gw g T = some c) (hgl : gl g l) {p : Nat} (hp : p ≤ l.length) (hpL : p ≤ (gL g T).length) (ht : tm l p = tm (gL g T) p) : l.take p = (gL g T).take p := by
  by_cases h0 : p = 0
  · subst h0; rfl
  · obtain ⟨-, -, -, -, -, w6, -⟩ := W.2.1 T c hc
    obtain ⟨-, g1⟩ := hgl p (by omega) hp
    obtain ⟨-, g2⟩ := w6 p (by omega) hpL
    rw [ht] at g1
    have e1 := pre_eq g1
    have e2 := pre_eq g2
    rw [len_take hp] at e1
    rw [len_take hpL] at e2
    rw [e1, e2]
/-- all entries of a message -/
theorem tks_step (W : Ws c0 g) {T : Int} {c : Nat} (hc : gw g T = some c) {s bf m : Int} (hs : 0 ≤ s) (hR : lgR c0 A s l) (h8 : A 8 s ≤ 48) (hgl : gl g l) (hlt : lt l ≤ T) (h0 : 0 ≤ bf) (hi : bf ≤ (l.length : Int)) (hm : l.take bf.toNat = (gL g T).take bf.toNat) (hm2 : 0 ≤ m ∧ m ≤ 2) (hL : bf + m ≤ ((gL g T).length : Int)) (hen : ∀ k : Nat, (k : Int) < m → (gL g T)[bf.toNat + k]? = some (A 29 (10 + 4 * k), A 29 (10 + 4 * k + 1), A 29 (10 + 4 * k + 2), A 29 (10 + 4 * k + 3))) (hb : l.take (A 4 s).toNat <+: gL g T) :
    ∃ l1, lgR c0 (md_tks A s bf m).1 s l1 ∧ (md_tks A s bf m).1 8 s ≤ 48 ∧ gl g l1 ∧ lt l1 ≤ T ∧ (∀ X, X <+: l → X <+: gL g T → X <+: l1) ∧ l1.take ((md_tks A s bf m).2).toNat = (gL g T).take ((md_tks A s bf m).2).toNat ∧ (md_tks A s bf m).2 ≤ (l1.length : Int) ∧ (bf ≤ (md_tks A s bf m).2 ∧ (md_tks A s bf m).2 ≤ bf + m) ∧ lgo A (md_tks A s bf m).1 s := by
  unfold md_tks
  by_cases c1 : m ≤ 0
  · rw [if_pos c1]
    exact ⟨l, hR, h8, hgl, hlt, fun X h _ => h, hm, hi, ⟨Int.le_refl _, by omega⟩, lgo.rf A s⟩
  · rw [if_neg c1]
    have en0 := hen 0 (by omega)
    obtain ⟨l1, q1, q2, q3, q4, q5, q6, q7, q8, q9⟩ := tk_step W hc (i := bf + 1) (p := 10) hs hR h8 hgl hlt (by omega) (by omega) (by rw [show (bf + 1 - 1).toNat = bf.toNat by omega]; exact hm) (by rw [show (bf + 1 - 1).toNat = bf.toNat + 0 by omega]; exact en0) hb
    rw [show (bf + 1 - 1).toNat = bf.toNat by omega] at q6
    by_cases c2 : md_tkR A s (bf + 1) 10 = 0
    · rw [if_pos c2]
      exact ⟨l1, q1, q2, q3, q4, q5, q6, by show bf ≤ _; omega, ⟨Int.le_refl _, by show bf ≤ bf + m; omega⟩, q9⟩
    · rw [if_neg c2]
      have hr1 := (md_tkR_01 A s (bf + 1) 10).resolve_left c2
      obtain ⟨q10, q11⟩ := q8 hr1
      by_cases c3 : m ≤ 1
      · rw [if_pos c3]
        exact ⟨l1, q1, q2, q3, q4, q5, q10, q11, ⟨by show bf ≤ bf + 1; omega, by show bf + 1 ≤ bf + m; omega⟩, q9⟩
      · rw [if_neg c3]
        have e29 : ∀ x, md_tk A s (bf + 1) 10 29 x = A 29 x := fun x => md_tk_k (by omega)
        have e4 : md_tk A s (bf + 1) 10 4 s = A 4 s := md_tk_k (by omega)
        have en1 := hen 1 (by omega)
        have hb1 : l1.take (md_tk A s (bf + 1) 10 4 s).toNat <+: gL g T := by
          rw [e4]
          have hx := q5 _ (List.take_prefix _ _) hb
          have hl4 : (l.take (A 4 s).toNat).length = (A 4 s).toNat := len_take (by have := hR.2.2.1; have := hR.2.1; have := hR.1; omega)
          have := pre_eq hx
          rw [hl4] at this
          rw [← this]
          exact hb
        obtain ⟨l2, p1, p2, p3, p4, p5, p6, p7, p8, p9⟩ := tk_step (A := md_tk A s (bf + 1) 10) W hc (i := bf + 1 + 1) (p := 14) hs q1 q2 q3 q4 (by omega) (by omega) (by rw [show (bf + 1 + 1 - 1).toNat = (bf + 1).toNat by omega]; exact q10) (by
          rw [show (bf + 1 + 1 - 1).toNat = bf.toNat + 1 by omega, e29, e29, e29, e29]
          exact en1) hb1
        rw [show (bf + 1 + 1 - 1).toNat = (bf + 1).toNat by omega] at p6
        have hX : ∀ X, X <+: l → X <+: gL g T → X <+: l2 := fun X x1 x2 => p5 X (q5 X x1 x2) x2
        by_cases c4 : md_tkR (md_tk A s (bf + 1) 10) s (bf + 1 + 1) 14 = 0
        · rw [if_pos c4]
          exact ⟨l2, p1, p2, p3, p4, hX, p6, by show bf + 1 ≤ _; omega, ⟨by show bf ≤ bf + 1; omega, by show bf + 1 ≤ bf + m; omega⟩, q9.tr p9⟩
        · rw [if_neg c4]
          have hr2 := (md_tkR_01 (md_tk A s (bf + 1) 10) s (bf + 1 + 1) 14).resolve_left c4
          obtain ⟨p10, p11⟩ := p8 hr2
          exact ⟨l2, p1, p2, p3, p4, hX, p10, p11, ⟨by show bf ≤ bf + 1 + 1; omega, by show bf + 1 + 1 ≤ bf + m; omega⟩, q9.tr p9⟩
/-- what is decided here lies in the leader's log -/
theorem Iv.dec (H : Iv c0 B A g) (hs : s < 5) {c : Nat} (hc : gw g (A 2 s) = some c) : (gG g s).take (A 14 s).toNat <+: gL g (A 2 s) := by
  obtain ⟨⟨s1, s2, s3, s4, -⟩, -⟩ := H.2.2.1 s hs
  have := s1.1
  exact s4.2.2.inL H.1 (by omega) hc
/-- an APPEND taken -/
theorem Iv.append (H : Iv c0 B A g) (hs : s < 5) (h13 : A 13 s ≠ 2 ∧ A 13 s ≠ 3) (hm : mok c0 g B (fun x => A 29 x)) (hk : A 29 0 = 4) (hT : A 29 3 = A 2 s) (hx : ¬ (md_last A s < A 29 4 ∨ (A 4 s ≤ A 29 4 ∧ ¬ md_termAt A s (A 29 4) = A 29 5))) :
    ∃ g', gle g g' ∧ Iv c0 B (md_appT A s) g' ∧ (0 ≤ (md_tks A s (A 29 4) (A 29 7)).2 ∧ (md_tks A s (A 29 4) (A 29 7)).2 ≤ (ga g' (A 2 s) s : Int)) := by
  obtain ⟨⟨s1, s2, s3, s4, s5⟩, s8⟩ := H.2.2.1 s hs
  obtain ⟨m1, -, -, m4, -, -⟩ := hm
  obtain ⟨⟨c, a0⟩, a1, a2, a3, a4, a5, a6⟩ := m4 hk
  simp only [hT] at a0 a1 a2 a3 a5 a6
  have hdec := H.dec hs a0
  have hR := s1
  obtain ⟨r1, r2, r3, -⟩ := s1
  have hla : md_last A s = ((gG g s).length : Int) := hR.last
  have m14 : 0 ≤ A 29 4 ∧ A 29 4 ≤ B := m1.2.2.2.2.1
  have m17 : 0 ≤ A 29 7 ∧ A 29 7 ≤ 2 := m1.2.2.2.2.2.2.2.1
  have hpl : A 29 4 ≤ ((gG g s).length : Int) := by omega
  have hpm : (gG g s).take (A 29 4).toNat = (gL g (A 2 s)).take (A 29 4).toNat := by
    by_cases h4 : A 4 s ≤ A 29 4
    · have ht : md_termAt A s (A 29 4) = A 29 5 := by
        apply Decidable.by_contra
        intro z
        exact hx (Or.inr ⟨h4, z⟩)
      rw [hR.term (by omega) h4 hpl, a2] at ht
      exact inL_eq H.1 a0 s2 (by omega) (by omega) ht
    · have := take_pre hdec (i := (A 29 4).toNat) (by rw [len_take (by omega)]; omega)
      rw [this, List.take_take, Nat.min_eq_left (by omega)]
  have hb : (gG g s).take (A 4 s).toNat <+: gL g (A 2 s) := (pre_take (by omega)).trans hdec
  obtain ⟨l1, q1, q2, q3, q4, q5, q6, q7, q8, q9⟩ := tks_step H.1 a0 (bf := A 29 4) (m := A 29 7) (by omega) hR s8 s2 s3.2 m14.1 hpl hpm m17 a1 a3 hb
  have e14 : (md_tks A s (A 29 4) (A 29 7)).1 14 s = A 14 s := md_tks_k (by omega)
  have e4 : (md_tks A s (A 29 4) (A 29 7)).1 4 s = A 4 s := md_tks_k (by omega)
  have hX := q5 _ (List.take_prefix _ _) hdec
  have hl14 : ((gG g s).take (A 14 s).toNat).length = (A 14 s).toNat := len_take (by omega)
  have hX2 := pre_eq hX
  rw [hl14] at hX2
  have hlX := hX.length_le
  rw [hl14] at hlX
  have u14 : md_appT A s 14 s = md_max (md_min (A 29 8) (md_tks A s (A 29 4) (A 29 7)).2) (A 14 s) := md_us
  have uo : ∀ (k : Nat) (x : Int), ¬ (k = 14 ∧ x = s) → md_appT A s k x = (md_tks A s (A 29 4) (A 29 7)).1 k x := fun k x hk => by
    unfold md_appT md_u
    rw [if_neg hk]
  have hlgo : lgo A (md_appT A s) s := fun k x b1 b2 b3 => (uo k x (by omega)).trans (q9 k x b1 b2 b3)
  have hR1 : lgR c0 (md_appT A s) s l1 := q1.cg (fun k hk => uo k _ (by omega)) (fun k k1 k2 i _ _ => uo k _ (by omega))
  have ukL : (md_tks A s (A 29 4) (A 29 7)).2.toNat ≤ (gL g (A 2 s)).length := by omega
  obtain ⟨g', d1, d2, d3⟩ := H.log hs a0 h13 hlgo (by rw [uo 8 _ (by omega)]; exact q2) (k := (md_tks A s (A 29 4) (A 29 7)).2.toNat) ukL hR1 q3 q4 (by
      rw [u14, uo 4 _ (by omega), e4]
      unfold md_max md_min
      constructor <;> (repeat' split) <;> omega) (by
      rw [u14]
      have hold : cmt g (A 2 s) l1 (A 14 s).toNat := s4.2.2.on hX2.symm
      have hnew : ∀ k : Int, 0 ≤ k → k ≤ A 29 8 → k ≤ (md_tks A s (A 29 4) (A 29 7)).2 → cmt g (A 2 s) l1 k.toNat := fun k k0 k1 k2 => by
        refine (a6.le (k' := k.toNat) (by omega)).on ?_
        have := congrArg (List.take k.toNat) q6
        rw [List.take_take, List.take_take, Nat.min_eq_left (by omega)] at this
        exact this
      have hmin : 0 ≤ md_min (A 29 8) (md_tks A s (A 29 4) (A 29 7)).2 ∧ md_min (A 29 8) (md_tks A s (A 29 4) (A 29 7)).2 ≤ A 29 8 ∧ md_min (A 29 8) (md_tks A s (A 29 4) (A 29 7)).2 ≤ (md_tks A s (A 29 4) (A 29 7)).2 := by
        have a4' : 0 ≤ A 29 8 := a4
        have q8' := q8.1
        unfold md_min
        split
        · rename_i hh; exact ⟨a4', Int.le_refl _, Int.le_of_lt hh⟩
        · rename_i hh; exact ⟨by omega, by omega, Int.le_refl _⟩
      unfold md_max
      split
      · exact hnew _ hmin.1 hmin.2.1 hmin.2.2
      · exact hold) q5 (by rw [← q6]; exact List.take_prefix _ _)
  exact ⟨g', d1, d2, by omega, by omega⟩
end SF9
