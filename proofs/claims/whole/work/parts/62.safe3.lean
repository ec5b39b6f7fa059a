/-! safety: what holds of each server and message, and how it lasts -/
def lgR (c0 : Int) (A : md_A) (s : Int) (l : List En) : Prop := 0 ≤ A 4 s ∧ 0 ≤ A 8 s ∧ (l.length : Int) = A 4 s + A 8 s ∧ A 5 s = tm l (A 4 s).toNat ∧ A 6 s = cfg c0 (l.take (A 4 s).toNat) ∧ ∀ i : Nat, (i : Int) < A 8 s → l[(A 4 s).toNat + i]? = some (A 9 (48 * s + i), A 10 (48 * s + i), A 11 (48 * s + i), A 12 (48 * s + i))
def akp (g : Gh) (T : Int) (v : Nat) (l : List En) : Prop := ∀ t, t ≤ T → ∀ j, j ≤ ga g t v → (∀ T2 c, t < T2 → T2 ≤ T → gw g T2 = some c → (gL g t).take j <+: gE g T2) → (gL g t).take j <+: l
/-- the first k of l are decided, by terms up to T -/
def cmt (g : Gh) (T : Int) (l : List En) (k : Nat) : Prop := k = 0 ∨ ∃ t n j, gv g t n j ∧ t ≤ T ∧ k ≤ j ∧ l.take k = (gL g t).take k
def w_K (g : Gh) : Prop := (∀ t v, ga g t v ≤ (gL g t).length) ∧ ∀ t, gw g t = none → gL g t = []
def sv_V (A : md_A) (g : Gh) (s : Nat) : Prop := ∀ T c lg, gV g T s = some (c, lg) → T ≤ A 2 s ∧ (T = A 2 s → A 3 s = c) ∧ gl g lg ∧ kpE g T s lg ∧ ∃ l, gC g T c = some l ∧ up lg l
def sv_3 (A : md_A) (g : Gh) (s : Nat) : Prop := A 13 s = 3 → gw g (A 2 s) = some s ∧ gG g s = gL g (A 2 s) ∧ (A 14 s ≤ ge g (A 2 s) ∨ ∃ n, gv g (A 2 s) n (A 14 s).toNat) ∧ (∀ v : Nat, v < 5 → v ≠ s → A 18 (5 * s + v) ≤ ga g (A 2 s) v) ∧ ga g (A 2 s) s = (gL g (A 2 s)).length
def sv_2 (A : md_A) (g : Gh) (s : Nat) : Prop := A 13 s = 2 → gC g (A 2 s) s = some (gG g s) ∧ lt (gG g s) < A 2 s ∧ ∀ v : Nat, v < 5 → bit (A 16 s) v = 1 → ∃ lg, gV g (A 2 s) v = some (s, lg) ∧ up lg (gG g s)
def Sv (c0 : Int) (A : md_A) (g : Gh) (s : Nat) : Prop :=
  lgR c0 A s (gG g s) ∧ gl g (gG g s) ∧ (0 ≤ A 2 s ∧ lt (gG g s) ≤ A 2 s) ∧ (A 4 s ≤ A 14 s ∧ A 14 s ≤ ((gG g s).length : Int) ∧ cmt g (A 2 s) (gG g s) (A 14 s).toNat) ∧ akp g (A 2 s) s (gG g s)
  ∧ (∀ t, 0 < ga g t s → t ≤ A 2 s) ∧ sv_V A g s ∧ (∀ T l, gC g T s = some l → T ≤ A 2 s) ∧ sv_3 A g s ∧ sv_2 A g s ∧ ∀ T, gw g T = some s → T ≤ A 2 s ∧ (T = A 2 s → A 13 s ≠ 2)
def mok (c0 : Int) (g : Gh) (B : Int) (w : Int → Int) : Prop :=
  ((0 ≤ w 0 ∧ w 0 ≤ 6) ∧ (0 ≤ w 1 ∧ w 1 < 5) ∧ (0 ≤ w 2 ∧ w 2 < 5) ∧ (0 ≤ w 3 ∧ w 3 ≤ B + 1) ∧ (0 ≤ w 4 ∧ w 4 ≤ B) ∧ 0 ≤ w 5 ∧ (w 6 = 0 ∨ w 6 = 1) ∧ (0 ≤ w 7 ∧ w 7 ≤ 2) ∧ (2 ≤ w 0 → w 3 ≤ B) ∧ (w 0 = 1 → w 6 = 0 → w 3 ≤ B) ∧ (w 0 ≠ 4 → w 7 = 0))
  ∧ (w 0 = 2 → ∃ l, gC g (w 3) (w 1).toNat = some l ∧ w 4 = (l.length : Int) ∧ w 5 = lt l)
  ∧ (w 0 = 3 → w 6 = 1 → ∃ lg l, gV g (w 3) (w 1).toNat = some ((w 2).toNat, lg) ∧ gC g (w 3) (w 2).toNat = some l ∧ up lg l)
  ∧ (w 0 = 4 → (∃ c, gw g (w 3) = some c) ∧ w 4 + w 7 ≤ ((gL g (w 3)).length : Int) ∧ w 5 = tm (gL g (w 3)) (w 4).toNat ∧ (∀ k : Nat, (k : Int) < w 7 → (gL g (w 3))[(w 4).toNat + k]? = some (w (10 + 4 * k), w (10 + 4 * k + 1), w (10 + 4 * k + 2), w (10 + 4 * k + 3))) ∧ 0 ≤ w 8 ∧ w 8 ≤ ((gL g (w 3)).length : Int) ∧ cmt g (w 3) (gL g (w 3)) (w 8).toNat)
  ∧ (w 0 = 5 → w 6 = 1 → w 4 ≤ (ga g (w 3) (w 1).toNat : Int))
  ∧ (w 0 = 6 → (∃ c, gw g (w 3) = some c) ∧ w 4 ≤ ((gL g (w 3)).length : Int) ∧ w 5 = tm (gL g (w 3)) (w 4).toNat ∧ w 10 = cfg c0 ((gL g (w 3)).take (w 4).toNat) ∧ cmt g (w 3) (gL g (w 3)) (w 4).toNat)
def Ms (c0 : Int) (A : md_A) (g : Gh) (B : Int) : Prop := ∀ k : Nat, (k : Int) < A 27 0 → mok c0 g B (fun x => A 28 (20 * k + x))
def Bd (A : md_A) (g : Gh) (B : Int) : Prop := (∀ s : Nat, s < 5 → A 2 s ≤ B) ∧ (∀ t c, gw g t = some c → ((gL g t).length : Int) ≤ B) ∧ (∀ x, 0 ≤ A 17 x ∧ A 17 x ≤ B + 1) ∧ (∀ x, 0 ≤ A 18 x ∧ A 18 x ≤ B) ∧ ∀ x, 0 ≤ A 20 x ∧ A 20 x ≤ B
def gle (g g' : Gh) : Prop := (∀ t, gL g t <+: gL g' t) ∧ (∀ t c, gw g t = some c → gw g' t = some c ∧ ge g' t = ge g t) ∧ (∀ T v x, gV g T v = some x → gV g' T v = some x) ∧ (∀ t v, ga g t v ≤ ga g' t v) ∧ (∀ t n j, gv g t n j → gv g' t n j) ∧ ∀ T c l, gC g T c = some l → gC g' T c = some l
section SF3
variable {c0 : Int} {g g' : Gh} {A A' : md_A} {B : Int} {l : List En} {T : Int}
theorem gle.gl (h : gle g g') (hl : gl g l) : gl g' l := fun i h1 h2 => by
  obtain ⟨⟨c, hc⟩, hp⟩ := hl i h1 h2
  exact ⟨⟨c, (h.2.1 _ c hc).1⟩, hp.trans (h.1 _)⟩
theorem gle.E (h : gle g g') (hw : w_L c0 g) {t : Int} {c : Nat} (hc : gw g t = some c) : gE g' t = gE g t := by
  unfold gE
  rw [(h.2.1 t c hc).2, take_pre (h.1 t) (hw t c hc).2.2.1]
theorem gle.kp (h : gle g g') (hw : w_L c0 g) (hk : w_K g) {v : Nat} {t : Int} {j : Nat} (hj : j ≤ ga g t v) : (gL g' t).take j = (gL g t).take j := take_pre (h.1 t) (Nat.le_trans hj (hk.1 t v))
theorem gle.kpE (h : gle g g') (hw : w_L c0 g) (hk : w_K g) {v : Nat} (hv : ∀ t, t < T → ga g' t v = ga g t v) (H : kpE g T v l) : kpE g' T v l := fun t ht j hj ha => by
  rw [hv t ht] at hj
  rw [h.kp hw hk hj]
  refine H t ht j hj (fun T2 c a1 a2 a3 => ?_)
  have := ha T2 c a1 a2 (h.2.1 T2 c a3).1
  rw [h.kp hw hk hj, h.E hw a3] at this
  exact this
theorem gle.kpL (h : gle g g') (hw : w_L c0 g) (hk : w_K g) {v : Nat} (hv : ∀ t, t < T → ga g' t v = ga g t v) (H : kpL g T v l) : kpL g' T v l := fun t ht j hj ha => by
  rw [hv t ht] at hj
  rw [h.kp hw hk hj]
  refine H t ht j hj (fun T2 c a1 a2 a3 => ?_)
  have := ha T2 c a1 a2 (h.2.1 T2 c a3).1
  rw [h.kp hw hk hj, h.E hw a3] at this
  exact this
theorem gle.akp (h : gle g g') (hw : w_L c0 g) (hk : w_K g) {v : Nat} (hv : ∀ t, ga g' t v = ga g t v) (H : akp g T v l) : akp g' T v l := fun t ht j hj ha => by
  rw [hv t] at hj
  rw [h.kp hw hk hj]
  refine H t ht j hj (fun T2 c a1 a2 a3 => ?_)
  have := ha T2 c a1 a2 (h.2.1 T2 c a3).1
  rw [h.kp hw hk hj, h.E hw a3] at this
  exact this
theorem gle.cmt (h : gle g g') (he : w_E c0 g) {k : Nat} (H : cmt g T l k) : cmt g' T l k := by
  rcases H with H | ⟨t, n, j, e, h1, h2, h3⟩
  · exact Or.inl H
  · have := he t n j e
    exact Or.inr ⟨t, n, j, h.2.2.2.2.1 t n j e, h1, h2, by rw [take_pre (h.1 t) (by omega)]; exact h3⟩
theorem cmt.le {k k' : Nat} (H : cmt g T l k) (h : k' ≤ k) : cmt g T l k' := by
  rcases H with H | ⟨t, n, j, e, h1, h2, h3⟩
  · exact Or.inl (by omega)
  · refine Or.inr ⟨t, n, j, e, h1, by omega, ?_⟩
    have := congrArg (List.take k') h3
    rw [List.take_take, List.take_take, Nat.min_eq_left h] at this
    exact this
theorem cmt.up {T' : Int} {k : Nat} (H : cmt g T l k) (h : T ≤ T') : cmt g T' l k := by
  rcases H with H | ⟨t, n, j, e, h1, h2, h3⟩
  · exact Or.inl H
  · exact Or.inr ⟨t, n, j, e, by omega, h2, h3⟩
theorem cmt.on {l' : List En} {k : Nat} (H : cmt g T l k) (h : l'.take k = l.take k) : cmt g T l' k := by
  rcases H with H | ⟨t, n, j, e, h1, h2, h3⟩
  · exact Or.inl H
  · exact Or.inr ⟨t, n, j, e, h1, h2, h.trans h3⟩
/-- what is decided lies in the log of every leader whose term is not lower -/
theorem cmt.inL (W : Ws c0 g) {k : Nat} (H : cmt g T l k) (hk : k ≤ l.length) {c : Nat} (hc : gw g T = some c) : l.take k <+: gL g T := by
  rcases H with H | ⟨t, n, j, e, h1, h2, h3⟩
  · subst H
    exact List.nil_prefix
  · rw [h3]
    by_cases ht : t = T
    · subst ht
      exact List.take_prefix _ _
    · have := sf_comp W hc (t := t) (by omega) e
      exact (pre_take h2).trans (this.trans (gE_pre g T))
theorem mok.mono (h : gle g g') (W : Ws c0 g) (hk : w_K g) {B B' : Int} (hB : B ≤ B') {w : Int → Int} (H : mok c0 g B w) : mok c0 g' B' w := by
  obtain ⟨⟨b0, b1, b2, b3, b4, b5, b6, b7, b8, b9, b10⟩, h2, h3, h4, h5, h6⟩ := H
  refine ⟨⟨b0, b1, b2, ⟨b3.1, by omega⟩, ⟨b4.1, by omega⟩, b5, b6, b7, fun z => by have := b8 z; omega, fun z1 z2 => by have := b9 z1 z2; omega, b10⟩, fun z => ?_, fun z1 z2 => ?_, fun z => ?_, fun z1 z2 => ?_, fun z => ?_⟩
  · obtain ⟨l, a1, a2, a3⟩ := h2 z
    exact ⟨l, h.2.2.2.2.2 _ _ _ a1, a2, a3⟩
  · obtain ⟨lg, l, a1, a2, a3⟩ := h3 z1 z2
    exact ⟨lg, l, h.2.2.1 _ _ _ a1, h.2.2.2.2.2 _ _ _ a2, a3⟩
  · obtain ⟨⟨c, a0⟩, a1, a2, a3, a4, a5, a6⟩ := h4 z
    have hl := (h.1 (w 3)).length_le
    refine ⟨⟨c, (h.2.1 _ c a0).1⟩, by omega, ?_, fun k hk => ?_, a4, by omega, ?_⟩
    · rw [a2, tm_pre (h.1 (w 3)) (by omega)]
    · rw [← a3 k hk]
      obtain ⟨r, hr⟩ := h.1 (w 3)
      rw [← hr, List.getElem?_append_left (by omega)]
    · exact (h.cmt W.2.2.2.1 a6).on (take_pre (h.1 (w 3)) (by omega))
  · have := h5 z1 z2
    have := h.2.2.2.1 (w 3) (w 1).toNat
    omega
  · obtain ⟨⟨c, a0⟩, a1, a2, a3, a4⟩ := h6 z
    have hl := (h.1 (w 3)).length_le
    refine ⟨⟨c, (h.2.1 _ c a0).1⟩, by omega, ?_, ?_, ?_⟩
    · rw [a2, tm_pre (h.1 (w 3)) (by omega)]
    · rw [a3, take_pre (h.1 (w 3)) (by omega)]
    · exact (h.cmt W.2.2.2.1 a4).on (take_pre (h.1 (w 3)) (by omega))
theorem lgR.cg {s : Int} (h : lgR c0 A s l) (e : ∀ k : Nat, (4 ≤ k ∧ k ≤ 6) ∨ k = 8 → A' k s = A k s) (e2 : ∀ k : Nat, 9 ≤ k → k ≤ 12 → ∀ i : Int, 0 ≤ i → i < A 8 s → A' k (48 * s + i) = A k (48 * s + i)) : lgR c0 A' s l := by
  obtain ⟨h1, h2, h3, h4, h5, h6⟩ := h
  unfold lgR
  rw [e 4 (by omega), e 5 (by omega), e 6 (by omega), e 8 (by omega)]
  refine ⟨h1, h2, h3, h4, h5, fun i hi => ?_⟩
  rw [e2 9 (by omega) (by omega) i (by omega) hi, e2 10 (by omega) (by omega) i (by omega) hi, e2 11 (by omega) (by omega) i (by omega) hi, e2 12 (by omega) (by omega) i (by omega) hi]
  exact h6 i hi
/-- a server's fields that count are the same -/
def svE (A A' : md_A) (s : Nat) : Prop := (∀ k : Nat, (2 ≤ k ∧ k ≤ 6) ∨ k = 8 ∨ k = 13 ∨ k = 14 ∨ k = 16 → A' k s = A k s) ∧ (∀ k : Nat, 9 ≤ k → k ≤ 12 → ∀ i : Int, 0 ≤ i → i < 48 → A' k (48 * s + i) = A k (48 * s + i)) ∧ ∀ v : Nat, v < 5 → A' 18 (5 * s + v) = A 18 (5 * s + v)
theorem svE.rf (A : md_A) (s : Nat) : svE A A s := ⟨fun _ _ => rfl, fun _ _ _ _ _ _ => rfl, fun _ _ => rfl⟩
theorem Sv.cg {s : Nat} (h : Sv c0 A g s) (h8 : A 8 s ≤ 48) (e : svE A A' s) : Sv c0 A' g s := by
  obtain ⟨e1, e2, e3⟩ := e
  obtain ⟨h1, h2, h3, h4, h5, h6, h7, h9, h10, h11, h12⟩ := h
  have r1 := h1.cg (A' := A') (fun k hk => e1 k (by omega)) (fun k k1 k2 i i0 i1 => e2 k k1 k2 i i0 (by omega))
  unfold Sv sv_V sv_3 sv_2
  rw [e1 2 (by omega), e1 3 (by omega), e1 4 (by omega), e1 13 (by omega), e1 14 (by omega), e1 16 (by omega)]
  refine ⟨r1, h2, h3, h4, h5, h6, h7, h9, fun z => ?_, h11, h12⟩
  obtain ⟨a1, a2, a3, a4, a5⟩ := h10 z
  exact ⟨a1, a2, a3, fun v hv hn => by rw [e3 v hv]; exact a4 v hv hn, a5⟩
/-- a server that is left alone -/
theorem Sv.mono {s : Nat} (h : gle g g') (W : Ws c0 g) (hk : w_K g) (H : Sv c0 A g s) (hG : gG g' s = gG g s) (ha : ∀ t, ga g' t s = ga g t s) (hV : ∀ T, gV g' T s = gV g T s) (hC : ∀ T, gC g' T s = gC g T s) (hL : ∀ t, gw g t = some s → gL g' t = gL g t) (hw : ∀ t, gw g' t = some s → gw g t = some s) : Sv c0 A g' s := by
  obtain ⟨h1, h2, h3, h4, h5, h6, h7, h9, h10, h11, h12⟩ := H
  unfold Sv
  rw [hG]
  refine ⟨h1, h.gl h2, h3, ⟨h4.1, h4.2.1, h.cmt W.2.2.2.1 h4.2.2⟩, h.akp W.2.1 hk ha h5, fun t ht => h6 t (by rw [← ha t]; exact ht), fun T c lg q => ?_, fun T l q => h9 T l (by rw [← hC T]; exact q), fun z => ?_, fun z => ?_, fun T q => h12 T (hw T q)⟩
  · rw [hV] at q
    obtain ⟨a1, a2, a3, a4, l, a5, a6⟩ := h7 T c lg q
    exact ⟨a1, a2, h.gl a3, h.kpE W.2.1 hk (fun t _ => ha t) a4, l, h.2.2.2.2.2 _ _ _ a5, a6⟩
  · obtain ⟨a1, a2, a3, a4, a5⟩ := h10 z
    rw [hL _ a1, ha, (h.2.1 _ _ a1).2, hG]
    refine ⟨(h.2.1 _ _ a1).1, a2, ?_, fun v hv hn => ?_, a5⟩
    · rcases a3 with a3 | ⟨n, a3⟩
      · exact Or.inl a3
      · exact Or.inr ⟨n, h.2.2.2.2.1 _ _ _ a3⟩
    · have := a4 v hv hn
      have := h.2.2.2.1 (A 2 s) v
      omega
  · obtain ⟨a1, a2, a3⟩ := h11 z
    rw [hC, hG]
    refine ⟨a1, a2, fun v hv hb => ?_⟩
    obtain ⟨lg, b1, b2⟩ := a3 v hv hb
    exact ⟨lg, h.2.2.1 _ _ _ b1, b2⟩
end SF3
/-- the invariant -/
def Iv (c0 B : Int) (A : md_A) (g : Gh) : Prop := Ws c0 g ∧ w_K g ∧ (∀ s : Nat, s < 5 → Sv c0 A g s ∧ A 8 s ≤ 48) ∧ Ms c0 A g B ∧ Bd A g B
