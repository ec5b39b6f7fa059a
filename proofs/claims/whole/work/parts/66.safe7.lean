/-! safety: a leader's entries and decisions; the log read off the cells -/
section SF7
variable {c0 : Int} {g g' : Gh} {A A' : md_A} {B : Int} {s : Nat} {l : List En}
theorem lgR.last {s : Int} (h : lgR c0 A s l) : md_last A s = (l.length : Int) := h.2.2.1.symm
theorem lgR.cell {s i : Int} (h : lgR c0 A s l) (h1 : A 4 s < i) (h2 : i ≤ (l.length : Int)) : md_cell A s i = 48 * s + (i - A 4 s - 1) := by
  unfold md_cell
  rw [h.last, if_pos ⟨h1, h2⟩]
  omega
theorem lgR.at {s i : Int} (h : lgR c0 A s l) (h1 : A 4 s < i) (h2 : i ≤ (l.length : Int)) : l[i.toNat - 1]? = some (A 9 (md_cell A s i), A 10 (md_cell A s i), A 11 (md_cell A s i), A 12 (md_cell A s i)) := by
  rw [h.cell h1 h2]
  obtain ⟨a1, a2, a3, -, -, a6⟩ := h
  have := a6 (i - A 4 s - 1).toNat (by omega)
  rw [show (A 4 s).toNat + (i - A 4 s - 1).toNat = i.toNat - 1 by omega, show ((i - A 4 s - 1).toNat : Int) = i - A 4 s - 1 by omega] at this
  exact this
theorem lgR.term {s i : Int} (hs : 0 ≤ s) (h : lgR c0 A s l) (h1 : A 4 s ≤ i) (h2 : i ≤ (l.length : Int)) : md_termAt A s i = tm l i.toNat := by
  have h0 := h.1
  unfold md_termAt
  by_cases e : i = A 4 s
  · rw [if_pos e, h.2.2.2.1, e]
  · rw [if_neg e, if_neg (by rw [h.cell (by omega) h2]; omega)]
    have := h.at (i := i) (by omega) h2
    unfold tm
    rw [if_neg (by omega), this]
    rfl
theorem lgR.noterm {s i : Int} (h : lgR c0 A s l) (h1 : i < A 4 s ∨ (l.length : Int) < i) : md_termAt A s i = -1 := by
  have h0 := h.2.1
  have h3 := h.2.2.1
  unfold md_termAt
  have : md_cell A s i = -1 := by
    unfold md_cell
    rw [h.last, if_neg (by omega)]
  rw [if_neg (by omega), this, if_pos (by decide)]
theorem lgR.mem {s : Int} (h : lgR c0 A s l) : ∀ n : Nat, (n : Int) ≤ A 8 s → md_mem A s n = cfg c0 (l.take ((A 4 s).toNat + n))
  | 0, _ => by
    unfold md_mem
    rw [show md_lm A s 0 = 0 from rfl, if_pos rfl]
    exact h.2.2.2.2.1
  | n + 1, hn => by
    have ih := lgR.mem h n (by omega)
    have h6 := h.2.2.2.2.2 n (by omega)
    rw [show (A 4 s).toNat + (n + 1) = (A 4 s).toNat + n + 1 from rfl, take_snoc h6, cfg_snoc, ← ih]
    unfold md_mem
    rw [md_lm_s]
    have h0 := h.1
    by_cases e : A 10 (48 * s + n) = 2
    · rw [if_pos e, if_neg (by omega), if_pos e]
      have h3 := h.2.2.1
      rw [h.cell (by omega) (by omega)]
      congr 1
      omega
    · rw [if_neg e, if_neg e]
theorem lgR.config {s : Int} (h : lgR c0 A s l) : md_config A s = cfg c0 l := by
  have h2 := h.2.1
  have h3 := h.2.2.1
  have h1 := h.1
  unfold md_config
  rw [h.mem _ (by omega), List.take_of_length_le (by omega)]
/-- a MEMBERS behind the snapshot is not above the latest one -/
theorem lgR.lm {s : Int} (h : lgR c0 A s l) : ∀ n : Nat, (n : Int) ≤ A 8 s → ∀ m : Nat, A 4 s < m → (m : Int) ≤ A 4 s + n → mb l m → (m : Int) ≤ md_lm A s n
  | 0, _, m, h1, h2, _ => by omega
  | n + 1, hn, m, h1, h2, h3 => by
    rw [md_lm_s]
    have h0 := h.1
    by_cases e : A 10 (48 * s + n) = 2
    · rw [if_pos e]; omega
    · rw [if_neg e]
      by_cases hm : (m : Int) = A 4 s + n + 1
      · obtain ⟨-, en, a1, a2⟩ := h3
        have h6 := h.2.2.2.2.2 n (by omega)
        rw [show (A 4 s).toNat + n = m - 1 by omega, a1] at h6
        cases h6
        exact absurd a2 e
      · exact lgR.lm h n (by omega) m h1 (by omega) h3
/-- one more entry of a leader -/
theorem Iv.push (H : Iv c0 B A g) (hB : 0 ≤ B) (hs : s < 5) (h3 : A 13 s = 3) (h8 : A 8 s < 48) {so ke va : Int}
    (hset : set5 (cfg c0 (gL g (A 2 s) ++ [(A 2 s, so, ke, va)])))
    (hM : so = 2 → adj (cfg c0 (gL g (A 2 s))) ke ∧ (∃ n j, gv g (A 2 s) n j) ∧ ∀ m1 : Nat, ge g (A 2 s) < m1 → m1 ≤ (gL g (A 2 s)).length → mb (gL g (A 2 s)) m1 → ∃ n j, m1 ≤ j ∧ gv g (A 2 s) n j) :
    ∃ g', gle g g' ∧ Iv c0 (B + 1) (md_push A s (A 2 s) so ke va) g' := by
  have HH := H
  obtain ⟨W, K, hsv, hms, hbd⟩ := H
  obtain ⟨⟨s1, s2, s3, s4, s5, s6, s7, s9, s10, s11, s12⟩, s8⟩ := hsv s hs
  obtain ⟨b1, b2, b3, b4, b5⟩ := s10 h3
  obtain ⟨w1, w2, w3, w4, w5, w6, w7⟩ := W.2.1 _ _ b1
  have hl0 : (gL g (A 2 s) ++ [(A 2 s, so, ke, va)]).length = (gL g (A 2 s)).length + 1 := by simp
  have hpre : gL g (A 2 s) <+: gL g (A 2 s) ++ [(A 2 s, so, ke, va)] := List.prefix_append _ _
  have hlast : tm (gL g (A 2 s) ++ [(A 2 s, so, ke, va)]) ((gL g (A 2 s)).length + 1) = A 2 s := by
    unfold tm
    rw [if_neg (by omega)]
    simp
  have hle : gle g (gel g (A 2 s) s (gL g (A 2 s) ++ [(A 2 s, so, ke, va)]) (ge g (A 2 s))) := gel_le hpre (fun c hc => by rw [b1] at hc; cases hc; exact ⟨rfl, rfl⟩) (by rw [b5, hl0]; omega)
  have hgl : gl (gel g (A 2 s) s (gL g (A 2 s) ++ [(A 2 s, so, ke, va)]) (ge g (A 2 s))) (gL g (A 2 s) ++ [(A 2 s, so, ke, va)]) := fun i i1 i2 => by
    rw [hl0] at i2
    by_cases hi : i ≤ (gL g (A 2 s)).length
    · have := hle.gl w6 i i1 hi
      rw [← tm_pre hpre hi, ← take_pre hpre hi] at this
      exact this
    · have : i = (gL g (A 2 s)).length + 1 := by omega
      subst this
      rw [hlast, gel_ws, gel_Ls]
      exact ⟨⟨s, rfl⟩, List.take_prefix _ _⟩
  have W' : Ws c0 (gel g (A 2 s) s (gL g (A 2 s) ++ [(A 2 s, so, ke, va)]) (ge g (A 2 s))) := by
    refine gel_W W K hle w1 hs (by omega) (fun i i1 i2 => ?_) (fun i i1 i2 => ?_) hgl (fun i hi => ?_) (fun T2 c lg q => (s7 T2 c lg q).1) ?_ (fun m m1 m2 m3 => ?_)
    · by_cases hi : i ≤ (gL g (A 2 s)).length
      · rw [tm_pre hpre hi]; exact w4 i i1 hi
      · rw [show i = (gL g (A 2 s)).length + 1 by omega]; exact hlast
    · rw [tm_pre hpre (by omega)]; exact w5 i i1 i2
    · by_cases hi2 : i ≤ (gL g (A 2 s)).length
      · rw [take_pre hpre hi2]; exact w7 i hi2
      · rw [List.take_of_length_le (by omega)]; exact hset
    · rw [take_pre hpre w3]
      exact W.2.2.1 _ _ b1
    · by_cases hm : m ≤ (gL g (A 2 s)).length
      · have := W.2.2.2.2 _ _ m b1 m1 hm ((mb_pre hpre hm).mp m3)
        rw [take_pre hpre hm, take_pre hpre (by omega)]
        refine ⟨this.1, this.2.1, fun q q1 q2 q3 => this.2.2 q q1 q2 ((mb_pre hpre (by omega)).mp q3)⟩
      · have hm' : m = (gL g (A 2 s)).length + 1 := by omega
        subst hm'
        obtain ⟨-, en, z1, z2⟩ := m3
        have : en = (A 2 s, so, ke, va) := by
          simp at z1
          exact z1.symm
        subst this
        obtain ⟨c1, ⟨n, j, c2⟩, c3⟩ := hM z2
        have hn := W.2.2.2.1 _ _ _ c2
        refine ⟨?_, ⟨n, j, by omega, c2⟩, fun q q1 q2 q3 => ?_⟩
        · rw [show (gL g (A 2 s)).length + 1 - 1 = (gL g (A 2 s)).length by omega, List.take_left, List.take_of_length_le (by omega), cfg_snoc, if_pos z2]
          exact c1
        · obtain ⟨n', j', d1, d2⟩ := c3 q q1 (by omega) ((mb_pre hpre (by omega)).mp q3)
          have := W.2.2.2.1 _ _ _ d2
          exact ⟨n', j', by omega, d1, d2⟩
  have pk : ∀ (k : Nat) (x : Int), ¬ (8 ≤ k ∧ k ≤ 12) → md_push A s (A 2 s) so ke va k x = A k x := fun k x hk => md_push_k (by omega)
  have p8 : md_push A s (A 2 s) so ke va 8 s = A 8 s + 1 := md_us
  have p8o : ∀ u : Nat, u ≠ s → md_push A s (A 2 s) so ke va 8 u = A 8 u := fun u hu => by
    unfold md_push
    rw [md_ui (by omega), md_uk (by decide), md_uk (by decide), md_uk (by decide), md_uk (by decide)]
  have hx8 := s1.2.1
  have hp : ∀ k : Nat, 9 ≤ k → k ≤ 12 → ∀ x : Int, x ≠ 48 * s + A 8 s → md_push A s (A 2 s) so ke va k x = A k x := fun k k1 k2 x hx => by
    unfold md_push
    rw [md_uk (by omega), md_ui hx, md_ui hx, md_ui hx, md_ui hx]
  have hpn : ∀ k : Nat, 9 ≤ k → k ≤ 12 → md_push A s (A 2 s) so ke va k (48 * s + A 8 s) = if k = 9 then A 2 s else if k = 10 then so else if k = 11 then ke else va := fun k k1 k2 => by
    unfold md_push md_u
    have h5 : k = 9 ∨ k = 10 ∨ k = 11 ∨ k = 12 := by omega
    rcases h5 with rfl | rfl | rfl | rfl <;> simp
  refine ⟨_, hle, HH.step (by omega) hle W' (gel_K K hpre) (s := s) ⟨?_, by rw [p8]; omega⟩ (fun u hu hus => ⟨⟨fun k hk => ?_, fun k k1 k2 i i0 i1 => hp k k1 k2 _ (by omega), fun v _ => pk 18 _ (by omega)⟩, gel_G hus, fun t => gel_a (fun z => hus z.2), fun _ => rfl, fun _ => rfl, fun t ht => ?_, fun t ht => ?_⟩) ⟨pk 27 0 (by omega), fun x => pk 28 x (by omega)⟩ ⟨fun u hu => ?_, fun t c hc => ?_, fun x => ?_, fun x => ?_, fun x => ?_⟩⟩
  · unfold Sv sv_V sv_3 sv_2
    rw [pk 2 _ (by omega), pk 3 _ (by omega), pk 4 _ (by omega), pk 13 _ (by omega), pk 14 _ (by omega), pk 16 _ (by omega), gel_Gs]
    have hsl := s1.2.2.1
    rw [b2] at s1 s2 s3 s4 s5 hsl
    refine ⟨?_, hgl, ⟨s3.1, ?_⟩, ⟨s4.1, by rw [hl0]; omega, ?_⟩, fun t ht j hj ha => ?_, fun t ht => ?_, fun T c lg q => ?_, s9, fun _ => ⟨gel_ws, gel_Ls.symm, ?_, fun v hv hn => ?_, ?_⟩, fun z => absurd (h3.symm.trans z) (by decide), fun T q => ?_⟩
    · obtain ⟨r1, r2, r3, r4, r5, r6⟩ := s1
      unfold lgR
      rw [p8, pk 4 _ (by omega), pk 5 _ (by omega), pk 6 _ (by omega), hl0, tm_pre hpre (by omega), take_pre hpre (by omega)]
      refine ⟨r1, by omega, by omega, r4, r5, fun i hi => ?_⟩
      by_cases hi8 : (i : Int) = A 8 s
      · rw [hi8, hpn 9 (by omega) (by omega), hpn 10 (by omega) (by omega), hpn 11 (by omega) (by omega), hpn 12 (by omega) (by omega), show (A 4 s).toNat + i = (gL g (A 2 s)).length by omega]
        simp
      · rw [hp 9 (by omega) (by omega) _ (by omega), hp 10 (by omega) (by omega) _ (by omega), hp 11 (by omega) (by omega) _ (by omega), hp 12 (by omega) (by omega) _ (by omega), List.getElem?_append_left (by omega)]
        exact r6 i (by omega)
    · unfold lt
      rw [hl0, hlast]
      exact Int.le_refl _
    · exact (hle.cmt W.2.2.2.1 s4.2.2).on (take_pre hpre (by omega))
    · by_cases h : t = A 2 s
      · subst h
        rw [gel_Ls]
        exact List.take_prefix _ _
      · rw [gel_a (fun z => h z.1)] at hj
        rw [hle.kp W.2.1 K hj]
        refine (s5 t ht j hj (fun T2 c a1 a2 a3 => ?_)).trans hpre
        have := ha T2 c a1 a2 (hle.2.1 T2 c a3).1
        rw [hle.kp W.2.1 K hj, hle.E W.2.1 a3] at this
        exact this
    · by_cases h : t = A 2 s
      · omega
      · rw [gel_a (fun z => h z.1)] at ht
        exact s6 t ht
    · obtain ⟨d1, d2, d3, d4, d5⟩ := s7 T c lg q
      exact ⟨d1, d2, hle.gl d3, hle.kpE W.2.1 K (fun t ht => gel_a (by omega)) d4, d5⟩
    · rw [gel_es]; exact b3
    · rw [pk 18 _ (by omega), gel_a (fun z => hn z.2)]; exact b4 v hv hn
    · rw [gel_as, gel_Ls]
    · refine ⟨?_, fun _ => by rw [h3]; decide⟩
      by_cases h : T = A 2 s
      · omega
      · rw [gel_w h] at q; exact (s12 T q).1
  · by_cases hk8 : k = 8
    · subst hk8; exact p8o u hus
    · exact pk k _ (by omega)
  · have : t ≠ A 2 s := fun e => by rw [e, b1] at ht; cases ht; exact hus rfl
    exact gel_L this
  · by_cases h : t = A 2 s
    · subst h; rw [gel_ws] at ht; cases ht; exact absurd rfl hus
    · rw [gel_w h] at ht; exact ht
  · rw [pk 2 _ (by omega)]; have := hbd.1 u hu; omega
  · by_cases h : t = A 2 s
    · subst h; rw [gel_Ls, hl0]; have := hbd.2.1 _ _ b1; omega
    · rw [gel_w h] at hc; rw [gel_L h]; have := hbd.2.1 t c hc; omega
  · rw [pk 17 _ (by omega)]; have := hbd.2.2.1 x; omega
  · rw [pk 18 _ (by omega)]; have := hbd.2.2.2.1 x; omega
  · rw [pk 20 _ (by omega)]; have := hbd.2.2.2.2 x; omega
def gde (g : Gh) (T : Int) (n j : Nat) : Gh := (g.1, g.2.1, g.2.2.1, g.2.2.2.1, g.2.2.2.2.1, (fun t n' j' => gv g t n' j' ∨ (t = T ∧ n' = n ∧ j' = j)), g.2.2.2.2.2.2)
theorem gde_le {T : Int} {n j : Nat} : gle g (gde g T n j) := ⟨fun _ => List.prefix_refl _, fun _ _ h => ⟨h, rfl⟩, fun _ _ _ h => h, fun _ _ => Nat.le_refl _, fun _ _ _ h => Or.inl h, fun _ _ _ h => h⟩
/-- a leader decides -/
theorem Iv.commit (H : Iv c0 B A g) (hs : s < 5) (h3 : A 13 s = 3) (hd : dif A A' s (fun k => k = 14)) {j : Nat} (h14 : A' 14 s = j) (hj : A 14 s ≤ (j : Int)) (hj1 : 1 ≤ j) (hjl : j ≤ (gL g (A 2 s)).length) (htm : tm (gL g (A 2 s)) j = A 2 s) (hmaj : maj (cfg c0 (gL g (A 2 s))) (fun v => j ≤ ga g (A 2 s) v)) : ∃ g', gle g g' ∧ Iv c0 B A' g' := by
  have HH := H
  obtain ⟨W, K, hsv, hms, hbd⟩ := H
  obtain ⟨⟨s1, s2, s3, s4, s5, s6, s7, s9, s10, s11, s12⟩, s8⟩ := hsv s hs
  obtain ⟨b1, b2, b3, b4, b5⟩ := s10 h3
  have hle : gle g (gde g (A 2 s) (gL g (A 2 s)).length j) := gde_le
  have hnew : gv (gde g (A 2 s) (gL g (A 2 s)).length j) (A 2 s) (gL g (A 2 s)).length j := Or.inr ⟨rfl, rfl, rfl⟩
  have W' : Ws c0 (gde g (A 2 s) (gL g (A 2 s)).length j) := by
    obtain ⟨w0, w1, w2, w3, w4⟩ := W
    refine ⟨w0, w1, w2, fun t n j' e => ?_, fun t c m c1 c2 c3 c4 => ?_⟩
    · rcases e with e | ⟨rfl, rfl, rfl⟩
      · exact w3 t n j' e
      · refine ⟨⟨s, b1⟩, hj1, hjl, Nat.le_refl _, htm, ?_⟩
        show maj (cfg c0 ((gL g (A 2 s)).take (gL g (A 2 s)).length)) _
        rw [List.take_length]
        exact hmaj
    · obtain ⟨d1, ⟨n, j', d2, d3⟩, d4⟩ := w4 t c m c1 c2 c3 c4
      refine ⟨d1, ⟨n, j', d2, Or.inl d3⟩, fun q q1 q2 q3 => ?_⟩
      obtain ⟨n2, j2, e1, e2, e3⟩ := d4 q q1 q2 q3
      exact ⟨n2, j2, e1, e2, Or.inl e3⟩
  have e : ∀ k : Nat, k ≠ 14 → k ≤ 16 → ¬ md_no k → A' k s = A k s := fun k h3 hk hn => hd k _ hn (by omega)
  have e2 := e 2 (by omega) (by omega) (by unfold md_no; omega)
  have e3 := e 3 (by omega) (by omega) (by unfold md_no; omega)
  have e4 := e 4 (by omega) (by omega) (by unfold md_no; omega)
  have e8 := e 8 (by omega) (by omega) (by unfold md_no; omega)
  have e13 := e 13 (by omega) (by omega) (by unfold md_no; omega)
  have e16 := e 16 (by omega) (by omega) (by unfold md_no; omega)
  have e18 : ∀ x, A' 18 x = A 18 x := fun x => hd 18 _ (by unfold md_no; omega) (by omega)
  refine ⟨_, hle, HH.step (Int.le_refl B) hle W' K (s := s) ⟨?_, by rw [e8]; exact s8⟩ (fun u hu hus => ⟨hd.sv hus (by omega), rfl, fun _ => rfl, fun _ => rfl, fun _ => rfl, fun _ _ => rfl, fun _ q => q⟩) (hd.ml (by omega)) (hd.bd (by omega) hs hbd (by rw [e2]; exact hbd.1 s hs) hbd.2.1)⟩
  unfold Sv sv_V sv_3 sv_2
  rw [e2, e3, e4, e13, e16, h14]
  refine ⟨hd.lg (by omega) s1, s2, s3, ⟨by omega, ?_, Or.inr ⟨A 2 s, _, j, hnew, Int.le_refl _, Nat.le_refl _, ?_⟩⟩, s5, s6, s7, s9, fun _ => ⟨b1, b2, Or.inr ⟨_, hnew⟩, fun v hv hn => by rw [e18]; exact b4 v hv hn, b5⟩, s11, s12⟩
  · show (j : Int) ≤ ((gG g s).length : Int)
    rw [b2]; omega
  · show (gG g s).take j = (gL g (A 2 s)).take j
    rw [b2]
end SF7
