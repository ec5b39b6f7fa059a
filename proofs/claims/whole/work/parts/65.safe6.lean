/-! safety: steps of a leader -/
section SF6
variable {c0 : Int} {g g' : Gh} {A A' : md_A} {B : Int} {s : Nat}
/-- a term's log is new: won by s with the log l, whose first e were there at the election -/
def gel (g : Gh) (T : Int) (s : Nat) (l : List En) (e : Nat) : Gh := ((fun t => if t = T then l else gL g t), (fun t => if t = T then e else ge g t), (fun t => if t = T then some s else gw g t), g.2.2.2.1, (fun t v => if t = T ∧ v = s then l.length else ga g t v), g.2.2.2.2.2.1, (fun v => if v = s then l else gG g v), g.2.2.2.2.2.2.2)
theorem gel_L {T t : Int} {l : List En} {e : Nat} (h : t ≠ T) : gL (gel g T s l e) t = gL g t := if_neg h
theorem gel_Ls {T : Int} {l : List En} {e : Nat} : gL (gel g T s l e) T = l := if_pos rfl
theorem gel_e {T t : Int} {l : List En} {e : Nat} (h : t ≠ T) : ge (gel g T s l e) t = ge g t := if_neg h
theorem gel_es {T : Int} {l : List En} {e : Nat} : ge (gel g T s l e) T = e := if_pos rfl
theorem gel_w {T t : Int} {l : List En} {e : Nat} (h : t ≠ T) : gw (gel g T s l e) t = gw g t := if_neg h
theorem gel_ws {T : Int} {l : List En} {e : Nat} : gw (gel g T s l e) T = some s := if_pos rfl
theorem gel_a {T t : Int} {l : List En} {e v : Nat} (h : ¬ (t = T ∧ v = s)) : ga (gel g T s l e) t v = ga g t v := if_neg h
theorem gel_as {T : Int} {l : List En} {e : Nat} : ga (gel g T s l e) T s = l.length := if_pos ⟨rfl, rfl⟩
theorem gel_G {T : Int} {l : List En} {e v : Nat} (h : v ≠ s) : gG (gel g T s l e) v = gG g v := if_neg h
theorem gel_Gs {T : Int} {l : List En} {e : Nat} : gG (gel g T s l e) s = l := if_pos rfl
theorem gel_E {T t : Int} {l : List En} {e : Nat} (h : t ≠ T) : gE (gel g T s l e) t = gE g t := by
  unfold gE
  rw [gel_L h, gel_e h]
theorem gel_le {T : Int} {l : List En} {e : Nat} (hp : gL g T <+: l) (hw : ∀ c, gw g T = some c → c = s ∧ ge g T = e) (ha : ga g T s ≤ l.length) : gle g (gel g T s l e) := by
  refine ⟨fun t => ?_, fun t c hc => ?_, fun _ _ _ h => h, fun t v => ?_, fun _ _ _ h => h, fun _ _ _ h => h⟩
  · by_cases h : t = T
    · subst h; rw [gel_Ls]; exact hp
    · rw [gel_L h]; exact List.prefix_refl _
  · by_cases h : t = T
    · subst h
      obtain ⟨a, b⟩ := hw c hc
      rw [gel_ws, gel_es, a]
      exact ⟨rfl, b.symm⟩
    · rw [gel_w h, gel_e h]; exact ⟨hc, rfl⟩
  · by_cases h : t = T ∧ v = s
    · obtain ⟨rfl, rfl⟩ := h
      rw [gel_as]; exact ha
    · rw [gel_a h]; exact Nat.le_refl _
/-- nobody above T voted with s -/
theorem Iv.noV (H : Iv c0 B A g) (hs : s < 5) {T c : Int} {c' : Nat} {lg : List En} (h : gV g T s = some (c', lg)) : T ≤ A 2 s := ((H.2.2.1 s hs).1.2.2.2.2.2.2.1 T c' lg h).1
/-- what is static, with a term's log l: an election, or one more entry -/
theorem gel_W (W : Ws c0 g) (hK : w_K g) {T : Int} {l : List En} {e : Nat} (hle : gle g (gel g T s l e)) (hT : 1 ≤ T) (hs : s < 5) (hel : e ≤ l.length) (h1 : ∀ i, e < i → i ≤ l.length → tm l i = T) (h2 : ∀ i, 1 ≤ i → i ≤ e → tm l i < T) (hgl : gl (gel g T s l e) l) (hset : ∀ i, i ≤ l.length → set5 (cfg c0 (l.take i)))
    (hV : ∀ T2 c lg, gV g T2 s = some (c, lg) → T2 ≤ T) (hQ : maj (cfg c0 (l.take e)) (fun v => ∃ lg, gV g T v = some (s, lg) ∧ gl g lg ∧ up lg (l.take e) ∧ kpL g T v lg))
    (hM : ∀ m, e < m → m ≤ l.length → mb l m → adj (cfg c0 (l.take (m - 1))) (cfg c0 (l.take m)) ∧ (∃ n j, n < m ∧ gv g T n j) ∧ ∀ m1, e < m1 → m1 < m → mb l m1 → ∃ n j, n < m ∧ m1 ≤ j ∧ gv g T n j) : Ws c0 (gel g T s l e) := by
  obtain ⟨h0, hw, hq, he, hm⟩ := W
  have kp : ∀ (T2 : Int) (v : Nat) (lg : List En) (c : Nat), gV g T2 v = some (c, lg) → kpL g T2 v lg → kpL (gel g T s l e) T2 v lg := fun T2 v lg c hv H => hle.kpL hw hK (fun t ht => gel_a (fun z => by
    have := hV T2 c lg (by rw [← z.2]; exact hv)
    omega)) H
  refine ⟨h0, fun t c hc => ?_, fun t c hc => ?_, fun t n j ev => ?_, fun t c m hc m1 m2 m3 => ?_⟩
  · by_cases h : t = T
    · subst h
      rw [gel_ws] at hc
      cases hc
      rw [gel_Ls, gel_es]
      exact ⟨hT, hs, hel, h1, h2, hgl, hset⟩
    · rw [gel_w h] at hc
      obtain ⟨a1, a2, a3, a4, a5, a6, a7⟩ := hw t c hc
      rw [gel_L h, gel_e h]
      exact ⟨a1, a2, a3, a4, a5, hle.gl a6, a7⟩
  · by_cases h : t = T
    · subst h
      rw [gel_ws] at hc
      cases hc
      have : gE (gel g t s l e) t = l.take e := by unfold gE; rw [gel_Ls, gel_es]
      rw [this]
      refine maj_mono hQ (fun v _ hv => ?_)
      obtain ⟨lg, a1, a2, a3, a4⟩ := hv
      exact ⟨lg, a1, hle.gl a2, a3, kp _ _ _ _ a1 a4⟩
    · rw [gel_w h] at hc
      rw [gel_E h]
      refine maj_mono (hq t c hc) (fun v _ hv => ?_)
      obtain ⟨lg, a1, a2, a3, a4⟩ := hv
      exact ⟨lg, a1, hle.gl a2, a3, kp _ _ _ _ a1 a4⟩
  · obtain ⟨⟨c, hc⟩, a1, a2, a3, a4, a5⟩ := he t n j ev
    have hl := (hle.1 t).length_le
    refine ⟨⟨c, (hle.2.1 t c hc).1⟩, a1, a2, by omega, ?_, ?_⟩
    · rw [tm_pre (hle.1 t) (by omega)]; exact a4
    · rw [take_pre (hle.1 t) a3]
      exact maj_mono a5 (fun v _ hv => Nat.le_trans hv (hle.2.2.2.1 t v))
  · by_cases h : t = T
    · subst h
      rw [gel_es] at m1
      rw [gel_Ls] at m2 m3 ⊢
      have := hM m m1 m2 m3
      rw [gel_es]
      exact this
    · rw [gel_w h] at hc
      rw [gel_L h] at m2 m3 ⊢
      rw [gel_e h] at m1 ⊢
      exact hm t c m hc m1 m2 m3
theorem gel_K (hK : w_K g) {T : Int} {l : List En} {e : Nat} (hp : gL g T <+: l) : w_K (gel g T s l e) := by
  refine ⟨fun t v => ?_, fun t h => ?_⟩
  · by_cases h : t = T
    · subst h
      rw [gel_Ls]
      by_cases hv : v = s
      · subst hv; rw [gel_as]; exact Nat.le_refl _
      · rw [gel_a (fun z => hv z.2)]
        exact Nat.le_trans (hK.1 t v) hp.length_le
    · rw [gel_L h, gel_a (fun z => h z.1)]
      exact hK.1 t v
  · by_cases e : t = T
    · subst e; rw [gel_ws] at h; cases h
    · rw [gel_w e] at h
      rw [gel_L e]
      exact hK.2 t h
/-- how long logs are -/
theorem Iv.len (H : Iv c0 B A g) {l : List En} (hl : gl g l) (h0 : 0 ≤ B) : (l.length : Int) ≤ B := by
  by_cases hn : l.length = 0
  · omega
  · obtain ⟨⟨c, hc⟩, hp, -⟩ := gl_last H.1.2.1 hl hn
    have := H.2.2.2.2.2.1 _ c hc
    have := hp.length_le
    omega
/-- an election -/
theorem Iv.elect (H : Iv c0 B A g) (hB0 : 0 ≤ B) (hs : s < 5) (h2 : A 13 s = 2) (hmost : maj (cfg c0 (gG g s)) (fun v => bit (A 16 s) v = 1))
    (hd : ∀ (k : Nat) (x : Int), ¬ md_no k → k ≠ 17 → k ≠ 18 → k ≠ 20 → ¬ (k = 13 ∧ x = s) → A' k x = A k x) (h13 : A' 13 s = 3) (h18 : ∀ v : Nat, v < 5 → A' 18 (5 * s + v) = 0) (h18o : ∀ u : Nat, u < 5 → u ≠ s → ∀ v : Nat, v < 5 → A' 18 (5 * u + v) = A 18 (5 * u + v))
    (hb : (∀ x, 0 ≤ A' 17 x ∧ A' 17 x ≤ B + 1) ∧ (∀ x, 0 ≤ A' 18 x ∧ A' 18 x ≤ B) ∧ ∀ x, 0 ≤ A' 20 x ∧ A' 20 x ≤ B) : ∃ g', gle g g' ∧ Iv c0 B A' g' := by
  have HH := H
  obtain ⟨W, K, hsv, hms, hbd⟩ := H
  obtain ⟨⟨s1, s2, s3, s4, s5, s6, s7, s9, s10, s11, s12⟩, s8⟩ := hsv s hs
  obtain ⟨a1, a2, a3⟩ := s11 h2
  have hmaj : maj (cfg c0 (gG g s)) (fun v => ∃ lg, gV g (A 2 s) v = some (s, lg) ∧ gl g lg ∧ up lg (gG g s) ∧ kpE g (A 2 s) v lg) := maj_mono hmost (fun v hv hb => by
    obtain ⟨lg, b1, b2⟩ := a3 v hv hb
    obtain ⟨c1, c2, c3, c4, c5⟩ := (hsv v hv).1.2.2.2.2.2.2.1 _ _ _ b1
    exact ⟨lg, b1, c3, b2, c4⟩)
  have hnw : gw g (A 2 s) = none := by
    cases h9 : gw g (A 2 s) with
    | none => rfl
    | some c =>
      have := sf_win W s2 a2 s hmaj c h9
      subst this
      exact absurd h2 ((s12 _ h9).2 rfl)
  have hLn : gL g (A 2 s) = [] := K.2 _ hnw
  have hT1 : 1 ≤ A 2 s := by
    by_cases hn : (gG g s).length = 0
    · rw [gl_lt0 hn] at a2; omega
    · have := gl_pos W.2.1 s2 (i := (gG g s).length) (by omega) (Nat.le_refl _)
      unfold lt at a2
      omega
  have hga : ga g (A 2 s) s = 0 := by
    have := K.1 (A 2 s) s
    rw [hLn] at this
    simpa using this
  have hle : gle g (gel g (A 2 s) s (gG g s) (gG g s).length) := gel_le (by rw [hLn]; exact List.nil_prefix) (fun c hc => by rw [hnw] at hc; cases hc) (by omega)
  have hterm : ∀ i, 1 ≤ i → i ≤ (gG g s).length → tm (gG g s) i < A 2 s := fun i i1 i2 => by
    have := gl_le W.2.1 s2 i1 i2
    omega
  have W' : Ws c0 (gel g (A 2 s) s (gG g s) (gG g s).length) := by
    refine gel_W W K hle hT1 hs (Nat.le_refl _) (fun i i1 i2 => by omega) hterm (hle.gl s2) (fun i hi => gl_set W.1 W.2.1 (gl_pre s2 (List.take_prefix _ _))) (fun T2 c lg q => (s7 T2 c lg q).1) ?_ (fun m m1 m2 => by omega)
    rw [List.take_length]
    refine maj_mono hmaj (fun v _ hv => ?_)
    obtain ⟨lg, b1, b2, b3, b4⟩ := hv
    refine ⟨lg, b1, b2, b3, fun t ht j hj ha => b4 t ht j hj (fun T2 c c1 c2 c3 => ha T2 c c1 ?_ c3)⟩
    have : T2 ≠ A 2 s := fun e => by rw [e, hnw] at c3; cases c3
    omega
  have e : ∀ k : Nat, k ≠ 13 → k ≤ 16 → ¬ md_no k → A' k s = A k s := fun k h3 hk hn => hd k _ hn (by omega) (by omega) (by omega) (by omega)
  have e2 := e 2 (by omega) (by omega) (by unfold md_no; omega)
  have e3 := e 3 (by omega) (by omega) (by unfold md_no; omega)
  have e4 := e 4 (by omega) (by omega) (by unfold md_no; omega)
  have e8 := e 8 (by omega) (by omega) (by unfold md_no; omega)
  have e14 := e 14 (by omega) (by omega) (by unfold md_no; omega)
  refine ⟨_, hle, HH.step (Int.le_refl B) hle W' (gel_K K (by rw [hLn]; exact List.nil_prefix)) (s := s) ⟨?_, by rw [e8]; exact s8⟩ (fun u hu hus => ⟨⟨fun k hk => hd k _ (by unfold md_no; omega) (by omega) (by omega) (by omega) (by omega), fun k k1 k2 i _ _ => hd k _ (by unfold md_no; omega) (by omega) (by omega) (by omega) (by omega), h18o u hu hus⟩, gel_G hus, fun t => gel_a (fun z => hus z.2), fun _ => rfl, fun _ => rfl, fun t ht => ?_, fun t ht => ?_⟩) ⟨hd 27 0 (by unfold md_no; omega) (by omega) (by omega) (by omega) (by omega), fun x => hd 28 x (by unfold md_no; omega) (by omega) (by omega) (by omega) (by omega)⟩ ⟨fun u hu => ?_, fun t c hc => ?_, hb⟩⟩
  · unfold Sv sv_V sv_3 sv_2
    rw [e2, e3, e4, e14, h13, gel_Gs]
    refine ⟨?_, hle.gl s2, s3, ⟨s4.1, s4.2.1, hle.cmt W.2.2.2.1 s4.2.2⟩, fun t ht j hj ha => ?_, fun t ht => ?_, fun T c lg q => ?_, s9, fun _ => ⟨gel_ws, gel_Ls.symm, Or.inl ?_, fun v hv hn => ?_, ?_⟩, fun z => absurd z (by decide), fun T q => ?_⟩
    · exact s1.cg (fun k hk => hd k _ (by unfold md_no; omega) (by omega) (by omega) (by omega) (by omega)) (fun k k1 k2 i _ _ => hd k _ (by unfold md_no; omega) (by omega) (by omega) (by omega) (by omega))
    · by_cases h : t = A 2 s
      · subst h
        rw [gel_Ls]
        exact List.take_prefix _ _
      · have := ha (A 2 s) s (by omega) (Int.le_refl _) gel_ws
        have e9 : gE (gel g (A 2 s) s (gG g s) (gG g s).length) (A 2 s) = gG g s := by unfold gE; rw [gel_Ls, gel_es, List.take_length]
        rw [e9] at this
        exact this
    · by_cases h : t = A 2 s
      · omega
      · rw [gel_a (fun z => h z.1)] at ht
        exact s6 t ht
    · obtain ⟨b1, b2, b3, b4, b5⟩ := s7 T c lg q
      exact ⟨b1, b2, hle.gl b3, hle.kpE W.2.1 K (fun t ht => gel_a (by omega)) b4, b5⟩
    · rw [gel_es]; exact s4.2.1
    · rw [h18 v hv]; omega
    · rw [gel_as, gel_Ls]
    · by_cases h : T = A 2 s
      · exact ⟨by omega, fun _ => by decide⟩
      · rw [gel_w h] at q
        exact ⟨(s12 T q).1, fun z => absurd z h⟩
  · have : t ≠ A 2 s := fun e => by rw [e, hnw] at ht; cases ht
    exact gel_L this
  · by_cases h : t = A 2 s
    · subst h; rw [gel_ws] at ht; cases ht; exact absurd rfl hus
    · rw [gel_w h] at ht; exact ht
  · rw [hd 2 _ (by unfold md_no; omega) (by omega) (by omega) (by omega) (by omega)]
    exact hbd.1 u hu
  · by_cases h : t = A 2 s
    · subst h; rw [gel_Ls]; exact HH.len s2 hB0
    · rw [gel_w h] at hc; rw [gel_L h]; exact hbd.2.1 t c hc
end SF6
