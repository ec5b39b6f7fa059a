/-! safety: a follower's log -/
/-- only the log of s is new (and its base and commit, if K says so) -/
def lgo (A A' : md_A) (s : Int) : Prop := ∀ (k : Nat) (x : Int), ¬ md_no k → ¬ ((4 ≤ k ∧ k ≤ 6 ∨ k = 8 ∨ k = 14) ∧ x = s) → ¬ (9 ≤ k ∧ k ≤ 12 ∧ 48 * s ≤ x ∧ x < 48 * s + 48) → A' k x = A k x
theorem lgo.rf (A : md_A) (s : Int) : lgo A A s := fun _ _ _ _ _ => rfl
theorem lgo.tr {A A' A2 : md_A} {s : Int} (h1 : lgo A A' s) (h2 : lgo A' A2 s) : lgo A A2 s := fun k x a1 a2 a3 => (h2 k x a1 a2 a3).trans (h1 k x a1 a2 a3)
section SF8
variable {c0 : Int} {g g' : Gh} {A A' : md_A} {B : Int} {s : Nat} {l : List En}
def glo (g : Gh) (T : Int) (s : Nat) (l : List En) (k : Nat) : Gh := (g.1, g.2.1, g.2.2.1, g.2.2.2.1, (fun t v => if t = T ∧ v = s then max (ga g t v) k else ga g t v), g.2.2.2.2.2.1, (fun v => if v = s then l else gG g v), g.2.2.2.2.2.2.2)
theorem Iv.log (H : Iv c0 B A g) (hs : s < 5) {c : Nat} (hc : gw g (A 2 s) = some c) (h13 : A 13 s ≠ 2 ∧ A 13 s ≠ 3) (hd : lgo A A' s) (h8 : A' 8 s ≤ 48) {k : Nat} (hk : k ≤ (gL g (A 2 s)).length) (hR : lgR c0 A' s l) (hgl : gl g l) (hlt : lt l ≤ A 2 s) (h14 : A' 4 s ≤ A' 14 s ∧ A' 14 s ≤ (l.length : Int)) (hcm : cmt g (A 2 s) l (A' 14 s).toNat)
    (hkp : ∀ X, X <+: gG g s → X <+: gL g (A 2 s) → X <+: l) (hkk : (gL g (A 2 s)).take k <+: l) : ∃ g', gle g g' ∧ Iv c0 B A' g' ∧ k ≤ ga g' (A 2 s) s := by
  have HH := H
  obtain ⟨W, K, hsv, hms, hbd⟩ := H
  obtain ⟨⟨s1, s2, s3, s4, s5, s6, s7, s9, s10, s11, s12⟩, s8⟩ := hsv s hs
  have eA : ∀ t v, ¬ (t = A 2 s ∧ v = s) → ga (glo g (A 2 s) s l k) t v = ga g t v := fun t v h => if_neg h
  have eAs : ga (glo g (A 2 s) s l k) (A 2 s) s = max (ga g (A 2 s) s) k := if_pos ⟨rfl, rfl⟩
  have hle : gle g (glo g (A 2 s) s l k) := ⟨fun _ => List.prefix_refl _, fun _ _ h => ⟨h, rfl⟩, fun _ _ _ h => h, fun t v => by
    by_cases h : t = A 2 s ∧ v = s
    · obtain ⟨rfl, rfl⟩ := h
      rw [eAs]; exact Nat.le_max_left _ _
    · rw [eA t v h]; exact Nat.le_refl _, fun _ _ _ h => h, fun _ _ _ h => h⟩
  have W' : Ws c0 (glo g (A 2 s) s l k) := by
    obtain ⟨w0, w1, w2, w3, w4⟩ := W
    refine ⟨w0, w1, fun T c hc => maj_mono (w2 T c hc) (fun v _ hv => ?_), fun t n j e => ?_, w4⟩
    · obtain ⟨lg, a1, a2, a3, a4⟩ := hv
      exact ⟨lg, a1, a2, a3, hle.kpL w1 K (fun t ht => eA t v (fun z => by
        have := (s7 T c lg (by rw [← z.2]; exact a1)).1
        omega)) a4⟩
    · obtain ⟨a1, a2, a3, a4, a5, a6⟩ := w3 t n j e
      exact ⟨a1, a2, a3, a4, a5, maj_mono a6 (fun v _ hv => Nat.le_trans hv (hle.2.2.2.1 t v))⟩
  have K' : w_K (glo g (A 2 s) s l k) := ⟨fun t v => by
    show _ ≤ (gL g t).length
    by_cases h : t = A 2 s ∧ v = s
    · obtain ⟨rfl, rfl⟩ := h
      rw [eAs]; exact Nat.max_le.mpr ⟨K.1 _ _, hk⟩
    · rw [eA t v h]; exact K.1 t v, K.2⟩
  have e : ∀ k : Nat, k = 2 ∨ k = 3 ∨ k = 13 ∨ k = 16 → A' k s = A k s := fun k hk => hd k _ (by unfold md_no; omega) (by omega) (by omega)
  have gs : gG (glo g (A 2 s) s l k) s = l := if_pos rfl
  refine ⟨_, hle, HH.step (Int.le_refl B) hle W' K' (s := s) ⟨?_, h8⟩ (fun u hu hus => ⟨⟨fun k hk => hd k _ (by unfold md_no; omega) (by omega) (by omega), fun k k1 k2 i i0 i1 => hd k _ (by unfold md_no; omega) (by omega) (by omega), fun v _ => hd 18 _ (by unfold md_no; omega) (by omega) (by omega)⟩, if_neg hus, fun t => eA t u (fun z => hus z.2), fun _ => rfl, fun _ => rfl, fun _ _ => rfl, fun _ q => q⟩) ⟨hd 27 0 (by unfold md_no; omega) (by omega) (by omega), fun x => hd 28 x (by unfold md_no; omega) (by omega) (by omega)⟩ ⟨fun u hu => ?_, hbd.2.1, fun x => ?_, fun x => ?_, fun x => ?_⟩, by rw [eAs]; exact Nat.le_max_right _ _⟩
  · unfold Sv sv_V sv_3 sv_2
    rw [e 2 (by omega), e 3 (by omega), e 13 (by omega), e 16 (by omega), gs]
    refine ⟨hR, hgl, ⟨s3.1, hlt⟩, ⟨h14.1, h14.2, hcm⟩, fun t ht j hj ha => ?_, fun t ht => ?_, fun T c lg q => ?_, s9, fun z => absurd z h13.2, fun z => absurd z h13.1, s12⟩
    · show (gL g t).take j <+: l
      by_cases h : t = A 2 s
      · subst h
        rw [eAs] at hj
        by_cases hjk : j ≤ k
        · exact (pre_take hjk).trans hkk
        · have hj2 : j ≤ ga g (A 2 s) s := by
            have := Nat.le_max_left (ga g (A 2 s) s) k
            rcases Nat.le_total (ga g (A 2 s) s) k with h9 | h9
            · rw [Nat.max_eq_right h9] at hj; omega
            · rw [Nat.max_eq_left h9] at hj; exact hj
          exact hkp _ (s5 _ (Int.le_refl _) j hj2 (fun T2 c a1 a2 a3 => by omega)) (List.take_prefix _ _)
      · rw [eA t s (fun z => h z.1)] at hj
        refine hkp _ (s5 t ht j hj (fun T2 c a1 a2 a3 => ha T2 c a1 a2 a3)) ?_
        exact (ha (A 2 s) c (by omega) (Int.le_refl _) hc).trans (gE_pre g _)
    · by_cases h : t = A 2 s
      · omega
      · rw [eA t s (fun z => h z.1)] at ht
        exact s6 t ht
    · obtain ⟨d1, d2, d3, d4, d5⟩ := s7 T c lg q
      exact ⟨d1, d2, d3, hle.kpE W.2.1 K (fun t ht => eA t s (by omega)) d4, d5⟩
  · rw [hd 2 _ (by unfold md_no; omega) (by omega) (by omega)]; exact hbd.1 u hu
  · rw [hd 17 x (by unfold md_no; omega) (by omega) (by omega)]; exact hbd.2.2.1 x
  · rw [hd 18 x (by unfold md_no; omega) (by omega) (by omega)]; exact hbd.2.2.2.1 x
  · rw [hd 20 x (by unfold md_no; omega) (by omega) (by omega)]; exact hbd.2.2.2.2 x
theorem lgR.push {s : Int} (h : lgR c0 A s l) {t so ke va : Int} : lgR c0 (md_push A s t so ke va) s (l ++ [(t, so, ke, va)]) := by
  obtain ⟨r1, r2, r3, r4, r5, r6⟩ := h
  have pk : ∀ (k : Nat) (x : Int), ¬ (8 ≤ k ∧ k ≤ 12) → md_push A s t so ke va k x = A k x := fun k x hk => md_push_k (by omega)
  have p8 : md_push A s t so ke va 8 s = A 8 s + 1 := md_us
  have hp : ∀ k : Nat, 9 ≤ k → k ≤ 12 → ∀ x : Int, x ≠ 48 * s + A 8 s → md_push A s t so ke va k x = A k x := fun k k1 k2 x hx => by
    unfold md_push
    rw [md_uk (by omega), md_ui hx, md_ui hx, md_ui hx, md_ui hx]
  have hpn : ∀ k : Nat, 9 ≤ k → k ≤ 12 → md_push A s t so ke va k (48 * s + A 8 s) = if k = 9 then t else if k = 10 then so else if k = 11 then ke else va := fun k k1 k2 => by
    unfold md_push md_u
    have h5 : k = 9 ∨ k = 10 ∨ k = 11 ∨ k = 12 := by omega
    rcases h5 with rfl | rfl | rfl | rfl <;> simp
  have hpre : l <+: l ++ [(t, so, ke, va)] := List.prefix_append _ _
  unfold lgR
  rw [p8, pk 4 _ (by omega), pk 5 _ (by omega), pk 6 _ (by omega), tm_pre hpre (by omega), take_pre hpre (by omega)]
  refine ⟨r1, by omega, by simp; omega, r4, r5, fun i hi => ?_⟩
  by_cases hi8 : (i : Int) = A 8 s
  · rw [hi8, hpn 9 (by omega) (by omega), hpn 10 (by omega) (by omega), hpn 11 (by omega) (by omega), hpn 12 (by omega) (by omega), show (A 4 s).toNat + i = l.length by omega]
    simp
  · rw [hp 9 (by omega) (by omega) _ (by omega), hp 10 (by omega) (by omega) _ (by omega), hp 11 (by omega) (by omega) _ (by omega), hp 12 (by omega) (by omega) _ (by omega), List.getElem?_append_left (by omega)]
    exact r6 i (by omega)
theorem lgR.cut {s : Int} (h : lgR c0 A s l) {i : Int} (h1 : A 4 s < i) (h2 : i ≤ (l.length : Int)) : lgR c0 (md_u A 8 s (i - A 4 s - 1)) s (l.take (i - 1).toNat) := by
  obtain ⟨r1, r2, r3, r4, r5, r6⟩ := h
  have hpre : l.take (i - 1).toNat <+: l := List.take_prefix _ _
  have hlen : (l.take (i - 1).toNat).length = (i - 1).toNat := len_take (by omega)
  unfold lgR
  rw [md_us, md_uk (k := 8) (j := 4) (by decide), md_uk (k := 8) (j := 5) (by decide), md_uk (k := 8) (j := 6) (by decide), hlen, ← tm_pre hpre (by omega), ← take_pre hpre (by omega)]
  refine ⟨r1, by omega, by omega, r4, r5, fun j hj => ?_⟩
  rw [md_uk (by decide), md_uk (by decide), md_uk (by decide), md_uk (by decide), ← r6 j (by omega), List.getElem?_take_of_lt (by omega)]
/-- one entry taken over -/
theorem tk_step (W : Ws c0 g) {T : Int} {c : Nat} (hc : gw g T = some c) {s i p : Int} (hs : 0 ≤ s) (hR : lgR c0 A s l) (h8 : A 8 s ≤ 48) (hgl : gl g l) (hlt : lt l ≤ T) (h1 : 1 ≤ i) (hi : i - 1 ≤ (l.length : Int)) (hm : l.take (i - 1).toNat = (gL g T).take (i - 1).toNat) (hen : (gL g T)[(i - 1).toNat]? = some (A 29 p, A 29 (p + 1), A 29 (p + 2), A 29 (p + 3))) (hb : l.take (A 4 s).toNat <+: gL g T) :
    ∃ l1, lgR c0 (md_tk A s i p) s l1 ∧ md_tk A s i p 8 s ≤ 48 ∧ gl g l1 ∧ lt l1 ≤ T ∧ (∀ X, X <+: l → X <+: gL g T → X <+: l1) ∧ l1.take (i - 1).toNat = (gL g T).take (i - 1).toNat ∧ i - 1 ≤ (l1.length : Int) ∧ (md_tkR A s i p = 1 → l1.take i.toNat = (gL g T).take i.toNat ∧ i ≤ (l1.length : Int)) ∧ lgo A (md_tk A s i p) s := by
  obtain ⟨w1, w2, w3, w4, w5, w6, w7⟩ := W.2.1 T c hc
  have hr := hR
  obtain ⟨r1, r2, r3, r4, r5, r6⟩ := hR
  have hiL : i.toNat ≤ (gL g T).length := by
    have := (List.getElem?_eq_some_iff.mp hen).1
    omega
  have htmL : tm (gL g T) i.toNat = A 29 p := by
    unfold tm
    rw [if_neg (by omega), show i.toNat - 1 = (i - 1).toNat by omega, hen]
    rfl
  have hsnoc : (gL g T).take i.toNat = (gL g T).take (i - 1).toNat ++ [(A 29 p, A 29 (p + 1), A 29 (p + 2), A 29 (p + 3))] := by
    rw [← take_snoc hen]
    congr 1
    omega
  have hla : md_last A s = (l.length : Int) := hr.last
  have hglL : gl g ((gL g T).take i.toNat) := gl_pre w6 (List.take_prefix _ _)
  unfold md_tk md_tkR
  by_cases c1 : i ≤ A 4 s ∨ (i ≤ md_last A s ∧ md_termAt A s i = A 29 p)
  · rw [if_pos c1, if_pos c1]
    refine ⟨l, hr, h8, hgl, hlt, fun X h _ => h, hm, hi, fun _ => ?_, lgo.rf A s⟩
    by_cases c2 : i ≤ A 4 s
    · refine ⟨?_, by omega⟩
      have := take_pre hb (i := i.toNat) (by rw [len_take (by omega)]; omega)
      rw [this, List.take_take, Nat.min_eq_left (by omega)]
    · have c3 := c1.resolve_left c2
      rw [hla] at c3
      rw [hr.term hs (by omega) c3.1] at c3
      refine ⟨?_, c3.1⟩
      obtain ⟨-, g1⟩ := hgl i.toNat (by omega) (by omega)
      obtain ⟨-, g2⟩ := w6 i.toNat (by omega) hiL
      rw [htmL] at g2
      rw [c3.2] at g1
      have e1 := pre_eq g1
      have e2 := pre_eq g2
      rw [len_take (by omega)] at e1
      rw [len_take hiL] at e2
      rw [e1, e2]
  · rw [if_neg c1, if_neg c1]
    have n4 : A 4 s < i := by omega
    have keyX : ∀ X : List En, X <+: l → X <+: gL g T → X.length ≤ (i - 1).toNat := fun X x1 x2 => by
      apply Nat.le_of_not_lt
      intro hx
      have hxl := x1.length_le
      have e1 := tm_pre x1 (i := i.toNat) (by omega)
      have e2 := tm_pre x2 (i := i.toNat) (by omega)
      refine c1 (Or.inr ⟨by rw [hla]; omega, ?_⟩)
      rw [hr.term hs (by omega) (by omega), e1, ← e2, htmL]
    have hcutx : ∃ l0, lgR c0 (md_cutx A s i) s l0 ∧ l0 = (gL g T).take (i - 1).toNat ∧ md_cutx A s i 8 s ≤ 48 ∧ lgo A (md_cutx A s i) s := by
      unfold md_cutx
      by_cases c2 : i ≤ md_last A s
      · rw [if_pos c2]
        refine ⟨_, hr.cut n4 (by omega), hm, by rw [md_us]; omega, fun k x a1 a2 a3 => ?_⟩
        unfold md_u
        rw [if_neg (by omega)]
      · rw [if_neg c2]
        refine ⟨l, hr, ?_, h8, lgo.rf A s⟩
        rw [← hm, List.take_of_length_le (by omega)]
    obtain ⟨l0, q1, q2, q3, q4⟩ := hcutx
    have q1' := q1
    obtain ⟨z1, z2, z3, -⟩ := q1'
    have hl0 : l0.length = (i - 1).toNat := by rw [q2]; exact len_take (by omega)
    have hgl0 : gl g l0 := by rw [q2]; exact gl_pre w6 (List.take_prefix _ _)
    have ltT : ∀ l1 : List En, l1 <+: gL g T → lt l1 ≤ T := fun l1 hp => by
      unfold lt
      by_cases hn : l1.length = 0
      · rw [hn, tm_0]; omega
      · rw [← tm_pre hp (Nat.le_refl _)]
        have hl := hp.length_le
        by_cases he : l1.length ≤ ge g T
        · have := w5 l1.length (by omega) he; omega
        · rw [w4 l1.length (by omega) hl]; exact Int.le_refl _
    have c29 : ∀ x, md_cutx A s i 29 x = A 29 x := fun x => by
      unfold md_cutx
      split
      · exact md_uk (by decide)
      · rfl
    by_cases c3 : 48 ≤ md_cutx A s i 8 s
    · rw [if_pos c3, if_pos c3]
      refine ⟨l0, q1, q3, hgl0, ltT l0 (by rw [q2]; exact List.take_prefix _ _), fun X x1 x2 => ?_, ?_, by omega, fun z => absurd z (by decide), q4⟩
      · exact pre_two x2 (by rw [q2]; exact List.take_prefix _ _) (by rw [hl0]; exact keyX X x1 x2)
      · rw [q2, List.take_take, Nat.min_self]
    · rw [if_neg c3, if_neg c3]
      unfold md_tkP
      have hp := q1.push (t := A 29 p) (so := A 29 (p + 1)) (ke := A 29 (p + 2)) (va := A 29 (p + 3))
      rw [q2, ← hsnoc] at hp
      have hlen : ((gL g T).take i.toNat).length = i.toNat := len_take hiL
      refine ⟨_, hp, ?_, hglL, ltT _ (List.take_prefix _ _), fun X x1 x2 => ?_, ?_, by omega, fun _ => ⟨by rw [List.take_take, Nat.min_self], by omega⟩, q4.tr (fun k x a1 a2 a3 => ?_)⟩
      · show md_push _ s _ _ _ _ 8 s ≤ 48
        unfold md_push
        rw [md_us]
        omega
      · exact pre_two x2 (List.take_prefix _ _) (by rw [hlen]; have := keyX X x1 x2; omega)
      · rw [List.take_take, Nat.min_eq_left (by omega)]
      · have hx8 := q1.2.1
        unfold md_push md_u
        rw [if_neg (by omega), if_neg (by omega), if_neg (by omega), if_neg (by omega), if_neg (by omega)]
end SF8
