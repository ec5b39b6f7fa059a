/-! safety: what was decided lies in every later leader's log -/
/-- L the leader's log of a term, e its length when elected, won by whom, V who voted for whom with which log, ack how much of a term's log a server confirmed, ev what was decided, G a server's log from the first index, C the log with which one stood -/
abbrev Gh : Type := (Int → List En) × (Int → Nat) × (Int → Option Nat) × (Int → Nat → Option (Nat × List En)) × (Int → Nat → Nat) × (Int → Nat → Nat → Prop) × (Nat → List En) × (Int → Nat → Option (List En))
def gL (g : Gh) : Int → List En := g.1
def ge (g : Gh) : Int → Nat := g.2.1
def gw (g : Gh) : Int → Option Nat := g.2.2.1
def gV (g : Gh) : Int → Nat → Option (Nat × List En) := g.2.2.2.1
def ga (g : Gh) : Int → Nat → Nat := g.2.2.2.2.1
def gv (g : Gh) : Int → Nat → Nat → Prop := g.2.2.2.2.2.1
def gG (g : Gh) : Nat → List En := g.2.2.2.2.2.2.1
def gC (g : Gh) : Int → Nat → Option (List En) := g.2.2.2.2.2.2.2
def gE (g : Gh) (t : Int) : List En := (gL g t).take (ge g t)
/-- each entry came from its term's leader -/
def gl (g : Gh) (l : List En) : Prop := ∀ i, 1 ≤ i → i ≤ l.length → (∃ c, gw g (tm l i) = some c) ∧ l.take i <+: gL g (tm l i)
def up (lg l : List En) : Prop := lt lg < lt l ∨ (lt lg = lt l ∧ lg.length ≤ l.length)
def kpL (g : Gh) (T : Int) (v : Nat) (lg : List En) : Prop := ∀ t, t < T → ∀ j, j ≤ ga g t v → (∀ T2 c, t < T2 → T2 < T → gw g T2 = some c → (gL g t).take j <+: gE g T2) → (gL g t).take j <+: lg
def kpE (g : Gh) (T : Int) (v : Nat) (lg : List En) : Prop := ∀ t, t < T → ∀ j, j ≤ ga g t v → (∀ T2 c, t < T2 → T2 ≤ T → gw g T2 = some c → (gL g t).take j <+: gE g T2) → (gL g t).take j <+: lg
def w_L (c0 : Int) (g : Gh) : Prop := ∀ t c, gw g t = some c → 1 ≤ t ∧ c < 5 ∧ ge g t ≤ (gL g t).length ∧ (∀ i, ge g t < i → i ≤ (gL g t).length → tm (gL g t) i = t) ∧ (∀ i, 1 ≤ i → i ≤ ge g t → tm (gL g t) i < t) ∧ gl g (gL g t) ∧ ∀ i, i ≤ (gL g t).length → set5 (cfg c0 ((gL g t).take i))
def w_Q (c0 : Int) (g : Gh) : Prop := ∀ T c, gw g T = some c → maj (cfg c0 (gE g T)) (fun v => ∃ lg, gV g T v = some (c, lg) ∧ gl g lg ∧ up lg (gE g T) ∧ kpL g T v lg)
def w_E (c0 : Int) (g : Gh) : Prop := ∀ t n j, gv g t n j → (∃ c, gw g t = some c) ∧ 1 ≤ j ∧ j ≤ n ∧ n ≤ (gL g t).length ∧ tm (gL g t) j = t ∧ maj (cfg c0 ((gL g t).take n)) (fun v => j ≤ ga g t v)
def w_M (c0 : Int) (g : Gh) : Prop := ∀ t c m, gw g t = some c → ge g t < m → m ≤ (gL g t).length → mb (gL g t) m → adj (cfg c0 ((gL g t).take (m - 1))) (cfg c0 ((gL g t).take m)) ∧ (∃ n j, n < m ∧ gv g t n j) ∧ ∀ m1, ge g t < m1 → m1 < m → mb (gL g t) m1 → ∃ n j, n < m ∧ m1 ≤ j ∧ gv g t n j
def Ws (c0 : Int) (g : Gh) : Prop := set5 c0 ∧ w_L c0 g ∧ w_Q c0 g ∧ w_E c0 g ∧ w_M c0 g
section SF
variable {c0 : Int} {g : Gh} {l l' E : List En} {t T x : Int}
theorem gl_pre (h : gl g l) (hp : l' <+: l) : gl g l' := fun i h1 h2 => by
  have hl : l'.length ≤ l.length := hp.length_le
  have := h i h1 (by omega)
  rw [tm_pre hp h2, take_pre hp h2] at this
  exact this
theorem gl_at (hw : w_L c0 g) (h : gl g l) {i : Nat} (h1 : 1 ≤ i) (h2 : i ≤ l.length) : ge g (tm l i) < i := by
  obtain ⟨⟨c, hc⟩, hp⟩ := h i h1 h2
  obtain ⟨-, -, -, -, h5, -, -⟩ := hw _ c hc
  apply Nat.not_le.mp
  intro hle
  have := h5 i h1 hle
  have e : tm (gL g (tm l i)) i = tm l i := by
    rw [tm_pre hp (by rw [len_take h2]; exact Nat.le_refl i)]
    exact (tm_pre (List.take_prefix i l) (by rw [len_take h2]; exact Nat.le_refl i)).symm
  omega
theorem gl_mono (hw : w_L c0 g) (h : gl g l) {i j : Nat} (h1 : 1 ≤ i) (h2 : i ≤ j) (h3 : j ≤ l.length) : tm l i ≤ tm l j := by
  obtain ⟨⟨c, hc⟩, hp⟩ := h j (by omega) h3
  obtain ⟨-, -, -, h4, h5, -, -⟩ := hw _ c hc
  have e : tm (gL g (tm l j)) i = tm l i := by
    rw [tm_pre hp (by rw [len_take h3]; exact h2)]
    exact (tm_pre (List.take_prefix j l) (by rw [len_take h3]; exact h2)).symm
  have hlen := hp.length_le
  rw [len_take h3] at hlen
  by_cases hi : i ≤ ge g (tm l j)
  · have := h5 i h1 hi
    omega
  · have := h4 i (by omega) (by omega)
    omega
theorem gl_pos (hw : w_L c0 g) (h : gl g l) {i : Nat} (h1 : 1 ≤ i) (h2 : i ≤ l.length) : 1 ≤ tm l i := by
  obtain ⟨⟨c, hc⟩, -⟩ := h i h1 h2
  exact (hw _ c hc).1
theorem gl_last (hw : w_L c0 g) (h : gl g l) (hn : l.length ≠ 0) : (∃ c, gw g (lt l) = some c) ∧ l <+: gL g (lt l) ∧ ge g (lt l) < l.length := by
  obtain ⟨h1, h2⟩ := h l.length (by omega) (Nat.le_refl _)
  rw [List.take_length] at h2
  exact ⟨h1, h2, gl_at hw h (by omega) (Nat.le_refl _)⟩
theorem gl_le (hw : w_L c0 g) (h : gl g l) {i : Nat} (h1 : 1 ≤ i) (h2 : i ≤ l.length) : tm l i ≤ lt l := gl_mono hw h h1 h2 (Nat.le_refl _)
theorem gl_lt0 (hn : l.length = 0) : lt l = 0 := by unfold lt; rw [hn]; rfl
theorem gl_set (h0 : set5 c0) (hw : w_L c0 g) (h : gl g l) : set5 (cfg c0 l) := by
  by_cases hn : l.length = 0
  · rw [List.length_eq_zero_iff.mp hn]
    exact h0
  · obtain ⟨⟨c, hc⟩, hp, -⟩ := gl_last hw h hn
    have := (hw _ c hc).2.2.2.2.2.2 l.length hp.length_le
    rw [← pre_eq hp] at this
    exact this
theorem gE_pre (g : Gh) (t : Int) : gE g t <+: gL g t := List.take_prefix _ _
theorem gE_len (hw : w_L c0 g) {c : Nat} (hc : gw g t = some c) : (gE g t).length = ge g t := len_take (hw t c hc).2.2.1
theorem gE_gl (hw : w_L c0 g) {c : Nat} (hc : gw g t = some c) : gl g (gE g t) := gl_pre (hw t c hc).2.2.2.2.2.1 (gE_pre g t)
theorem gE_lt (hw : w_L c0 g) {c : Nat} (hc : gw g t = some c) : lt (gE g t) < t := by
  have hlen := gE_len hw hc
  by_cases hn : (gE g t).length = 0
  · rw [gl_lt0 hn]
    have := (hw t c hc).1
    omega
  · unfold lt
    rw [hlen, ← tm_pre (gE_pre g t) (by omega)]
    exact (hw t c hc).2.2.2.2.1 _ (by omega) (Nat.le_refl _)
/-- between i and k at most one MEMBERS -/
theorem adj_seg (hw : w_L c0 g) (hm : w_M c0 g) {c : Nat} (hc : gw g t = some c) {i k : Nat} (h1 : ge g t ≤ i) (h2 : i ≤ k) (h3 : k ≤ (gL g t).length) (hev : ∀ n j, n < k → gv g t n j → j ≤ i) : adj (cfg c0 ((gL g t).take i)) (cfg c0 ((gL g t).take k)) := by
  by_cases hex : ∃ m, i < m ∧ m ≤ k ∧ mb (gL g t) m
  · obtain ⟨m, m1, m2, m3⟩ := hex
    have uniq : ∀ m', i < m' → m' ≤ k → mb (gL g t) m' → m' = m := by
      intro m' a1 a2 a3
      rcases Nat.lt_trichotomy m' m with hlt | heq | hgt
      · obtain ⟨n, j, n1, j1, e⟩ := (hm t c m hc (by omega) (by omega) m3).2.2 m' (by omega) hlt a3
        have := hev n j (by omega) e
        omega
      · exact heq
      · obtain ⟨n, j, n1, j1, e⟩ := (hm t c m' hc (by omega) (by omega) a3).2.2 m (by omega) hgt m3
        have := hev n j (by omega) e
        omega
    have ha := (hm t c m hc (by omega) (by omega) m3).1
    have e1 : cfg c0 ((gL g t).take (m - 1)) = cfg c0 ((gL g t).take i) := by
      have := cfg_same (c := c0) (l := gL g t) (i := i) (m - 1 - i) (by omega) (fun q q1 q2 q3 => by have := uniq q q1 (by omega) q3; omega)
      rw [show i + (m - 1 - i) = m - 1 by omega] at this
      exact this
    have e2 : cfg c0 ((gL g t).take k) = cfg c0 ((gL g t).take m) := by
      have := cfg_same (c := c0) (l := gL g t) (i := m) (k - m) (by omega) (fun q q1 q2 q3 => by have := uniq q (by omega) (by omega) q3; omega)
      rw [show m + (k - m) = k by omega] at this
      exact this
    rw [e2, ← e1]
    exact ha
  · have := cfg_same (c := c0) (l := gL g t) (i := i) (k - i) (by omega) (fun q q1 q2 q3 => hex ⟨q, q1, by omega, q3⟩)
    rw [show i + (k - i) = k by omega] at this
    rw [this]
    exact adj_rf _
/-- nothing decided: the configuration at the election -/
theorem cfg_seg (hm : w_M c0 g) {c : Nat} (hc : gw g t = some c) {k : Nat} (h2 : ge g t ≤ k) (h3 : k ≤ (gL g t).length) (hev : ∀ n j, n < k → gv g t n j → False) : cfg c0 ((gL g t).take k) = cfg c0 (gE g t) := by
  have := cfg_same (c := c0) (l := gL g t) (i := ge g t) (k - ge g t) (by omega) (fun q q1 q2 q3 => by
    obtain ⟨n, j, n1, e⟩ := (hm t c q hc q1 (by omega) q3).2.1
    exact hev n j (by omega) e)
  rw [show ge g t + (k - ge g t) = k by omega] at this
  exact this
def w_C (g : Gh) (M : Int) : Prop := ∀ T c, T ≤ M → gw g T = some c → ∀ t n j, t < T → gv g t n j → (gL g t).take j <+: gE g T
def w_A (c0 : Int) (g : Gh) (M : Int) : Prop := ∀ T c, T ≤ M → gw g T = some c → ∀ x cx, x < T → gw g x = some cx → lt (gE g T) < x → adj (cfg c0 (gE g x)) (cfg c0 (gE g T))
theorem sf_core (W : Ws c0 g) {M : Int} (hC : w_C g M) (hA : w_A c0 g M) (hTM : T ≤ M + 1) (hE : gl g E) (hlt : lt E < T)
    (hQ : maj (cfg c0 E) (fun v => ∃ lg, gl g lg ∧ up lg E ∧ ∀ t n j, t < T → gv g t n j → j ≤ ga g t v → (gL g t).take j <+: lg)) :
    ∀ (k : Nat) (x : Int), x ≤ k → (x < T → ∀ n j, gv g x n j → (gL g x).take j <+: E) ∧ (x ≤ T → x ≤ M → ∀ cx, gw g x = some cx → lt E < x → adj (cfg c0 (gE g x)) (cfg c0 E)) := by
  obtain ⟨h0, hw, hq, hev, hm⟩ := W
  intro k
  induction k with
  | zero =>
    intro x hx
    refine ⟨fun _ n j e => ?_, fun _ _ cx hc => ?_⟩
    · obtain ⟨⟨c, hc⟩, -⟩ := hev x n j e
      have := (hw x c hc).1
      omega
    · have := (hw x cx hc).1
      omega
  | succ k ih =>
    intro x hx
    have hevl : ∀ {t n j}, gv g t n j → ((gL g t).take j).length = j := fun e => len_take (by have := hev _ _ _ e; omega)
    -- an event of t in E: E's entry j has term t
    have inE : ∀ {t n j} {F : List En}, gl g F → gv g t n j → (gL g t).take j <+: F → t ≤ lt F ∧ j ≤ F.length := fun {t n j F} hF e hp => by
      have hl := hp.length_le
      rw [hevl e] at hl
      have h3 := hev _ _ _ e
      have e1 : tm F j = t := by
        rw [tm_pre hp (by rw [hevl e]; exact Nat.le_refl j), ← h3.2.2.2.2.1]
        rw [h3.2.2.2.2.1]
        have := tm_pre (List.take_prefix j (gL g t)) (i := j) (by rw [hevl e]; exact Nat.le_refl j)
        rw [h3.2.2.2.2.1] at this
        exact this.symm
      have := gl_le hw hF (by omega) hl
      omega
    have hAdj : x ≤ T → x ≤ M → ∀ cx, gw g x = some cx → lt E < x → adj (cfg c0 (gE g x)) (cfg c0 E) := by
      intro hxT hxM cx hcx hb
      have hgx := gE_gl hw hcx
      have ha := gE_lt hw hcx
      have hxl := gE_len hw hcx
      rcases Int.lt_trichotomy (lt (gE g x)) (lt E) with hab | hab | hab
      · -- a < b
        have hn : E.length ≠ 0 := fun z => by
          rw [gl_lt0 z] at hab
          by_cases hz : (gE g x).length = 0
          · rw [gl_lt0 hz] at hab; omega
          · have := gl_pos hw hgx (i := (gE g x).length) (by omega) (Nat.le_refl _)
            unfold lt at hab
            omega
        obtain ⟨⟨cb, hcb⟩, hpb, heb⟩ := gl_last hw hE hn
        have e1 := cfg_seg hm hcb (k := E.length) (by omega) hpb.length_le (fun n j _ e => by
          have := inE hgx e (hC x cx hxM hcx _ n j hb e)
          omega)
        rw [← pre_eq hpb] at e1
        rw [e1]
        exact adj_sm (hA x cx hxM hcx _ cb hb hcb hab)
      · -- a = b
        by_cases hn : E.length = 0
        · have hz : (gE g x).length = 0 := by
            by_cases hz : (gE g x).length = 0
            · exact hz
            · have := gl_pos hw hgx (i := (gE g x).length) (by omega) (Nat.le_refl _)
              rw [gl_lt0 hn] at hab
              unfold lt at hab
              omega
          rw [List.length_eq_zero_iff.mp hn, List.length_eq_zero_iff.mp hz]
          exact adj_rf _
        · have hz : (gE g x).length ≠ 0 := fun z => by
            have := gl_pos hw hE (i := E.length) (by omega) (Nat.le_refl _)
            rw [gl_lt0 z] at hab
            unfold lt at hab
            omega
          obtain ⟨⟨cb, hcb⟩, hpb, heb⟩ := gl_last hw hE hn
          obtain ⟨-, hpa, hea⟩ := gl_last hw hgx hz
          rw [hab] at hpa hea
          by_cases hle : (gE g x).length ≤ E.length
          · have := adj_seg hw hm hcb (i := (gE g x).length) (k := E.length) (by omega) hle hpb.length_le (fun n j _ e => (inE hgx e (hC x cx hxM hcx _ n j hb e)).2)
            rw [← pre_eq hpb, ← pre_eq hpa] at this
            exact this
          · have := adj_seg hw hm hcb (i := E.length) (k := (gE g x).length) (by omega) (by omega) hpa.length_le (fun n j _ e => (inE hE e ((ih (lt E) (by omega)).1 hlt n j e)).2)
            rw [← pre_eq hpb, ← pre_eq hpa] at this
            exact adj_sm this
      · -- b < a
        have hn : (gE g x).length ≠ 0 := fun z => by
          rw [gl_lt0 z] at hab
          by_cases hz : E.length = 0
          · rw [gl_lt0 hz] at hab; omega
          · have := gl_pos hw hE (i := E.length) (by omega) (Nat.le_refl _)
            unfold lt at hab
            omega
        obtain ⟨⟨ca, hca⟩, hpa, hea⟩ := gl_last hw hgx hn
        have e1 := cfg_seg hm hca (k := (gE g x).length) (by omega) hpa.length_le (fun n j _ e => by
          have := inE hE e ((ih (lt (gE g x)) (by omega)).1 (by omega) n j e)
          omega)
        rw [← pre_eq hpa] at e1
        rw [e1]
        exact (ih (lt (gE g x)) (by omega)).2 (by omega) (by omega) ca hca hab
    refine ⟨fun hxT => ?_, hAdj⟩
    have hCn : ∀ (N n j : Nat), n ≤ N → gv g x n j → (gL g x).take j <+: E := by
      intro N
      induction N with
      | zero =>
        intro n j hn e
        have := hev _ _ _ e
        omega
      | succ N ihn =>
        intro n j hn e
        obtain ⟨⟨cx, hcx⟩, j1, jn, nl, tj, hmj⟩ := hev _ _ _ e
        have hx1 := (hw x cx hcx).1
        -- a voter who confirmed j
        have meet : ∀ {c1 : Int}, set5 c1 → maj c1 (fun v => j ≤ ga g x v) → adj c1 (cfg c0 E) → ∃ lg, gl g lg ∧ up lg E ∧ x ≤ lt lg ∧ j ≤ lg.length := by
          intro c1 hs hm1 hadj
          obtain ⟨v, hv, ha, lg, g1, g2, g3⟩ := maj_meet hs (gl_set h0 hw hE) hadj hm1 hQ
          have := inE g1 e (g3 x n j hxT e ha)
          exact ⟨lg, g1, g2, this.1, this.2⟩
        have hset : set5 (cfg c0 ((gL g x).take n)) := (hw x cx hcx).2.2.2.2.2.2 n nl
        rcases Int.lt_trichotomy (lt E) x with hb | hb | hb
        · have e1 := cfg_seg hm hcx (k := n) (by
            apply Nat.le_of_not_lt
            intro z
            have := (hw x cx hcx).2.2.2.2.1 j j1 (by omega)
            omega) nl (fun n' j' hn' e' => by
            have := inE hE e' (ihn n' j' (by omega) e')
            omega)
          rw [e1] at hmj hset
          obtain ⟨lg, -, g2, g3, -⟩ := meet hset hmj (hAdj (by omega) (by omega) cx hcx hb)
          unfold up at g2
          omega
        · have hnE : E.length ≠ 0 := fun z => by rw [gl_lt0 z] at hb; omega
          obtain ⟨-, hpb, heb⟩ := gl_last hw hE hnE
          rw [hb] at hpb heb
          by_cases hj : j ≤ E.length
          · exact pre_two (List.take_prefix _ _) hpb (by rw [hevl e]; exact hj)
          · have := adj_seg hw hm hcx (i := E.length) (k := n) (by omega) (by omega) nl (fun n' j' hn' e' => (inE hE e' (ihn n' j' (by omega) e')).2)
            rw [← pre_eq hpb] at this
            obtain ⟨lg, -, g2, g3, g4⟩ := meet hset hmj (adj_sm this)
            unfold up at g2
            omega
        · have hnE : E.length ≠ 0 := fun z => by rw [gl_lt0 z] at hb; omega
          obtain ⟨⟨cb, hcb⟩, hpb, heb⟩ := gl_last hw hE hnE
          have h1 := hC _ cb (by omega) hcb x n j hb e
          exact h1.trans (pre_two (gE_pre g _) hpb (by rw [gE_len hw hcb]; omega))
    intro n j e
    exact hCn n n j (Nat.le_refl n) e
theorem sf_rec (W : Ws c0 g) : ∀ M : Nat, w_C g M ∧ w_A c0 g M := by
  intro M
  obtain ⟨h0, hw, hq, hev, hm⟩ := W
  induction M with
  | zero =>
    refine ⟨fun T c hT hc => ?_, fun T c hT hc => ?_⟩ <;> (have := (hw T c hc).1; omega)
  | succ M ih =>
    obtain ⟨hC, hA⟩ := ih
    have key : ∀ T c, T = ((M + 1 : Nat) : Int) → gw g T = some c → ∀ (k : Nat) (x : Int), x ≤ k → (x < T → ∀ n j, gv g x n j → (gL g x).take j <+: gE g T) ∧ (x ≤ T → x ≤ M → ∀ cx, gw g x = some cx → lt (gE g T) < x → adj (cfg c0 (gE g x)) (cfg c0 (gE g T))) := fun T c hT hc => by
      refine sf_core ⟨h0, hw, hq, hev, hm⟩ hC hA (by omega) (gE_gl hw hc) (gE_lt hw hc) (maj_mono (hq T c hc) (fun v _ hv => ?_))
      obtain ⟨lg, -, g1, g2, g3⟩ := hv
      exact ⟨lg, g1, g2, fun t n j ht e hj => g3 t ht j hj (fun T2 c2 a1 a2 a3 => hC T2 c2 (by omega) a3 t n j a1 e)⟩
    refine ⟨fun T c hT hc t n j ht e => ?_, fun T c hT hc x cx hx hcx hlt => ?_⟩
    · by_cases hTM : T ≤ M
      · exact hC T c hTM hc t n j ht e
      · have hT1 : T = ((M + 1 : Nat) : Int) := by omega
        exact (key T c hT1 hc (M + 1) t (by omega)).1 ht n j e
    · by_cases hTM : T ≤ M
      · exact hA T c hTM hc x cx hx hcx hlt
      · have hT1 : T = ((M + 1 : Nat) : Int) := by omega
        exact (key T c hT1 hc (M + 1) x (by omega)).2 (by omega) (by omega) cx hcx hlt
theorem sf_comp (W : Ws c0 g) {c : Nat} (hc : gw g T = some c) {n j : Nat} (ht : t < T) (e : gv g t n j) : (gL g t).take j <+: gE g T :=
  (sf_rec W T.toNat).1 T c (by omega) hc t n j ht e
/-- a winner at last: what was decided before lies in its log; and one leader a term -/
theorem sf_win (W : Ws c0 g) (hE : gl g E) (hlt : lt E < T) (c : Nat)
    (hQ : maj (cfg c0 E) (fun v => ∃ lg, gV g T v = some (c, lg) ∧ gl g lg ∧ up lg E ∧ kpE g T v lg)) : ∀ c', gw g T = some c' → c' = c := by
  intro c' hc'
  have hr := sf_rec W T.toNat
  obtain ⟨h0, hw, hq, hev, hm⟩ := W
  have h1 := (hw T c' hc').1
  have := (sf_core (T := T) (E := E) ⟨h0, hw, hq, hev, hm⟩ hr.1 hr.2 (by omega) hE hlt (maj_mono hQ (fun v _ hv => by
    obtain ⟨lg, -, g1, g2, g3⟩ := hv
    exact ⟨lg, g1, g2, fun t n j ht e hj => g3 t ht j hj (fun T2 c2 a1 a2 a3 => hr.1 T2 c2 (by omega) a3 t n j a1 e)⟩)) T.toNat T (by omega)).2 (Int.le_refl _) (by omega) c' hc' hlt
  obtain ⟨v, -, ⟨lg, a1, -⟩, ⟨lg', b1, -⟩⟩ := maj_meet (gl_set h0 hw (gE_gl hw hc')) (gl_set h0 hw hE) this (hq T c' hc') hQ
  rw [a1] at b1
  cases b1
  rfl
end SF
