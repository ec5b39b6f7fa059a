/-! the class: new cells by number; the row's constructor -/
def al_f {α : Type} (f : Nat → α) (j : Nat) (v : α) : Nat → α := fun t => if t = j then v else f t
theorem al_fs {α : Type} (f : Nat → α) (j : Nat) (v : α) : al_f f j v j = v := if_pos rfl
theorem al_fo {α : Type} (f : Nat → α) {j t : Nat} (v : α) (h : t ≠ j) : al_f f j v t = f t := if_neg h
def al_m {α : Type} (T : Nat → Bool) (f2 f : Nat → α) : Nat → α := fun t => if T t = true then f2 t else f t
theorem al_ms {α : Type} {T : Nat → Bool} {f2 f : Nat → α} {t : Nat} (h : T t = true) : al_m T f2 f t = f2 t := if_pos h
theorem al_mo {α : Type} {T : Nat → Bool} {f2 f : Nat → α} {t : Nat} (h : T t = false) : al_m T f2 f t = f t := if_neg (by rw [h]; decide)
def al_1 (j : Nat) : Nat → Bool := fun t => t == j
theorem al_1t {j t : Nat} : al_1 j t = true ↔ t = j := by simp [al_1]
theorem al_1o {j t : Nat} (h : t ≠ j) : al_1 j t = false := by simp [al_1, h]
/-- over h, with the object q being made: cells c t at new addresses f t, t in T -/
def al (h h' : qh_H) (q : Nat) (f : Nat → Nat) (c : Nat → va_E) (T : Nat → Bool) : Prop :=
  (∀ t, T t = true → h (f t) = none ∧ f t ≠ q ∧ h' (f t) = some (c t)) ∧ (∀ t u, T t = true → T u = true → f t = f u → t = u) ∧ ∀ a x, a ≠ q → h a = some x → h' a = some x
section AL
variable {h h' h1 h2 : qh_H} {q : Nat} {f f2 : Nat → Nat} {c c2 : Nat → va_E} {T T2 : Nat → Bool}
theorem al_nil (h : qh_H) (q : Nat) (f : Nat → Nat) (c : Nat → va_E) : al h h q f c (fun _ => false) := ⟨fun t ht => (by cases ht), fun t u ht => (by cases ht), fun a x _ hx => hx⟩
theorem al.cg (H : al h h' q f c T) {f' : Nat → Nat} {c' : Nat → va_E} {T' : Nat → Bool} (hT : ∀ t, T' t = T t) (hf : ∀ t, T t = true → f' t = f t) (hc : ∀ t, T t = true → c' t = c t) : al h h' q f' c' T' := by
  refine ⟨fun t ht => ?_, fun t u ht hu e => ?_, H.2.2⟩
  · rw [hT] at ht
    rw [hf t ht, hc t ht]
    exact H.1 t ht
  · rw [hT] at ht hu
    rw [hf t ht, hf u hu] at e
    exact H.2.1 t u ht hu e
theorem al.put (H : al h h' q f c T) (y : Option va_E) : al h (va_up h' q y) q f c T :=
  ⟨fun t ht => ⟨(H.1 t ht).1, (H.1 t ht).2.1, (va_up_o h' y (H.1 t ht).2.1).trans (H.1 t ht).2.2⟩, H.2.1, fun a x ha hx => (va_up_o h' y ha).trans (H.2.2 a x ha hx)⟩
theorem al.new (H : al h h' q f c T) {a j : Nat} (hn : h' a = none) {row : va_E} (hq : h' q = some row) (hj : T j = false) (y : va_E) : al h (va_up h' a (some y)) q (al_f f j a) (al_f c j y) (fun t => t == j || T t) ∧ va_up h' a (some y) q = some row := by
  have haq : a ≠ q := fun e => by rw [e, hq] at hn; cases hn
  have ha : h a = none := by
    cases hx : h a with
    | none => rfl
    | some x => rw [H.2.2 a x haq hx] at hn; cases hn
  have hne : ∀ t, T t = true → f t ≠ a := fun t ht e => by
    have := (H.1 t ht).2.2
    rw [e, hn] at this
    cases this
  have hsp : ∀ t, (t == j || T t) = true → t = j ∨ (t ≠ j ∧ T t = true) := fun t ht => by
    by_cases htj : t = j
    · exact Or.inl htj
    · refine Or.inr ⟨htj, ?_⟩
      simpa [htj] using ht
  refine ⟨⟨fun t ht => ?_, fun t u ht hu e => ?_, fun a' x ha' hx => ?_⟩, (va_up_o h' _ (Ne.symm haq)).trans hq⟩
  · rcases hsp t ht with rfl | ⟨htj, ht⟩
    · rw [al_fs, al_fs]
      exact ⟨ha, haq, va_up_self _ _ _⟩
    · rw [al_fo _ _ htj, al_fo _ _ htj]
      exact ⟨(H.1 t ht).1, (H.1 t ht).2.1, (va_up_o h' _ (hne t ht)).trans (H.1 t ht).2.2⟩
  · rcases hsp t ht with ht1 | ⟨htj, ht1⟩ <;> rcases hsp u hu with hu1 | ⟨huj, hu1⟩
    · rw [ht1, hu1]
    · rw [ht1, al_fs, al_fo _ _ huj] at e
      exact absurd e.symm (hne u hu1)
    · rw [hu1, al_fs, al_fo _ _ htj] at e
      exact absurd e (hne t ht1)
    · rw [al_fo _ _ htj, al_fo _ _ huj] at e
      exact H.2.1 t u ht1 hu1 e
  · refine (va_up_o h' _ ?_).trans (H.2.2 a' x ha' hx)
    intro e
    rw [e, ha] at hx
    cases hx
theorem al.set (H : al h h' q f c T) {j : Nat} (hj : T j = true) (y : va_E) : al h (va_up h' (f j) (some y)) q f (al_f c j y) T := by
  refine ⟨fun t ht => ⟨(H.1 t ht).1, (H.1 t ht).2.1, ?_⟩, H.2.1, fun a x ha hx => ?_⟩
  · by_cases htj : t = j
    · subst htj
      rw [al_fs]
      exact va_up_self _ _ _
    · rw [al_fo _ _ htj]
      exact (va_up_o h' _ (fun e => htj (H.2.1 t j ht hj e))).trans (H.1 t ht).2.2
  · refine (va_up_o h' _ ?_).trans (H.2.2 a x ha hx)
    intro e
    rw [e, (H.1 j hj).1] at hx
    cases hx
theorem al.app (H : al h h1 q f c T) {j a0 : Nat} (hj : T j = true) (ha0 : f j = a0) (H2 : al h1 h2 a0 f2 c2 T2) {y row : va_E} (hy : h2 a0 = some y) (hd : ∀ t, T t = true → T2 t = true → False) (hq : h1 q = some row) :
    al h h2 q (al_m T2 f2 f) (al_m T2 c2 (al_f c j y)) (fun t => T2 t || T t) ∧ h2 q = some row := by
  subst ha0
  have hqj : q ≠ f j := fun e => (H.1 j hj).2.1 e.symm
  have h2q := H2.2.2 q row hqj hq
  have hsp : ∀ t, (T2 t || T t) = true → T2 t = true ∨ (T2 t = false ∧ T t = true) := fun t ht => by
    cases h9 : T2 t with
    | true => exact Or.inl rfl
    | false => rw [h9] at ht; exact Or.inr ⟨rfl, by simpa using ht⟩
  refine ⟨⟨fun t ht => ?_, fun t u ht hu e => ?_, fun a x ha hx => ?_⟩, h2q⟩
  · rcases hsp t ht with ht2 | ⟨ht2, ht1⟩
    · rw [al_ms ht2, al_ms ht2]
      have hqf : f2 t ≠ q := fun e => by
        have := (H2.1 t ht2).1
        rw [e, hq] at this
        cases this
      refine ⟨?_, hqf, (H2.1 t ht2).2.2⟩
      cases hx : h (f2 t) with
      | none => rfl
      | some x =>
        have := H.2.2 _ x hqf hx
        rw [(H2.1 t ht2).1] at this
        cases this
    · rw [al_mo ht2, al_mo ht2]
      refine ⟨(H.1 t ht1).1, (H.1 t ht1).2.1, ?_⟩
      by_cases htj : t = j
      · subst htj
        rw [al_fs]
        exact hy
      · rw [al_fo _ _ htj]
        exact H2.2.2 _ _ (fun e => htj (H.2.1 t j ht1 hj e)) (H.1 t ht1).2.2
  · rcases hsp t ht with ht2 | ⟨ht2, ht1⟩ <;> rcases hsp u hu with hu2 | ⟨hu2, hu1⟩
    · rw [al_ms ht2, al_ms hu2] at e
      exact H2.2.1 t u ht2 hu2 e
    · rw [al_ms ht2, al_mo hu2] at e
      have := (H2.1 t ht2).1
      rw [e, (H.1 u hu1).2.2] at this
      cases this
    · rw [al_mo ht2, al_ms hu2] at e
      have := (H2.1 u hu2).1
      rw [← e, (H.1 t ht1).2.2] at this
      cases this
    · rw [al_mo ht2, al_mo hu2] at e
      exact H.2.1 t u ht1 hu1 e
  · refine H2.2.2 a x ?_ (H.2.2 a x ha hx)
    intro e
    rw [e, (H.1 j hj).1] at hx
    cases hx
/-- out of a list of new cells -/
theorem al_hc {x : va_E} {P : List (Nat × va_E)} (hP : hk h q P) (hm : ∀ t, T t = true → (f t, c t) ∈ P) (hi : ∀ t u, T t = true → T u = true → f t = f u → t = u) : al h (hc h q x P) q f c T := by
  have hmem : ∀ (P : List (Nat × va_E)) (p : Nat × va_E), (P.map (·.1)).Nodup → p ∈ P → P.find? (fun r => r.1 == p.1) = some p := by
    intro P
    induction P with
    | nil => intro p _ hp; cases hp
    | cons r P ih =>
      intro p hn hp
      rw [List.map_cons, List.nodup_cons] at hn
      rw [List.find?_cons]
      rcases List.mem_cons.mp hp with rfl | hp
      · simp
      · have : (r.1 == p.1) = false := by
          simp
          intro e
          exact hn.1 (by rw [e]; exact List.mem_map_of_mem hp)
        rw [this]
        exact ih p hn.2 hp
  refine ⟨fun t ht => ?_, hi, fun a y ha hy => ?_⟩
  · have h1 := hP.2 _ (hm t ht)
    refine ⟨h1.2, h1.1, ?_⟩
    unfold hc
    rw [if_neg h1.1, hmem P _ hP.1 (hm t ht)]
  · unfold hc
    rw [if_neg ha]
    cases hf : P.find? (fun p => p.1 == a) with
    | none => exact hy
    | some p =>
      have h1 := List.mem_of_find?_eq_some hf
      have h2 := List.find?_some hf
      have h3 := (hP.2 p h1).2
      have h4 : p.1 = a := by simpa using h2
      rw [h4, hy] at h3
      cases h3
/-- a new message -/
theorem al_M {G : qh_G} {sn en : Nat} {y z : va_E} (hq : h q = some z) (hen : h en = none) (j : Nat) : al h (va_up (va_up h en (some (cE G 4 2 (fun _ => none)))) q (some y)) q (fun _ => en) (fun _ => cE G 4 2 (fun _ => none)) (al_1 j) := by
  have hne : en ≠ q := fun e => by rw [e, hq] at hen; cases hen
  refine ⟨fun t _ => ⟨hen, hne, (va_up_o _ _ hne).trans (va_up_self _ _ _)⟩, fun t u ht hu _ => ?_, fun a x ha hx => ?_⟩
  · rw [al_1t.mp ht, al_1t.mp hu]
  · refine (va_up_o _ _ ha).trans ((va_up_o _ _ ?_).trans hx)
    intro e
    rw [e, hen] at hx
    cases hx
end AL
def cw_T (i : Nat) : Nat → Bool := fun t => t == 3 || (decide (100 ≤ t) && decide (t < 100 + i)) || (decide (200 ≤ t) && decide (t < 200 + i))
theorem cw_Ti {i t : Nat} : cw_T i t = true ↔ t = 3 ∨ (100 ≤ t ∧ t < 100 + i) ∨ (200 ≤ t ∧ t < 200 + i) := by
  unfold cw_T
  simp [or_assoc]
theorem cw_Tf {i t : Nat} (h : ¬ (t = 3 ∨ (100 ≤ t ∧ t < 100 + i) ∨ (200 ≤ t ∧ t < 200 + i))) : cw_T i t = false := by
  cases h9 : cw_T i t with
  | false => rfl
  | true => exact absurd (cw_Ti.mp h9) h
def cw_M (en sn : Nat) : va_E := .inr (3, [.ref en, .int 0, .int 0, .int 0, .int 0, .int 0, .int 0, .int 0, .int 0, .int 0, .int 0, .ref sn])
abbrev cw_N : va_E := .inr (3, [.null, .int 0, .int 0, .int 0, .int 0, .int 0, .int 0, .int 0, .int 0, .int 0, .int 0, .null])
def cw_C (G : qh_G) (f : Nat → Nat) (c : Nat → va_E) (sn i p : Nat) : Prop := c 3 = cE G 5 49 (fun k => if k < p then some (f (100 + k)) else none) ∧ ∀ k, k < i → c (100 + k) = cw_M (f (200 + k)) sn ∧ c (200 + k) = cE G 4 2 (fun _ => none)
theorem cw_step {G : qh_G} {h h1 h2 : qh_H} {q a en sn i p : Nat} {f : Nat → Nat} {c : Nat → va_E} {row : va_E} (H : al h h1 q f c (cw_T i)) (hC : cw_C G f c sn i p) (hi : i < 50) (hp : p ≤ i) (hq : h1 q = some row) (hn : h1 a = none) (hen : va_up h1 a (some cw_N) en = none)
    (e2 : h2 = va_up (va_up (va_up h1 a (some cw_N)) en (some (cE G 4 2 (fun _ => none)))) a (some (cw_M en sn))) : ∃ (f' : Nat → Nat) (c' : Nat → va_E), al h h2 q f' c' (cw_T (i + 1)) ∧ cw_C G f' c' sn (i + 1) p ∧ h2 q = some row ∧ f' 3 = f 3 ∧ f' (100 + i) = a ∧ ∀ k, k < i → f' (100 + k) = f (100 + k) := by
  have hTn : cw_T i (100 + i) = false := cw_Tf (by omega)
  obtain ⟨H1, q1⟩ := H.new hn hq hTn cw_N
  obtain ⟨H2, q2⟩ := H1.app (j := 100 + i) (a0 := a) (by simp) (al_fs _ _ _) (al_M (sn := sn) (y := cw_M en sn) (va_up_self _ _ _) hen (200 + i)) (va_up_self _ _ _) (fun t h1 h2 => by
    have h2 := al_1t.mp h2
    subst h2
    have h3 : (200 + i = 100 + i) ∨ cw_T i (200 + i) = true := by simpa using h1
    rcases h3 with h1 | h1
    · omega
    · have := cw_Ti.mp h1
      omega) q1
  have g : ∀ t, t ≠ 200 + i → al_1 (200 + i) t = false := fun t ht => al_1o ht
  rw [← e2] at H2 q2
  refine ⟨_, _, H2.cg (fun t => ?_) (fun _ _ => rfl) (fun _ _ => rfl), ⟨?_, fun k hk => ?_⟩, q2, ?_, ?_, fun k hk => ?_⟩
  · rw [Bool.eq_iff_iff, cw_Ti, Bool.or_eq_true, Bool.or_eq_true, al_1t, cw_Ti, beq_iff_eq]
    omega
  · rw [al_mo (g 3 (by omega)), al_fo _ _ (by omega), al_fo _ _ (by omega), hC.1]
    congr 6
    funext k
    by_cases hk : k < p
    · rw [if_pos hk, if_pos hk, al_mo (g _ (by omega)), al_fo _ _ (by omega)]
    · rw [if_neg hk, if_neg hk]
  · by_cases hki : k = i
    · subst hki
      refine ⟨?_, ?_⟩
      · rw [al_mo (g _ (by omega)), al_fs, al_ms (al_1t.mpr rfl)]
      · rw [al_ms (al_1t.mpr rfl)]
    · have := hC.2 k (by omega)
      rw [al_mo (g _ (by omega)), al_mo (g _ (by omega)), al_mo (g _ (by omega)), al_fo _ _ (by omega), al_fo _ _ (by omega), al_fo _ _ (by omega), al_fo _ _ (by omega), al_fo _ _ (by omega)]
      exact this
  · rw [al_mo (g 3 (by omega)), al_fo _ _ (by omega)]
  · rw [al_mo (g _ (by omega)), al_fs]
  · rw [al_mo (g _ (by omega)), al_fo _ _ (by omega)]
set_option maxRecDepth 100000 in
theorem c_Winit (l : Launch) (G : qh_G) (b : Nat) {h : qh_H} {q sn : Nat} (hq : h q = some (.inr (5, [.null, .null, .int 0]))) (d : Nat) : qpv l y_W_init c_W_init 3 none (d + 2) 101 749 G b [.ref q, .ref sn] h (fun h' => ∃ (f : Nat → Nat) (c : Nat → va_E), al h h' q f c (cw_T 50) ∧ cw_C G f c sn 50 49 ∧ h' q = some (.inr (5, [.ref (f 3), .ref (f 149), .int 0]))) := by
  refine qx_of (lo := [some (.ref q), some (.ref sn), none]) (by decide) (fun w hw => List.mem_cons_of_mem _ hw) rfl (Nat.le_of_ble_eq_true rfl) rfl ?_
  intro X C
  refine qx_aload_n C d_W_init_0 rfl rfl ?_
  refine qx_objI C d_W_init_1 oi_W_3 oi_1 oi_2 rfl (by show 1 ≤ d + 2; omega) (by show 0 + 12 ≤ 32 * (d + 2); omega) ?_
  refine qx_aload_n C d_W_init_4 rfl rfl ?_
  refine qx_bipush C d_W_init_5 (v := iI (49)) (by decide) ?_
  refine qx_newq C d_W_init_7 (t := 5) rfl cl_W_9 (by decide) (by decide) (N := 49) (by decide) (by decide) (Nat.le_of_ble_eq_true rfl) (Nat.le_of_ble_eq_true rfl) (fun pl hpl => ?_)
  have hne : q ≠ pl := fun e => by rw [← e, hq] at hpl; cases hpl
  obtain ⟨H0, q0⟩ := (al_nil h q (fun _ => 0) (fun _ => cw_N)).new hpl hq rfl (j := 3) (cE G 5 49 (fun _ => none))
  refine qx_putF C d_W_init_10 rfl fp_W_11 q0 (Nat.le_of_ble_eq_true rfl) rfl rfl ?_
  replace H0 := H0.put (some (.inr (5, [.ref pl, .null, .int 0])))
  have Lp : ∀ (r i : Nat) (f : Nat → Nat) (c : Nat → va_E) (h1 : qh_H), i + r = 49 → al h h1 q f c (cw_T i) → cw_C G f c sn i i → h1 q = some (.inr (5, [.ref (f 3), .null, .int 0])) → X 15 [some (.ref q), some (.ref sn), some (.int (iI i))] [] h1 (1 + 2 * i) (49 + 14 * i) := by
    intro r
    induction r with
    | zero =>
      intro i f c h1 hi H hC hq1
      have hi9 : i = 49 := by omega
      subst hi9
      have h3 := H.1 3 (cw_Ti.mpr (Or.inl rfl))
      refine qx_iload_n C d_W_init_15 rfl rfl ?_
      refine qx_aload_n C d_W_init_16 rfl rfl ?_
      refine qx_get C d_W_init_17 fl_W_11 hq1 rfl ?_
      refine qx_alen C d_W_init_20 (by rw [h3.2.2, hC.1]) (t := 5) rfl rfl ?_
      rw [iI_nat]
      refine nx_icmp_ge C 44 d_W_init_21 (by decide) (by omega) (by omega) (fun z1 => ?_) (fun z1 => ?_)
      · refine qx_aload_n C d_W_init_44 rfl rfl ?_
        refine qx_new C d_W_init_45 nw_W_9 (Nat.le_of_ble_eq_true rfl) (Nat.le_of_ble_eq_true rfl) (fun a na => ?_)
        refine qx_dup C d_W_init_48 rfl ?_
        refine qx_aload_n C d_W_init_49 rfl rfl ?_
        refine nx_callpv C s_W_init_50 (c_Minit l G b (va_up_self _ _ _) d) w_M_init rfl rfl (Nat.le_of_ble_eq_true rfl) (by omega) (by decide) (fun hh hP => ?_)
        obtain ⟨en, hen, rfl⟩ := hP
        obtain ⟨f', c', H', hC', hq', e3, e4, -⟩ := cw_step H hC (by omega) (by omega) hq1 na hen rfl
        refine qx_put C d_W_init_53 fp_W_20 hq' (Nat.le_of_ble_eq_true rfl) rfl rfl ?_
        refine qx_vret C d_W_init_56 (Nat.le_of_ble_eq_true rfl) (Nat.le_of_ble_eq_true rfl) ⟨rfl, f', c', H'.put _, hC', ?_⟩
        rw [va_up_self, e3]
        show some (Sum.inr (5, [Value.ref (f 3), Value.ref a, Value.int 0])) = _
        rw [e4]
      · exact absurd z1 (by omega)
    | succ r ih =>
      intro i f c h1 hi H hC hq1
      have h3 := H.1 3 (cw_Ti.mpr (Or.inl rfl))
      refine qx_iload_n C d_W_init_15 rfl rfl ?_
      refine qx_aload_n C d_W_init_16 rfl rfl ?_
      refine qx_get C d_W_init_17 fl_W_11 hq1 rfl ?_
      refine qx_alen C d_W_init_20 (by rw [h3.2.2, hC.1]) (t := 5) rfl rfl ?_
      rw [iI_nat]
      refine nx_icmp_ge C 44 d_W_init_21 (by decide) (by omega) (by omega) (fun z1 => ?_) (fun z1 => ?_)
      · exact absurd z1 (by omega)
      · refine qx_aload_n C d_W_init_24 rfl rfl ?_
        refine qx_get C d_W_init_25 fl_W_11 hq1 rfl ?_
        refine qx_iload_n C d_W_init_28 rfl rfl ?_
        refine qx_new C d_W_init_29 nw_W_9 (by show 1 + 2 * i + 1 ≤ 101; omega) (by show 49 + 14 * i + 12 ≤ 749; omega) (fun a na => ?_)
        refine qx_dup C d_W_init_32 rfl ?_
        refine qx_aload_n C d_W_init_33 rfl rfl ?_
        refine nx_callpv C s_W_init_34 (c_Minit l G b (va_up_self _ _ _) d) w_M_init rfl rfl (Nat.le_of_ble_eq_true rfl) (by omega) (by decide) (fun hh hP => ?_)
        obtain ⟨en, hen, rfl⟩ := hP
        obtain ⟨f', c', H', hC', hq', e3, e4, e5⟩ := cw_step H hC (by omega) (by omega) hq1 na hen rfl
        have g3 := H'.1 3 (cw_Ti.mpr (Or.inl rfl))
        have ga := H'.1 (100 + i) (cw_Ti.mpr (Or.inr (Or.inl (by omega))))
        rw [e3, hC'.1] at g3
        rw [e4, (hC'.2 i (by omega)).1] at ga
        refine qx_aast C d_W_init_37 (t := 5) g3.2.2 rfl ga.2.2 rfl (iI_in (by omega) (by omega) (by decide)) ?_
        rw [iI_clamp (by omega) (by omega), Int.toNat_natCast]
        have ea : va_up (fun k => if k < i then some (f' (100 + k)) else none) i (some a) = fun k => if k < i + 1 then some (f' (100 + k)) else none := by
          funext k
          by_cases hk : k = i
          · subst hk
            rw [va_up_self, if_pos (by omega), e4]
          · rw [va_up_o _ _ hk]
            by_cases hk2 : k < i
            · rw [if_pos hk2, if_pos (by omega)]
            · rw [if_neg hk2, if_neg (by omega)]
        rw [ea]
        have H'' := H'.set (j := 3) (cw_Ti.mpr (Or.inl rfl)) (cE G 5 49 (fun k => if k < i + 1 then some (f' (100 + k)) else none))
        rw [e3] at H''
        refine nx_iinc C d_W_init_38 rfl (lo' := [_, _, some (.int _)]) rfl ?_
        refine qx_goto C d_W_init_41 (tgt := 15) (by decide) ?_
        refine ih (i + 1) f' _ _ (by omega) H'' ⟨al_fs _ _ _, fun k hk => ?_⟩ ?_
        · rw [al_fo _ _ (by omega), al_fo _ _ (by omega)]
          exact hC'.2 k hk
        · rw [e3]
          refine (va_up_o _ _ ?_).trans hq'
          intro e
          exact g3.2.1 e.symm
  refine qx_iconst C d_W_init_13 (v := iI (0)) rfl ?_
  refine nx_istore_n C d_W_init_14 rfl (Nat.le_of_ble_eq_true rfl) (lo' := [_, _, some (.int _)]) rfl ?_
  refine Lp 49 0 (fun t => if t = 3 then pl else 0) _ _ (by omega) (H0.cg (fun t => ?_) (fun t ht => ?_) (fun _ _ => rfl)) ⟨?_, fun k hk => absurd hk (Nat.not_lt_zero _)⟩ (va_up_self _ _ _)
  · rw [Bool.eq_iff_iff, cw_Ti]
    simp
    omega
  · have : t = 3 := by simpa using ht
    subst this
    rw [al_fs]
    rfl
  · rw [al_fs]
    rfl
