/-! the class: its constructor -/
section AL2
variable {h h' h1 h2 : qh_H} {q : Nat} {f f2 : Nat → Nat} {c c2 : Nat → va_E} {T T2 : Nat → Bool}
theorem al.new' (H : al h h' q f c T) {a j : Nat} (hn : h' a = none) {row : va_E} (hq : h' q = some row) (hj : T j = false) (y : va_E) : ∃ (f' : Nat → Nat) (c' : Nat → va_E), al h (va_up h' a (some y)) q f' c' (fun t => t == j || T t) ∧ va_up h' a (some y) q = some row ∧ f' j = a ∧ c' j = y ∧ ∀ t, t ≠ j → f' t = f t ∧ c' t = c t := by
  obtain ⟨H1, q1⟩ := H.new hn hq hj y
  exact ⟨_, _, H1, q1, al_fs _ _ _, al_fs _ _ _, fun t ht => ⟨al_fo _ _ ht, al_fo _ _ ht⟩⟩
theorem al.app' (H : al h h1 q f c T) {j a0 : Nat} (hj : T j = true) (ha0 : f j = a0) (H2 : al h1 h2 a0 f2 c2 T2) {y row : va_E} (hy : h2 a0 = some y) (hd : ∀ t, T t = true → T2 t = true → False) (hq : h1 q = some row) :
    ∃ (f' : Nat → Nat) (c' : Nat → va_E), al h h2 q f' c' (fun t => T2 t || T t) ∧ h2 q = some row ∧ (∀ t, T2 t = true → f' t = f2 t ∧ c' t = c2 t) ∧ c' j = y ∧ (∀ t, T t = true → f' t = f t ∧ (t ≠ j → c' t = c t)) := by
  obtain ⟨H3, q3⟩ := H.app hj ha0 H2 hy hd hq
  have hTf : ∀ t, T t = true → T2 t = false := fun t ht => by
    cases h9 : T2 t with
    | false => rfl
    | true => exact (hd t ht h9).elim
  exact ⟨_, _, H3, q3, fun t ht => ⟨al_ms ht, al_ms ht⟩, (al_mo (hTf j hj)).trans (al_fs _ _ _), fun t ht => ⟨al_mo (hTf t ht), fun htj => (al_mo (hTf t ht)).trans (al_fo _ _ htj)⟩⟩
theorem al_hc5 {x : va_E} {a0 a1 a2 a3 a4 : Nat} {y0 y1 y2 y3 y4 : va_E} (hP : hk h q [(a4, y4), (a3, y3), (a2, y2), (a1, y1), (a0, y0)]) {t0 t1 t2 t3 t4 : Nat} (hT : [t0, t1, t2, t3, t4].Nodup) :
    ∃ (f : Nat → Nat) (c : Nat → va_E), al h (hc h q x [(a4, y4), (a3, y3), (a2, y2), (a1, y1), (a0, y0)]) q f c (fun t => decide (t = t0 ∨ t = t1 ∨ t = t2 ∨ t = t3 ∨ t = t4)) ∧ (f t0 = a0 ∧ f t1 = a1 ∧ f t2 = a2 ∧ f t3 = a3 ∧ f t4 = a4) ∧ c t0 = y0 ∧ c t1 = y1 ∧ c t2 = y2 ∧ c t3 = y3 ∧ c t4 = y4 := by
  have hn := hP.1
  simp only [List.map_cons, List.map_nil, List.nodup_cons, List.mem_cons, List.not_mem_nil, or_false, not_or, List.nodup_nil, and_true, not_false_eq_true] at hn hT
  obtain ⟨⟨n1, n2, n3, n4⟩, ⟨n5, n6, n7⟩, ⟨n8, n9⟩, n10⟩ := hn
  obtain ⟨⟨m1, m2, m3, m4⟩, ⟨m5, m6, m7⟩, ⟨m8, m9⟩, m10⟩ := hT
  have F : ∀ {α : Type} (z0 z1 z2 z3 z4 : α), ∃ f : Nat → α, f t0 = z0 ∧ f t1 = z1 ∧ f t2 = z2 ∧ f t3 = z3 ∧ f t4 = z4 := fun z0 z1 z2 z3 z4 => by
    refine ⟨fun t => if t = t0 then z0 else if t = t1 then z1 else if t = t2 then z2 else if t = t3 then z3 else z4, if_pos rfl, ?_, ?_, ?_, ?_⟩
    · simp only [Ne.symm m1, if_false, if_true]
    · simp only [Ne.symm m2, Ne.symm m5, if_false, if_true]
    · simp only [Ne.symm m3, Ne.symm m6, Ne.symm m8, if_false, if_true]
    · simp only [Ne.symm m4, Ne.symm m7, Ne.symm m9, Ne.symm m10, if_false]
  obtain ⟨f, f0, f1, f2, f3, f4⟩ := F a0 a1 a2 a3 a4
  obtain ⟨c, c0, c1, c2, c3, c4⟩ := F y0 y1 y2 y3 y4
  refine ⟨f, c, al_hc hP (fun t ht => ?_) (fun t u ht hu e => ?_), ⟨f0, f1, f2, f3, f4⟩, c0, c1, c2, c3, c4⟩
  · rcases of_decide_eq_true ht with rfl | rfl | rfl | rfl | rfl
    · rw [f0, c0]; simp
    · rw [f1, c1]; simp
    · rw [f2, c2]; simp
    · rw [f3, c3]; simp
    · rw [f4, c4]; simp
  · rcases of_decide_eq_true ht with rfl | rfl | rfl | rfl | rfl <;> rcases of_decide_eq_true hu with rfl | rfl | rfl | rfl | rfl <;> first | rfl | (exfalso; simp only [f0, f1, f2, f3, f4] at e; subst e; simp_all)
end AL2
def cq_A (G : qh_G) (n : Nat) : va_E := cA G md_p0 0 n
abbrev cq_p (s t : Nat) : Prop := t = 1 ∨ (4 ≤ t ∧ t < 10) ∨ t = 300 ∨ t = 301 ∨ (10 ≤ t ∧ t < 10 + s) ∨ (20 ≤ t ∧ t < 20 + s) ∨ (30 ≤ t ∧ t < 30 + s) ∨ (40 ≤ t ∧ t < 40 + s) ∨ (50 ≤ t ∧ t < 50 + s) ∨ (60 ≤ t ∧ t < 60 + s)
def cq_S (f : Nat → Nat) (k : Nat) : va_E := .inr (6, [.int (iI k), .ref (f (20 + k)), .ref (f (40 + k)), .ref (f (50 + k)), .ref (f (60 + k)), .int (iI 1), .int 0, .int 0, .int (iI (-1)), .int (iI 0), .int 0, .int 0, .int 0])
abbrev cq_N : va_E := .inr (6, [.int 0, .null, .null, .null, .null, .int 0, .int 0, .int 0, .int 0, .int 0, .int 0, .int 0, .int 0])
def cq_C (G : qh_G) (f : Nat → Nat) (c : Nat → va_E) (mm : Int) (s p : Nat) : Prop :=
  c 1 = cE G 3 5 (fun k => if k < p then some (f (10 + k)) else none) ∧ c 4 = .inr (4, [.ref (f 5), .ref (f 6), .ref (f 7), .ref (f 8), .ref (f 9), .int 0]) ∧ (∀ j, 5 ≤ j → j < 10 → c j = cq_A G 60) ∧ c 300 = .inr (7, [.int (iI 0), .int (iI 0), .int (iI mm), .ref (f 301)]) ∧ c 301 = cq_A G 4
  ∧ ∀ k, k < s → c (10 + k) = cq_S f k ∧ c (20 + k) = .inr (2, [.ref (f 300), .ref (f (30 + k)), .int 0]) ∧ c (30 + k) = cE G 4 48 (fun _ => none) ∧ c (40 + k) = cq_A G 5 ∧ c (50 + k) = cq_A G 5 ∧ c (60 + k) = cq_A G 5
theorem cq_C.cg {G : qh_G} {f f' : Nat → Nat} {c c' : Nat → va_E} {mm : Int} {s p : Nat} (h : cq_C G f c mm s p) (hp : p ≤ s) (hf : ∀ t, cq_p s t → f' t = f t) (hc : ∀ t, cq_p s t → t ≠ 1 → c' t = c t) (h1 : c' 1 = c 1) : cq_C G f' c' mm s p := by
  obtain ⟨e1, e2, e3, e4, e5, e6⟩ := h
  have hf' : ∀ t, cq_p s t → f' t = f t := hf
  refine ⟨?_, ?_, fun j j1 j2 => ?_, ?_, ?_, fun k hk => ?_⟩
  · rw [h1, e1]
    congr 6
    funext k
    by_cases hk : k < p
    · rw [if_pos hk, if_pos hk, hf _ (by unfold cq_p; omega)]
    · rw [if_neg hk, if_neg hk]
  · rw [hc 4 (by unfold cq_p; omega) (by decide), e2, hf 5 (by unfold cq_p; omega), hf 6 (by unfold cq_p; omega), hf 7 (by unfold cq_p; omega), hf 8 (by unfold cq_p; omega), hf 9 (by unfold cq_p; omega)]
  · rw [hc j (by unfold cq_p; omega) (by omega), e3 j j1 j2]
  · rw [hc 300 (by unfold cq_p; omega) (by decide), e4, hf 301 (by unfold cq_p; omega)]
  · rw [hc 301 (by unfold cq_p; omega) (by decide), e5]
  · obtain ⟨g1, g2, g3, g4, g5, g6⟩ := e6 k hk
    refine ⟨?_, ?_, ?_, ?_, ?_, ?_⟩
    · rw [hc _ (by unfold cq_p; omega) (by omega), g1]
      unfold cq_S
      rw [hf (20 + k) (by unfold cq_p; omega), hf (40 + k) (by unfold cq_p; omega), hf (50 + k) (by unfold cq_p; omega), hf (60 + k) (by unfold cq_p; omega)]
    · rw [hc _ (by unfold cq_p; omega) (by omega), g2, hf 300 (by unfold cq_p; omega), hf (30 + k) (by unfold cq_p; omega)]
    · rw [hc _ (by unfold cq_p; omega) (by omega), g3]
    · rw [hc _ (by unfold cq_p; omega) (by omega), g4]
    · rw [hc _ (by unfold cq_p; omega) (by omega), g5]
    · rw [hc _ (by unfold cq_p; omega) (by omega), g6]
theorem cq_step {G : qh_G} {h h1 h2 : qh_H} {q a s lg en a0 a1 a2 : Nat} {f : Nat → Nat} {c : Nat → va_E} {mm : Int} {row : va_E} (H : al h h1 q f c (fun t => decide (cq_p s t))) (hC : cq_C G f c mm s s) (hs : s < 5) (hq : h1 q = some row) (hn : h1 a = none)
    (hP : hk (va_up h1 a (some cq_N)) a [(lg, .inr (2, [.ref (f 300), .ref en, .int 0])), (en, cE G 4 48 (fun _ => none)), (a2, cA G md_p0 60 5), (a1, cA G md_p0 50 5), (a0, cA G md_p0 40 5)])
    (e2 : h2 = hc (va_up h1 a (some cq_N)) a (.inr (6, [.int (iI s), .ref lg, .ref a0, .ref a1, .ref a2, .int (iI 1), .int 0, .int 0, .int (iI (-1)), .int (iI 0), .int 0, .int 0, .int 0])) [(lg, .inr (2, [.ref (f 300), .ref en, .int 0])), (en, cE G 4 48 (fun _ => none)), (a2, cA G md_p0 60 5), (a1, cA G md_p0 50 5), (a0, cA G md_p0 40 5)]) :
    ∃ (f' : Nat → Nat) (c' : Nat → va_E), al h h2 q f' c' (fun t => decide (cq_p (s + 1) t)) ∧ cq_C G f' c' mm (s + 1) s ∧ h2 q = some row ∧ f' 1 = f 1 ∧ f' 300 = f 300 ∧ f' (10 + s) = a ∧ f' 4 = f 4 := by
  obtain ⟨f1, c1, H1, q1, g1, g2, g3⟩ := H.new' hn hq (j := 10 + s) (by simp [cq_p]; omega) cq_N
  obtain ⟨f5, c5, H5, ⟨r0, r1, r2, r3, r4⟩, y0, y1, y2, y3, y4⟩ := al_hc5 (x := .inr (6, [.int (iI s), .ref lg, .ref a0, .ref a1, .ref a2, .int (iI 1), .int 0, .int 0, .int (iI (-1)), .int (iI 0), .int 0, .int 0, .int 0])) hP (t0 := 40 + s) (t1 := 50 + s) (t2 := 60 + s) (t3 := 30 + s) (t4 := 20 + s) (by simp <;> omega)
  obtain ⟨f', c', H2, q2, d1, d2, d3⟩ := H1.app' (j := 10 + s) (by simp) g1 H5 hc_q (fun t z1 z2 => by
    have z2 := of_decide_eq_true z2
    have z1 : t = 10 + s ∨ cq_p s t := by simpa using z1
    unfold cq_p at z1
    omega) q1
  rw [← e2] at H2 q2
  have hT1 : ∀ t, t = 10 + s ∨ cq_p s t → (fun t => t == 10 + s || decide (cq_p s t)) t = true := fun t ht => by simpa using ht
  have kf : ∀ t, cq_p s t → f' t = f t ∧ (t ≠ 1 → c' t = c t) := fun t ht => by
    have htn : t ≠ 10 + s := by unfold cq_p at ht; omega
    have := d3 t (hT1 t (Or.inr ht))
    exact ⟨this.1.trans (g3 t htn).1, fun _ => (this.2 htn).trans (g3 t htn).2⟩
  have k1 : c' 1 = c 1 := ((d3 1 (hT1 1 (Or.inr (by unfold cq_p; omega)))).2 (by omega)).trans (g3 1 (by omega)).2
  have hC2 := hC.cg (Nat.le_refl s) (fun t ht => (kf t ht).1) (fun t ht h1 => (kf t ht).2 h1) k1
  have n0 := d1 (40 + s) (by simp)
  have n1 := d1 (50 + s) (by simp)
  have n2 := d1 (60 + s) (by simp)
  have n3 := d1 (30 + s) (by simp)
  have n4 := d1 (20 + s) (by simp)
  have f3 := (kf 300 (by unfold cq_p; omega)).1
  have fa : f' (10 + s) = a := (d3 (10 + s) (hT1 _ (Or.inl rfl))).1.trans g1
  refine ⟨f', c', H2.cg (fun t => ?_) (fun _ _ => rfl) (fun _ _ => rfl), ⟨hC2.1, hC2.2.1, hC2.2.2.1, hC2.2.2.2.1, hC2.2.2.2.2.1, fun k hk => ?_⟩, q2, (kf 1 (by unfold cq_p; omega)).1, f3, fa, (kf 4 (by unfold cq_p; omega)).1⟩
  · rw [Bool.eq_iff_iff]
    simp only [decide_eq_true_eq, Bool.or_eq_true, beq_iff_eq]
    unfold cq_p
    omega
  · by_cases hks : k = s
    · subst hks
      refine ⟨?_, ?_, ?_, ?_, ?_, ?_⟩
      · rw [d2]
        unfold cq_S
        rw [n4.1, r4, n0.1, r0, n1.1, r1, n2.1, r2]
      · rw [n4.2, y4, f3, n3.1, r3]
      · rw [n3.2, y3]
      · rw [n0.2, y0]
        rfl
      · rw [n1.2, y1]
        rfl
      · rw [n2.2, y2]
        rfl
    · exact hC2.2.2.2.2.2 k (by omega)
abbrev cq_v (j : Nat) : Prop := j < 10 ∨ (10 ≤ j ∧ j < 15) ∨ (20 ≤ j ∧ j < 25) ∨ (30 ≤ j ∧ j < 35) ∨ (40 ≤ j ∧ j < 45) ∨ (50 ≤ j ∧ j < 55) ∨ (60 ≤ j ∧ j < 65) ∨ (100 ≤ j ∧ j < 150) ∨ (200 ≤ j ∧ j < 250)
def cq_ad (q : Nat) (f : Nat → Nat) : Nat → Nat := fun j => if j = 0 then q else f j
def cq_iv (q : Nat) (f : Nat → Nat) : Nat → Option Nat := fun a => (List.range 250).find? (fun j => decide (cq_v j ∧ cq_ad q f j = a))
def cq_I : md_A := fun j i => if 10 ≤ j ∧ j < 15 ∧ i = 5 then 1 else if 10 ≤ j ∧ j < 15 ∧ i = 8 then -1 else 0
/-- a new object -/
def cq_new (G : qh_G) (q : Nat) (h h' : qh_H) (mm : Int) : Prop := ∃ (ad : Nat → Nat) (iv : Nat → Option Nat) (N : Nat → Nat), cl_I ad iv ∧ ad 0 = q ∧ h' = ch G ad iv h' cq_I id (fun _ _ => none) N ∧ cr G iv h' cq_I id (fun _ _ => none) N (md_new mm) ∧ ∀ a x, a ≠ q → h a = some x → h' a = some x ∧ iv a = none
theorem cq_all {G : qh_G} {h h' : qh_H} {q : Nat} {mm : Int} {f : Nat → Nat} {c : Nat → va_E} (H : al h h' q f c (fun t => decide (cq_p 5 t ∨ t = 2 ∨ t = 3 ∨ (100 ≤ t ∧ t < 150) ∨ (200 ≤ t ∧ t < 250)))) (hC : cq_C G f c mm 5 5) (hW : cw_C G f c (f 300) 50 49) (h2 : c 2 = .inr (5, [.ref (f 3), .ref (f 149), .int 0])) (hq : h' q = some (.inr (0, [.ref (f 1), .ref (f 2), .ref (f 4)]))) : cq_new G q h h' mm := by
  have hT : ∀ t, cl_v t → t ≠ 0 → (fun t => decide (cq_p 5 t ∨ t = 2 ∨ t = 3 ∨ (100 ≤ t ∧ t < 150) ∨ (200 ≤ t ∧ t < 250))) t = true := fun t ht h0 => by
    apply decide_eq_true
    unfold cl_v at ht
    unfold cq_p
    omega
  have hTx : ∀ t, t = 300 ∨ t = 301 → (fun t => decide (cq_p 5 t ∨ t = 2 ∨ t = 3 ∨ (100 ≤ t ∧ t < 150) ∨ (200 ≤ t ∧ t < 250))) t = true := fun t ht => by
    apply decide_eq_true
    unfold cq_p
    omega
  have hinj : ∀ t u, cl_v t → cl_v u → cq_ad q f t = cq_ad q f u → t = u := fun t u ht hu e => by
    unfold cq_ad at e
    by_cases t0 : t = 0
    · by_cases u0 : u = 0
      · rw [t0, u0]
      · rw [if_pos t0, if_neg u0] at e
        exact absurd e.symm (H.1 u (hT u hu u0)).2.1
    · by_cases u0 : u = 0
      · rw [if_neg t0, if_pos u0] at e
        exact absurd e (H.1 t (hT t ht t0)).2.1
      · rw [if_neg t0, if_neg u0] at e
        exact H.2.1 t u (hT t ht t0) (hT u hu u0) e
  have hiv : ∀ a j, cq_iv q f a = some j → cl_v j ∧ cq_ad q f j = a := fun a j hj => by
    have h9 := List.find?_some hj
    exact of_decide_eq_true (p := cq_v j ∧ cq_ad q f j = a) h9
  have J : cl_I (cq_ad q f) (cq_iv q f) := by
    refine ⟨fun j hj => ?_, hiv⟩
    cases hf : cq_iv q f (cq_ad q f j) with
    | some u =>
      obtain ⟨a1, a2⟩ := hiv _ _ hf
      rw [hinj u j a1 hj a2]
    | none =>
      have := List.find?_eq_none.mp hf j (List.mem_range.mpr (by unfold cl_v at hj; omega))
      exact absurd (decide_eq_true (show cq_v j ∧ cq_ad q f j = cq_ad q f j from ⟨hj, rfl⟩)) this
  have hno : ∀ a, (∀ j, cl_v j → cq_ad q f j ≠ a) → cq_iv q f a = none := fun a ha => by
    cases hf : cq_iv q f a with
    | none => rfl
    | some u =>
      obtain ⟨a1, a2⟩ := hiv _ _ hf
      exact absurd a2 (ha u a1)
  have ha : ∀ j, j ≠ 0 → cq_ad q f j = f j := fun j hj => if_neg hj
  have hx : ∀ t, t = 300 ∨ t = 301 → cq_iv q f (f t) = none := fun t ht => hno _ fun j hj e => by
    by_cases j0 : j = 0
    · subst j0
      exact (H.1 t (hTx t ht)).2.1 e.symm
    · rw [ha j j0] at e
      have := H.2.1 j t (hT j hj j0) (hTx t ht) e
      unfold cl_v at hj
      omega
  have h300 := (H.1 300 (hTx 300 (Or.inl rfl))).2.2
  have h301 := (H.1 301 (hTx 301 (Or.inr rfl))).2.2
  obtain ⟨e1, e4, e5, e300, e301, eS⟩ := hC
  rw [e300] at h300
  rw [e301] at h301
  refine ⟨cq_ad q f, cq_iv q f, fun _ => f 300, J, if_pos rfl, ?_, ⟨fun s hs => ?_, fun s hs => ?_, rfl, ⟨fun i hi => hi, fun i j _ _ e => e⟩, fun w hw => absurd hw (by show ¬ (w : Int) < 0; omega), rfl, fun i _ _ => ⟨rfl, rfl, rfl, rfl, rfl⟩⟩, fun a x hqa hax => ⟨H.2.2 a x hqa hax, hno a fun j hj e => ?_⟩⟩
  · funext a
    unfold ch
    cases hf : cq_iv q f a with
    | none => rfl
    | some j =>
      obtain ⟨hj, rfl⟩ := hiv _ _ hf
      show h' (cq_ad q f j) = some (cl_c G (cq_ad q f) cq_I id (fun _ _ => none) (fun _ => f 300) j)
      by_cases j0 : j = 0
      · subst j0
        exact hq
      · rw [ha j j0, (H.1 j (hT j hj j0)).2.2]
        congr 1
        unfold cl_c
        rw [if_neg j0]
        by_cases j1 : j = 1
        · subst j1
          rw [if_pos rfl, e1]
          have e9 : ∀ k : Nat, cq_ad q f (10 + k) = f (10 + k) := fun k => ha _ (by omega)
          simp only [e9]
        rw [if_neg j1]
        by_cases j2 : j = 2
        · subst j2
          rw [if_pos rfl, h2]
          rfl
        rw [if_neg j2]
        by_cases j3 : j = 3
        · subst j3
          rw [if_pos rfl, hW.1]
          have e9 : ∀ k : Nat, cq_ad q f (100 + id k) = f (100 + k) := fun k => ha _ (by show 100 + k ≠ 0; omega)
          simp only [e9]
        rw [if_neg j3]
        by_cases j4 : j = 4
        · subst j4
          rw [if_pos rfl, e4]
          rfl
        rw [if_neg j4]
        by_cases j10 : j < 10
        · rw [if_pos j10, e5 j (by omega) j10]
          unfold cq_A cA
          congr 4
          funext i
          show iI 0 = iI (cq_I j i)
          unfold cq_I
          rw [if_neg (by omega), if_neg (by omega)]
        rw [if_neg j10]
        by_cases j20 : j < 20
        · have hj5 : j - 10 < 5 := by unfold cl_v at hj; omega
          have := (eS (j - 10) hj5).1
          rw [show 10 + (j - 10) = j by omega] at this
          rw [if_pos j20, this]
          unfold cq_S cS
          rw [ha _ (by omega), ha _ (by omega), ha _ (by omega), ha _ (by omega)]
          have hI : ∀ i : Int, cq_I (10 + (j - 10)) i = if i = 5 then 1 else if i = 8 then -1 else 0 := fun i => by
            unfold cq_I
            by_cases i5 : i = 5
            · rw [if_pos ⟨by omega, by omega, i5⟩, if_pos i5]
            · rw [if_neg (fun z => i5 z.2.2), if_neg i5]
              by_cases i8 : i = 8
              · rw [if_pos ⟨by omega, by omega, i8⟩, if_pos i8]
              · rw [if_neg (fun z => i8 z.2.2), if_neg i8]
          simp only [hI]
          rfl
        rw [if_neg j20]
        by_cases j30 : j < 30
        · have hj5 : j - 20 < 5 := by unfold cl_v at hj; omega
          have := (eS (j - 20) hj5).2.1
          rw [show 20 + (j - 20) = j by omega] at this
          rw [if_pos j30, this]
          unfold cL
          rw [ha _ (by omega)]
          have hI : cq_I (20 + (j - 20)) 2 = 0 := by unfold cq_I; rw [if_neg (by omega), if_neg (by omega)]
          rw [hI]
          rfl
        rw [if_neg j30]
        by_cases j40 : j < 40
        · have hj5 : j - 30 < 5 := by unfold cl_v at hj; omega
          have := (eS (j - 30) hj5).2.2.1
          rw [show 30 + (j - 30) = j by omega] at this
          rw [if_pos j40, this]
        rw [if_neg j40]
        by_cases j100 : j < 100
        · have hcj : c j = cq_A G 5 := by
            unfold cl_v at hj
            by_cases j50 : j < 50
            · have := (eS (j - 40) (by omega)).2.2.2.1
              rw [show 40 + (j - 40) = j by omega] at this
              exact this
            · by_cases j60 : j < 60
              · have := (eS (j - 50) (by omega)).2.2.2.2.1
                rw [show 50 + (j - 50) = j by omega] at this
                exact this
              · have := (eS (j - 60) (by omega)).2.2.2.2.2
                rw [show 60 + (j - 60) = j by omega] at this
                exact this
          rw [if_pos j100, hcj]
          unfold cq_A cA
          congr 4
          funext i
          show iI 0 = iI (cq_I j i)
          unfold cq_I
          rw [if_neg (by omega), if_neg (by omega)]
        rw [if_neg j100]
        by_cases j200 : j < 200
        · have := (hW.2 (j - 100) (by unfold cl_v at hj; omega)).1
          rw [show 100 + (j - 100) = j by omega] at this
          rw [if_pos j200, this]
          unfold cw_M cM
          rw [ha _ (by omega)]
          have hI : ∀ i : Int, cq_I (100 + (j - 100)) i = 0 := fun i => by unfold cq_I; rw [if_neg (by omega), if_neg (by omega)]
          simp only [hI]
          rfl
        rw [if_neg j200]
        have := (hW.2 (j - 200) (by unfold cl_v at hj; omega)).2
        rw [show 200 + (j - 200) = j by omega] at this
        exact this
  · have hI : ∀ i : Int, cq_I (10 + s) i = if i = 5 then 1 else if i = 8 then -1 else 0 := fun i => by
      unfold cq_I
      by_cases i5 : i = 5
      · rw [if_pos ⟨by omega, by omega, i5⟩, if_pos i5]
      · rw [if_neg (fun z => i5 z.2.2), if_neg i5]
        by_cases i8 : i = 8
        · rw [if_pos ⟨by omega, by omega, i8⟩, if_pos i8]
        · rw [if_neg (fun z => i8 z.2.2), if_neg i8]
    refine ⟨⟨?_, ?_, ?_, ?_, ?_, ?_, ?_, ?_⟩, fun o h0 h5 => ⟨?_, ?_, ?_⟩⟩
    · rw [hI]; rfl
    · rw [hI]; rfl
    · rw [hI]; rfl
    · rw [hI]
      show (-1 : Int) = md_new mm 3 s
      unfold md_new
      rw [if_pos ⟨rfl, by omega, by omega⟩]
    · rw [hI]; rfl
    · rw [hI]; rfl
    · rw [hI]; rfl
    · rw [hI]; rfl
    · unfold cq_I; rw [if_neg (by omega), if_neg (by omega)]; rfl
    · unfold cq_I; rw [if_neg (by omega), if_neg (by omega)]; rfl
    · unfold cq_I; rw [if_neg (by omega), if_neg (by omega)]; rfl
  · refine ⟨?_, ⟨hx 300 (Or.inl rfl), f 301, hx 301 (Or.inr rfl), ?_, ⟨_, h301, fun i hi => rfl⟩⟩, fun i hi => absurd hi (by show ¬ (i : Int) < 0; omega)⟩
    · unfold cq_I; rw [if_neg (by omega), if_neg (by omega)]; rfl
    · have : md_new mm 6 s = mm := by
        unfold md_new
        rw [if_neg (by omega), if_pos ⟨rfl, by omega, by omega⟩]
      rw [this]
      exact h300
  · by_cases j0 : j = 0
    · subst j0
      exact hqa e.symm
    · rw [ha j j0] at e
      have := (H.1 j (hT j hj j0)).1
      rw [e, hax] at this
      cases this
set_option maxRecDepth 100000 in
theorem c_Qinit (l : Launch) (G : qh_G) (b : Nat) {h : qh_H} {q : Nat} {m mm : Int} (hm : mm = if ia m 31 = 0 then 1 else ia m 31) (hmr : iI m &&& iI 31 = iI (ia m 31)) (hm5 : set5 (ia m 31)) (hq : h q = some (.inr (0, [.null, .null, .null]))) (d : Nat) : qpv l y_Q_init c_Q_init 5 none (d + 3) 141 1466 G b [.ref q, .int (iI m)] h (fun h' => cq_new G q h h' mm) := by
  refine qx_of (lo := [some (.ref q), some (.int (iI m)), none, none, none]) (by decide) (fun w hw => List.mem_cons_of_mem _ hw) rfl (Nat.le_of_ble_eq_true rfl) rfl ?_
  intro X C
  have Lp : ∀ (r s : Nat) (f : Nat → Nat) (c : Nat → va_E) (h1 : qh_H), s + r = 5 → al h h1 q f c (fun t => decide (cq_p s t)) → cq_C G f c mm s s → h1 q = some (.inr (0, [.ref (f 1), .null, .ref (f 4)])) → X 53 [some (.ref q), some (.int (iI m)), some (.int (iI (ia m 31))), some (.ref (f 300)), some (.int (iI s))] [] h1 (9 + 6 * s) (319 + 79 * s) := by
    intro r
    induction r with
    | zero =>
      intro s f c h1 hi H hC hq1
      have hs5 : s = 5 := by omega
      subst hs5
      refine qx_iload C d_Q_init_53 rfl ?_
      refine qx_iconst C d_Q_init_55 (v := iI (5)) rfl ?_
      refine nx_icmp_ge C 82 d_Q_init_56 (by decide) (by omega) (by omega) (fun z1 => ?_) (fun z1 => ?_)
      · refine qx_aload_n C d_Q_init_82 rfl rfl ?_
        refine qx_new C d_Q_init_83 nw_Q_30 (Nat.le_of_ble_eq_true rfl) (Nat.le_of_ble_eq_true rfl) (fun w nw => ?_)
        obtain ⟨f2, c2, H2, q2, v1, v2, v3⟩ := H.new' nw hq1 (j := 2) (by decide) (.inr (5, [.null, .null, .int 0]))
        refine qx_dup C d_Q_init_86 rfl ?_
        refine qx_aload_n C d_Q_init_87 rfl rfl ?_
        refine nx_callpv C s_Q_init_88 (c_Winit l G b (va_up_self _ _ _) d) w_W_init rfl rfl (Nat.le_of_ble_eq_true rfl) (by omega) (by decide) (fun hh hP => ?_)
        obtain ⟨fw, cw, Hw, hCw, hqw⟩ := hP
        obtain ⟨f3, c3, H3, q3, d1, d2, d3⟩ := H2.app' (j := 2) rfl v1 Hw hqw (fun t z1 z2 => by
          have z2 := cw_Ti.mp z2
          have z1 : t = 2 ∨ cq_p 5 t := by simpa using z1
          unfold cq_p at z1
          omega) q2
        have kT : ∀ t, cq_p 5 t → (fun t => t == 2 || decide (cq_p 5 t)) t = true := fun t ht => by simp [ht]
        have kf : ∀ t, cq_p 5 t → f3 t = f t ∧ c3 t = c t := fun t ht => by
          have ht2 : t ≠ 2 := by unfold cq_p at ht; omega
          have := d3 t (kT t ht)
          exact ⟨this.1.trans (v3 t ht2).1, (this.2 ht2).trans (v3 t ht2).2⟩
        have kw : ∀ t, t = 3 ∨ (100 ≤ t ∧ t < 150) ∨ (200 ≤ t ∧ t < 250) → f3 t = fw t ∧ c3 t = cw t := fun t ht => d1 t (cw_Ti.mpr (by omega))
        have f30 : f3 300 = f 300 := (kf 300 (by unfold cq_p; omega)).1
        have f32 : f3 2 = w := (d3 2 rfl).1.trans v1
        refine qx_putF C d_Q_init_91 rfl fp_Q_35 q3 (Nat.le_of_ble_eq_true rfl) rfl rfl ?_
        refine qx_vret C d_Q_init_94 (Nat.le_of_ble_eq_true rfl) (Nat.le_of_ble_eq_true rfl) ⟨rfl, cq_all (f := f3) (c := c3) ((H3.put _).cg (fun t => ?_) (fun _ _ => rfl) (fun _ _ => rfl)) (hC.cg (Nat.le_refl 5) (fun t ht => (kf t ht).1) (fun t ht _ => (kf t ht).2) (kf 1 (by unfold cq_p; omega)).2) ⟨?_, fun k hk => ?_⟩ ?_ ?_⟩
        · rw [Bool.eq_iff_iff]
          simp only [decide_eq_true_eq, Bool.or_eq_true, beq_iff_eq, cw_Ti]
          have : ∀ P : Prop, (P ∨ t = 2 ∨ t = 3 ∨ 100 ≤ t ∧ t < 150 ∨ 200 ≤ t ∧ t < 250 ↔ (t = 3 ∨ 100 ≤ t ∧ t < 100 + 50 ∨ 200 ≤ t ∧ t < 200 + 50) ∨ t = 2 ∨ P) := fun P => ⟨fun z => by
            rcases z with z | z
            · exact Or.inr (Or.inr z)
            · by_cases t2 : t = 2
              · exact Or.inr (Or.inl t2)
              · exact Or.inl (by omega), fun z => by
            rcases z with z | z | z
            · exact Or.inr (by omega)
            · exact Or.inr (Or.inl z)
            · exact Or.inl z⟩
          exact this _
        · rw [(kw 3 (by omega)).2, hCw.1]
          congr 6
          funext k
          by_cases hk : k < 49
          · rw [if_pos hk, if_pos hk, (kw (100 + k) (by omega)).1]
          · rw [if_neg hk, if_neg hk]
        · have := hCw.2 k hk
          rw [(kw (100 + k) (by omega)).2, (kw (200 + k) (by omega)).2, (kw (200 + k) (by omega)).1, f30]
          exact this
        · rw [d2, (kw 3 (by omega)).1, (kw 149 (by omega)).1]
        · rw [va_up_self, f32, (kf 1 (by unfold cq_p; omega)).1, (kf 4 (by unfold cq_p; omega)).1]
          rfl
      · exact absurd z1 (by omega)
    | succ r ih =>
      intro s f c h1 hi H hC hq1
      refine qx_iload C d_Q_init_53 rfl ?_
      refine qx_iconst C d_Q_init_55 (v := iI (5)) rfl ?_
      refine nx_icmp_ge C 82 d_Q_init_56 (by decide) (by omega) (by omega) (fun z1 => ?_) (fun z1 => ?_)
      · exact absurd z1 (by omega)
      · refine qx_aload_n C d_Q_init_59 rfl rfl ?_
        refine qx_get C d_Q_init_60 fl_Q_11 hq1 rfl ?_
        refine qx_iload C d_Q_init_63 rfl ?_
        refine qx_new C d_Q_init_65 nw_Q_9 (by show 9 + 6 * s + 1 ≤ 141; omega) (by show 319 + 79 * s + 13 ≤ 1466; omega) (fun a na => ?_)
        refine qx_dup C d_Q_init_68 rfl ?_
        refine qx_iload C d_Q_init_69 rfl ?_
        refine qx_aload_n C d_Q_init_71 rfl rfl ?_
        refine nx_callpv C s_Q_init_72 (c_Sinit l G b (va_up_self _ _ _) d) w_S_init rfl rfl (Nat.le_of_ble_eq_true rfl) (by omega) (by decide) (fun hh hP => ?_)
        obtain ⟨lg, en, a0, a1, a2, e2, hk5⟩ := hP
        obtain ⟨f', c', H', hC', hq', g1, g2, g3, g4⟩ := cq_step H hC (by omega) hq1 na hk5 e2
        have k1 := H'.1 1 (by apply decide_eq_true; unfold cq_p; omega)
        have ka := H'.1 (10 + s) (by apply decide_eq_true; unfold cq_p; omega)
        rw [g1, hC'.1] at k1
        rw [g3, (hC'.2.2.2.2.2 s (by omega)).1] at ka
        refine qx_aast C d_Q_init_75 (t := 3) k1.2.2 rfl ka.2.2 rfl (iI_in (by omega) (by omega) (by decide)) ?_
        rw [iI_clamp (by omega) (by omega), Int.toNat_natCast]
        have ea : va_up (fun k => if k < s then some (f' (10 + k)) else none) s (some a) = fun k => if k < s + 1 then some (f' (10 + k)) else none := by
          funext k
          by_cases hk : k = s
          · subst hk
            rw [va_up_self, if_pos (by omega), g3]
          · rw [va_up_o _ _ hk]
            by_cases hk2 : k < s
            · rw [if_pos hk2, if_pos (by omega)]
            · rw [if_neg hk2, if_neg (by omega)]
        rw [ea]
        have H'' := H'.set (j := 1) (by apply decide_eq_true; unfold cq_p; omega) (cE G 3 5 (fun k => if k < s + 1 then some (f' (10 + k)) else none))
        rw [g1] at H''
        refine nx_iinc C d_Q_init_76 rfl (lo' := [_, _, _, _, some (.int _)]) rfl ?_
        refine qx_goto C d_Q_init_79 (tgt := 53) (by decide) ?_
        rw [← g2]
        refine ih (s + 1) f' _ _ (by omega) H'' ⟨al_fs _ _ _, ?_⟩ ?_
        · obtain ⟨-, x2, x3, x4, x5, x6⟩ := hC'
          refine ⟨?_, fun j j1 j2 => ?_, ?_, ?_, fun k hk => ?_⟩
          · rw [al_fo _ _ (by decide)]; exact x2
          · rw [al_fo _ _ (by omega)]; exact x3 j j1 j2
          · rw [al_fo _ _ (by decide)]; exact x4
          · rw [al_fo _ _ (by decide)]; exact x5
          · rw [al_fo _ _ (by omega), al_fo _ _ (by omega), al_fo _ _ (by omega), al_fo _ _ (by omega), al_fo _ _ (by omega), al_fo _ _ (by omega)]
            exact x6 k hk
        · rw [g1, g4]
          refine (va_up_o _ _ ?_).trans hq'
          intro e
          exact k1.2.1 e.symm
  have P23 : ∀ (h4 : qh_H) (f : Nat → Nat) (c : Nat → va_E), al h h4 q f c (fun t => decide (t = 1 ∨ (4 ≤ t ∧ t < 10))) → c 1 = cE G 3 5 (fun _ => none) → c 4 = .inr (4, [.ref (f 5), .ref (f 6), .ref (f 7), .ref (f 8), .ref (f 9), .int 0]) → (∀ j, 5 ≤ j → j < 10 → c j = cq_A G 60) → h4 q = some (.inr (0, [.ref (f 1), .null, .ref (f 4)])) → X 23 [some (.ref q), some (.int (iI m)), none, none, none] [] h4 7 311 := by
    intro h4 f c H e1 e4 e5 q4
    refine qx_iload_n C d_Q_init_23 rfl rfl ?_
    refine qx_bipush C d_Q_init_24 (v := iI (31)) (by decide) ?_
    refine qx_iand C d_Q_init_26 ?_
    rw [hmr]
    refine nx_istore_n C d_Q_init_27 rfl (Nat.le_of_ble_eq_true rfl) (lo' := [_, _, some (.int _), _, _]) rfl ?_
    refine qx_new C d_Q_init_28 nw_Q_22 (Nat.le_of_ble_eq_true rfl) (Nat.le_of_ble_eq_true rfl) (fun sn nsn => ?_)
    obtain ⟨f6, c6, H6, q6, w1, w2, w3⟩ := H.new' nsn q4 (j := 300) (by decide) (.inr (7, [.int 0, .int 0, .int 0, .null]))
    refine qx_dup C d_Q_init_31 rfl ?_
    refine qx_iconst C d_Q_init_32 (v := iI (0)) rfl ?_
    refine qx_iconst C d_Q_init_33 (v := iI (0)) rfl ?_
    refine qx_iload_n C d_Q_init_34 rfl rfl ?_
    have P43 : X 43 [some (.ref q), some (.int (iI m)), some (.int (iI (ia m 31))), none, none] [.int (iI mm), .int (iI 0), .int (iI 0), .ref sn, .ref sn] (va_up h4 sn (some (.inr (7, [.int 0, .int 0, .int 0, .null])))) 8 315 := by
      refine qx_iconst C d_Q_init_43 (v := iI (4)) rfl ?_
      refine qx_newa C d_Q_init_44 rfl (t := 0) rfl ac_int (N := 4) (a0 := (4, .inl (fun _ => iI 0))) (fun _ => rfl) (by decide) (by decide) (by decide) (Nat.le_of_ble_eq_true rfl) (Nat.le_of_ble_eq_true rfl) (fun va nva => ?_)
      have hva : va ≠ sn := fun e => by rw [e, va_up_self] at nva; cases nva
      obtain ⟨f7, c7, H7, q7, x1, x2, x3⟩ := H6.new' nva q6 (j := 301) (by decide) (cq_A G 4)
      refine nx_callv C s_Q_init_46 (c_Ninit l G b (h := va_up (va_up h4 sn (some (.inr (7, [.int 0, .int 0, .int 0, .null])))) va (some (cq_A G 4))) (q := sn) (va := va) ((va_up_o _ _ (Ne.symm hva)).trans (va_up_self _ _ _)) d) w_N_init rfl rfl (Nat.le_of_ble_eq_true rfl) (by omega) (by decide) ?_
      have f70 : f7 300 = sn := (x3 300 (by decide)).1.trans w1
      have H8 := H7.set (j := 300) (by decide) (.inr (7, [.int (iI 0), .int (iI 0), .int (iI mm), .ref va]))
      rw [f70] at H8
      have kf : ∀ t, t = 1 ∨ (4 ≤ t ∧ t < 10) → f7 t = f t ∧ c7 t = c t := fun t ht => ⟨(x3 t (by omega)).1.trans (w3 t (by omega)).1, (x3 t (by omega)).2.trans (w3 t (by omega)).2⟩
      refine nx_astore_n C d_Q_init_49 rfl (Nat.le_of_ble_eq_true rfl) (lo' := [_, _, _, some (.ref _), _]) rfl ?_
      refine qx_iconst C d_Q_init_50 (v := iI (0)) rfl ?_
      refine nx_istore C d_Q_init_51 (Nat.le_of_ble_eq_true rfl) (lo' := [_, _, _, _, some (.int _)]) rfl ?_
      have hL := Lp 5 0 f7 _ _ (by omega) (H8.cg (fun t => ?_) (fun _ _ => rfl) (fun _ _ => rfl)) ⟨?_, ?_, fun j j1 j2 => ?_, ?_, ?_, fun k hk => absurd hk (Nat.not_lt_zero _)⟩ ?_
      · rw [f70] at hL
        exact hL
      · rw [Bool.eq_iff_iff]
        simp only [decide_eq_true_eq, Bool.or_eq_true, beq_iff_eq]
        unfold cq_p
        omega
      · rw [al_fo _ _ (by decide), (kf 1 (by omega)).2, e1]
        rfl
      · rw [al_fo _ _ (by decide), (kf 4 (by omega)).2, e4, (kf 5 (by omega)).1, (kf 6 (by omega)).1, (kf 7 (by omega)).1, (kf 8 (by omega)).1, (kf 9 (by omega)).1]
      · rw [al_fo _ _ (by omega), (kf j (by omega)).2, e5 j j1 j2]
      · rw [al_fs, x1]
      · rw [al_fo _ _ (by decide), x2]
      · rw [(kf 1 (by omega)).1, (kf 4 (by omega)).1]
        refine (va_up_o _ _ ?_).trans q7
        intro e
        rw [e, nsn] at q4
        cases q4
    refine nx_if_ne C 42 d_Q_init_35 (by decide) (by omega) (fun z1 => ?_) (fun z1 => ?_)
    · refine qx_iload_n C d_Q_init_42 rfl rfl ?_
      rw [if_neg z1] at hm
      rw [hm] at P43
      exact P43
    · refine qx_iconst C d_Q_init_38 (v := iI (1)) rfl ?_
      refine qx_goto C d_Q_init_39 (tgt := 43) (by decide) ?_
      have hz : ia m 31 = 0 := by omega
      rw [if_pos hz] at hm
      rw [hm] at P43
      exact P43
  refine qx_aload_n C d_Q_init_0 rfl rfl ?_
  refine qx_objI C d_Q_init_1 oi_Q_1 oi_1 oi_2 rfl (by show 1 ≤ d + 3; omega) (by show 0 + 12 ≤ 32 * (d + 3); omega) ?_
  refine qx_aload_n C d_Q_init_4 rfl rfl ?_
  refine qx_iconst C d_Q_init_5 (v := iI (5)) rfl ?_
  refine qx_newq C d_Q_init_6 (t := 3) rfl cl_Q_9 (by decide) (by decide) (N := 5) (by decide) (by decide) (Nat.le_of_ble_eq_true rfl) (Nat.le_of_ble_eq_true rfl) (fun sv nsv => ?_)
  obtain ⟨f1, c1, H1, q1, u1, u2, -⟩ := (al_nil h q (fun _ => 0) (fun _ => cw_N)).new' nsv hq rfl (j := 1) (cE G 3 5 (fun _ => none))
  refine qx_putF C d_Q_init_9 rfl fp_Q_11 q1 (Nat.le_of_ble_eq_true rfl) rfl rfl ?_
  replace H1 := H1.put (some (.inr (0, [.ref sv, .null, .null])))
  replace q1 := va_up_self (va_up h sv (some (cE G 3 5 (fun _ => none)))) q (some (.inr (0, [.ref sv, .null, .null])))
  refine qx_aload_n C d_Q_init_12 rfl rfl ?_
  refine qx_new C d_Q_init_13 nw_Q_15 (Nat.le_of_ble_eq_true rfl) (Nat.le_of_ble_eq_true rfl) (fun rd nrd => ?_)
  obtain ⟨f2, c2, H2, q2, v1, v2, v3⟩ := H1.new' nrd q1 (j := 4) rfl (.inr (4, [.null, .null, .null, .null, .null, .int 0]))
  refine qx_dup C d_Q_init_16 rfl ?_
  refine nx_callpv C s_Q_init_17 (c_Rinit l G b (va_up_self _ _ _) d) w_R_init rfl rfl (Nat.le_of_ble_eq_true rfl) (by omega) (by decide) (fun hh hP => ?_)
  obtain ⟨a0, a1, a2, a3, a4, rfl, hk5⟩ := hP
  obtain ⟨f5, c5, H5, ⟨r0, r1, r2, r3, r4⟩, y0, y1, y2, y3, y4⟩ := al_hc5 (x := .inr (4, [.ref a0, .ref a1, .ref a2, .ref a3, .ref a4, .int 0])) hk5 (t0 := 5) (t1 := 6) (t2 := 7) (t3 := 8) (t4 := 9) (by decide)
  obtain ⟨f3, c3, H3, q3, d1, d2, d3⟩ := H2.app' (j := 4) rfl v1 H5 hc_q (fun t z1 z2 => by
    have z2 := of_decide_eq_true z2
    have z1 : t = 4 ∨ t = 1 := by simpa using z1
    omega) q2
  refine qx_putF C d_Q_init_20 rfl fp_Q_18 q3 (Nat.le_of_ble_eq_true rfl) rfl rfl ?_
  have f31 : f3 1 = sv ∧ c3 1 = cE G 3 5 (fun _ => none) := ⟨(d3 1 rfl).1.trans ((v3 1 (by decide)).1.trans u1), ((d3 1 rfl).2 (by decide)).trans ((v3 1 (by decide)).2.trans u2)⟩
  have f34 : f3 4 = rd := (d3 4 rfl).1.trans v1
  have e5 := d1 5 (by decide)
  have e6 := d1 6 (by decide)
  have e7 := d1 7 (by decide)
  have e8 := d1 8 (by decide)
  have e9 := d1 9 (by decide)
  refine P23 _ f3 c3 ((H3.put _).cg (fun t => ?_) (fun _ _ => rfl) (fun _ _ => rfl)) f31.2 ?_ (fun j j1 j2 => ?_) ?_
  · rw [Bool.eq_iff_iff]
    simp only [Bool.or_eq_true, decide_eq_true_eq, beq_iff_eq, Bool.or_false]
    omega
  · rw [d2, e5.1, e6.1, e7.1, e8.1, e9.1, r0, r1, r2, r3, r4]
  · have h9 : j = 5 ∨ j = 6 ∨ j = 7 ∨ j = 8 ∨ j = 9 := by omega
    rcases h9 with rfl | rfl | rfl | rfl | rfl
    · rw [e5.2, y0]; rfl
    · rw [e6.2, y1]; rfl
    · rw [e7.2, y2]; rfl
    · rw [e8.2, y3]; rfl
    · rw [e9.2, y4]; rfl
  · rw [va_up_self, f31.1, f34]
    rfl
