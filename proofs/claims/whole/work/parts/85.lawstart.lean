/-! the law: its beginning -/
theorem lw_cv {l : Launch} {G : qh_G} {b : Nat} {nm : String} {X : qw_T} {pc : Nat} {lo : List (Option Value)} {st : List Value} {h : qh_H} {k n : Nat} (C : lw_C l G b nm X) {y : MethodName} {cY : ByteArray} {nY : Nat} {rY : Option FieldType} {e mc' ms' : Nat} {av rest : List Value} {P : qh_H → Prop} (hsite : qx_Site l G "QuorumLogLaw" c_Z_law pc y av rest h) (hM : qpv l y cY nY rY e mc' ms' G b av h P) (hy : Cond.code y cY nY rY ∈ qu_W ∧ Cond.initialized y.cls ∈ qu_W) (hst : st = av.reverse ++ rest) (hll : lo.length = 7) (hro : (rest.map fun v => v.category).sum ≤ 8) (he : e ≤ 13) (hnY : nY ≤ 8) (hk : k + mc' ≤ 651154 ∧ n + ms' ≤ 7142607) (kk : ∀ h2, P h2 → X (pc + 3) lo rest h2 (k + mc') (n + ms')) : X pc lo st h k n :=
  qx_runv C hsite hM hy hst hll hro (lw_fr he hnY hk) (fun h' hq => kk h' hq)
set_option maxRecDepth 100000 in
theorem law_start {l : Launch} {G : qh_G} {b : Nat} {nm : String} {X : qw_T} (C : lw_C l G b nm X) (hf : qt_f l) {sc L : Nat} (hL : L ≤ 2049) {xs : Nat → Int32}
    (hsl : ∀ (pc : Nat) (lo : List (Option Value)) (st : List Value) (h : qh_H) (k n : Nat), decode c_Z_law pc = .ok (.arraylength, 1) → X (pc + 1) lo (.int (iI L) :: st) h k n → X pc lo (.ref sc :: st) h k n)
    (hsd : ∀ (pc : Nat) (lo : List (Option Value)) (st : List Value) (h : qh_H) (k n : Nat) (j : Nat), j < L → decode c_Z_law pc = .ok (.iaload, 1) → X (pc + 1) lo (.int (iI (xs j).toInt) :: st) h k n → X pc lo (.int (iI j) :: .ref sc :: st) h k n)
    {v0 : Int32} (hcl : ∀ (pc : Nat) (lo : List (Option Value)) (rest : List Value) (h : qh_H) (k n : Nat), decode c_Z_law pc = .ok (.invokestatic 27, 3) → lo.length = 7 → (rest.map fun v => v.category).sum ≤ 8 → k ≤ 651154 → n ≤ 7142607 → X (pc + 3) lo (.int v0 :: rest) h k n → X pc lo (.int (iI 0) :: .ref sc :: rest) h k n) :
    X 0 [some (.ref sc), none, none, none, none, none, none] [] (fun _ => none) 0 0 := by
  obtain ⟨u, hu⟩ := iI_un v0
  rw [← hu] at hcl
  obtain ⟨u1, u2⟩ := and31 u
  obtain ⟨mm, hmm, hm5⟩ : ∃ mm : Int, mm = (if ia (u : Int) 31 = 0 then 1 else ia (u : Int) 31) ∧ set5 mm := ⟨_, rfl, by split <;> omega⟩
  refine qx_new C d_Z_law_0 nw_Z_8 (by decide) (by decide) (fun q nq => ?_)
  refine qx_dup C d_Z_law_3 rfl ?_
  refine qx_aload_n C d_Z_law_4 rfl rfl ?_
  refine qx_iconst C d_Z_law_5 (v := iI (0)) rfl ?_
  refine hcl 6 _ _ _ _ _ d_Z_law_6 rfl (Nat.le_of_ble_eq_true rfl) (by decide) (by decide) ?_
  refine lw_cv C s_Z_law_9 (c_Qinit l G b hmm u1 u2 (va_up_self _ _ _) 0) w_Q_init rfl rfl (Nat.le_of_ble_eq_true rfl) (by decide) (by decide) (by decide) (fun h1 hP => ?_)
  obtain ⟨ad, iv, N, J, e0, ech, hcr, -⟩ := hP
  subst e0
  refine nx_astore_n C d_Z_law_12 rfl (Nat.le_of_ble_eq_true rfl) (lo' := [_, some (.ref _), _, _, _, _, _]) rfl ?_
  refine qx_new C d_Z_law_13 nw_Z_36 (by decide) (by decide) (fun o no => ?_)
  refine qx_dup C d_Z_law_16 rfl ?_
  refine qx_aload_n C d_Z_law_17 rfl rfl ?_
  refine qx_iconst C d_Z_law_18 (v := iI (0)) rfl ?_
  refine hcl 19 _ _ _ _ _ d_Z_law_19 rfl (Nat.le_of_ble_eq_true rfl) (by decide) (by decide) ?_
  refine qx_runv C s_Z_law_22 (pq := fun h' => ∃ (adD : Nat → Nat) (ivD : Nat → Option Nat), md_I o adD ivD ∧ (∀ k, md_a k → (va_up h1 o (some (.inr (8, md_pl [])))) (adD k) = none) ∧ h' = md_h G o adD ivD (va_up h1 o (some (.inr (8, md_pl [])))) (md_new mm)) (m_init l G b hmm u1 u2 (va_up_self _ _ _) 0) w_D_init rfl rfl (Nat.le_of_ble_eq_true rfl) (lw_fr (by decide) (by decide) (by decide)) (fun h2 hP => ?_)
  obtain ⟨adD, ivD, JD, fr, rfl⟩ := hP
  refine nx_astore_n C d_Z_law_25 rfl (Nat.le_of_ble_eq_true rfl) (lo' := [_, _, some (.ref _), _, _, _, _]) rfl ?_
  refine qx_iconst C d_Z_law_26 (v := iI (1)) rfl ?_
  refine qx_newa C d_Z_law_27 rfl (t := 2) rfl ac_long (N := 1) (a0 := (1, .inr (.inl (fun _ => 0)))) (fun _ => rfl) (by decide) (by decide) (by decide) (by decide) (by decide) (fun out nout => ?_)
  refine nx_astore_n C d_Z_law_29 rfl (Nat.le_of_ble_eq_true rfl) (lo' := [_, _, _, some (.ref _), _, _, _]) rfl ?_
  refine qx_iconst C d_Z_law_30 (v := iI (1)) rfl ?_
  refine nx_istore C d_Z_law_31 (Nat.le_of_ble_eq_true rfl) (lo' := [_, _, _, _, some (.int _), _, _]) rfl ?_
  -- the heap
  have hoo : out ≠ o := fun e => by rw [e, md_h_o] at nout; cases nout
  have hod : ivD out = none := by
    cases hk : ivD out with
    | none => rfl
    | some k => rw [md_h_i hoo hk] at nout; cases nout
  have n1 : h1 out = none := by
    rw [md_h_n hoo hod, va_up_o _ _ hoo] at nout
    exact nout
  have nD : ∀ k, md_a k → adD k ≠ o ∧ h1 (adD k) = none := fun k hk => by
    have := fr k hk
    by_cases e : adD k = o
    · rw [e, va_up_self] at this; cases this
    · rw [va_up_o _ _ e] at this; exact ⟨e, this⟩
  have hivn : ∀ a, h1 a = none → iv a = none := fun a ha => by
    cases hi : iv a with
    | none => rfl
    | some j =>
      rw [ech] at ha
      unfold ch at ha
      rw [hi] at ha
      cases ha
  have hD : lw_D ad iv o adD ivD out := ⟨J, JD, hivn o no, fun k hk => hivn _ (nD k hk).2, hivn _ n1, hod, hoo⟩
  have old : ∀ a x, h1 a = some x → va_up (md_h G o adD ivD (va_up h1 o (some (.inr (8, md_pl [])))) (md_new mm)) out (some (lw_out G (fun _ => 0))) a = some x := fun a x hx => by
    have a1 : a ≠ out := fun e => by rw [e, n1] at hx; cases hx
    have a2 : a ≠ o := fun e => by rw [e, no] at hx; cases hx
    have a3 : ivD a = none := by
      cases hk : ivD a with
      | none => rfl
      | some k =>
        obtain ⟨b1, b2⟩ := JD.2.1 a k hk
        rw [← b2, (nD k b1).2] at hx
        cases hx
    rw [va_up_o _ _ a1, md_h_n a2 a3, va_up_o _ _ a2]
    exact hx
  have hH : lw_H G ad iv o adD ivD out (md_new mm) (md_new mm) (va_up (md_h G o adD ivD (va_up h1 o (some (.inr (8, md_pl [])))) (md_new mm)) out (some (lw_out G (fun _ => 0)))) := by
    refine ⟨_, cq_I, id, fun _ _ => none, N, fun _ => 0, ?_, hcr.gr old, ?_, va_up_self _ _ _⟩
    · funext a
      unfold ch
      cases hi : iv a with
      | none => rfl
      | some j =>
        refine old a _ ?_
        rw [ech]
        unfold ch
        rw [hi]
    · funext a
      by_cases ha : a = o
      · rw [ha, md_h_o, va_up_o _ _ (Ne.symm hoo), md_h_o]
      · cases hk : ivD a with
        | none => rw [md_h_n ha hk]
        | some k =>
          have : a ≠ out := fun e => by rw [e, hod] at hk; cases hk
          rw [md_h_i ha hk, va_up_o _ _ this, md_h_i ha hk]
  have hI : Inv mm (2 * (0 : Nat)) (md_new mm) := Inv.new hm5
  exact law_loop C hf hD hL hsl hsd L 0 (md_new mm) _ _ _ _ _ hI hH (by omega) (by decide) (by decide) (by omega)
