/-! the law: class and reference beside each other in one heap -/
/-- where they lie, apart -/
def lw_D (ad : Nat → Nat) (iv : Nat → Option Nat) (o : Nat) (adD : Nat → Nat) (ivD : Nat → Option Nat) (out : Nat) : Prop := cl_I ad iv ∧ md_I o adD ivD ∧ iv o = none ∧ (∀ k, md_a k → iv (adD k) = none) ∧ iv out = none ∧ ivD out = none ∧ out ≠ o
def lw_H (G : qh_G) (ad : Nat → Nat) (iv : Nat → Option Nat) (o : Nat) (adD : Nat → Nat) (ivD : Nat → Option Nat) (out : Nat) (A AM : md_A) (h : qh_H) : Prop := ∃ g I m E N f, h = ch G ad iv g I m E N ∧ cr G iv g I m E N A ∧ g = md_h G o adD ivD g AM ∧ g out = some (lw_out G f)
section LH
variable {G : qh_G} {ad : Nat → Nat} {iv : Nat → Option Nat} {o : Nat} {adD : Nat → Nat} {ivD : Nat → Option Nat} {out : Nat} {A AM AM2 A2 : md_A} {h h2 g : qh_H}
theorem md_h_o : md_h G o adD ivD g AM o = some (.inr (8, md_f adD AM)) := if_pos rfl
theorem md_h_i {a k : Nat} (ha : a ≠ o) (hk : ivD a = some k) : md_h G o adD ivD g AM a = some (md_c G AM k) := by
  unfold md_h
  rw [if_neg ha, hk]
theorem md_h_n {a : Nat} (ha : a ≠ o) (hk : ivD a = none) : md_h G o adD ivD g AM a = g a := by
  unfold md_h
  rw [if_neg ha, hk]
/-- cells that stay keep the reference -/
theorem md_h_keep {g' : qh_H} (hg : ∀ a y, a ≠ out → g a = some y → g' a = some y) (hD : lw_D ad iv o adD ivD out) (h : g = md_h G o adD ivD g AM) : g' = md_h G o adD ivD g' AM := by
  obtain ⟨-, JD, -, -, -, d5, d6⟩ := hD
  funext a
  by_cases ha : a = o
  · subst ha
    rw [md_h_o]
    exact hg _ _ (Ne.symm d6) (by rw [h]; exact md_h_o)
  · cases hk : ivD a with
    | none => rw [md_h_n ha hk]
    | some k =>
      rw [md_h_i ha hk]
      refine hg _ _ (fun e => by rw [e, d5] at hk; cases hk) ?_
      rw [h]
      exact md_h_i ha hk
theorem lw_H.ofT (hD : lw_D ad iv o adD ivD out) {f : Nat → Int64} (hm : g = md_h G o adD ivD g AM) (ho : g out = some (lw_out G f)) (hT : cr_T G ad iv g A2 h2) : lw_H G ad iv o adD ivD out A2 AM h2 := by
  obtain ⟨g', I', m', E', N', rfl, hg, hcr⟩ := hT
  exact ⟨g', I', m', E', N', f, rfl, hcr, md_h_keep (fun a y _ hy => hg a y hy) hD hm, hg _ _ ho⟩
theorem lw_H.ofE (hD : lw_D ad iv o adD ivD out) {c r : Int} (hm : g = md_h G o adD ivD g AM) (hE : lw_E G ad iv g out A c r A2 h2) : (c = 0 → lw_H G ad iv o adD ivD out A2 AM h2 ∧ ∃ f, h2 out = some (lw_out G f) ∧ f 0 = (iI r).toInt64) ∧ (c ≠ 0 → lw_H G ad iv o adD ivD out A AM h2) := by
  obtain ⟨g', I', m', E', N', f', rfl, hg, ho, hc⟩ := hE
  have hk := md_h_keep hg hD hm
  refine ⟨fun z => ?_, fun z => ?_⟩
  · rcases hc with ⟨-, h1, h3⟩ | ⟨h1, -⟩
    · exact ⟨⟨g', I', m', E', N', f', rfl, h1, hk, ho⟩, f', (ch_g hD.1 hD.2.2.2.2.1).trans ho, h3⟩
    · exact absurd z h1
  · rcases hc with ⟨h1, -⟩ | ⟨-, h1⟩
    · exact absurd h1 z
    · exact ⟨g', I', m', E', N', f', rfl, h1, hk, ho⟩
theorem md_n_4 : ∀ k : Nat, md_a k → md_n k ≠ 4 := by
  intro k hk
  have : ∀ j : Nat, j < 30 → md_n j ≠ 4 := by decide
  exact this k hk.1
/-- the heap as the reference's; and with another state of it -/
theorem lw_H.md (hD : lw_D ad iv o adD ivD out) (H : lw_H G ad iv o adD ivD out A AM h) : h = md_h G o adD ivD h AM ∧ ∀ AM2, lw_H G ad iv o adD ivD out A AM2 (md_h G o adD ivD h AM2) ∧ md_h G o adD ivD h AM2 out = h out := by
  obtain ⟨g, I, m, E, N, f, rfl, hcr, hm, ho⟩ := H
  obtain ⟨J, JD, d3, d4, d5, d6, d7⟩ := hD
  have ivn : ∀ a k, ivD a = some k → iv a = none := fun a k hk => by
    obtain ⟨h1, h2⟩ := JD.2.1 a k hk
    rw [← h2]
    exact d4 k h1
  refine ⟨?_, fun AM2 => ⟨⟨md_h G o adD ivD g AM2, I, m, E, N, f, ?_, hcr.gx (fun a x hx hk => ?_), ?_, ?_⟩, md_h_n d7 d6⟩⟩
  · funext a
    by_cases ha : a = o
    · subst ha
      rw [md_h_o, ch_g J d3, hm]
      exact md_h_o
    · cases hk : ivD a with
      | none => rw [md_h_n ha hk]
      | some k =>
        rw [md_h_i ha hk, ch_g J (ivn a k hk), hm]
        exact md_h_i ha hk
  · funext a
    by_cases ha : a = o
    · subst ha
      rw [md_h_o, ch_g J d3]
      exact md_h_o.symm
    · cases hk : ivD a with
      | none =>
        rw [md_h_n ha hk]
        unfold ch
        cases hi : iv a with
        | some j => rfl
        | none => exact (md_h_n ha hk).symm
      | some k =>
        rw [md_h_i ha hk, ch_g J (ivn a k hk)]
        exact (md_h_i ha hk).symm
  · by_cases ha : a = o
    · subst ha
      rw [hm, md_h_o] at hx
      cases hx
      rcases hk with ⟨v, hv⟩ | ⟨v, hv⟩ | ⟨v, hv⟩ <;> cases hv
    · cases hi : ivD a with
      | none => rw [md_h_n ha hi]; exact hx
      | some k =>
        rw [hm, md_h_i ha hi] at hx
        cases hx
        rcases hk with ⟨v, hv⟩ | ⟨v, hv⟩ | ⟨v, hv⟩
        · cases hv
        · cases hv
        · exact absurd (congrArg (fun z => z.2.1) (Sum.inl.inj hv)) (md_n_4 k (JD.2.1 a k hi).1)
  · funext a
    by_cases ha : a = o
    · subst ha
      rw [md_h_o, md_h_o]
    · cases hi : ivD a with
      | none => rw [md_h_n ha hi, md_h_n ha hi, md_h_n ha hi]
      | some k => rw [md_h_i ha hi, md_h_i ha hi]
  · rw [md_h_n d7 d6]; exact ho
theorem lw_H.c0 (H : lw_H G ad iv o adD ivD out A AM h) (v : Int) : lw_H G ad iv o adD ivD out (md_u A 0 0 v) AM h := by
  obtain ⟨g, I, m, E, N, f, h1, hcr, hm, ho⟩ := H
  exact ⟨g, I, m, E, N, f, h1, hcr.c v, hm, ho⟩
end LH
theorem iI_un (x : Int32) : ∃ u : Nat, iI (u : Int) = x := by
  refine ⟨x.toBitVec.toNat, ?_⟩
  apply Int32.toBitVec_inj.1
  show BitVec.ofInt 32 ((x.toBitVec.toNat : Nat) : Int) = x.toBitVec
  simp
theorem and31 (u : Nat) : iI (u : Int) &&& iI 31 = iI (ia (u : Int) 31) ∧ set5 (ia (u : Int) 31) := by
  refine ⟨iI_and (by omega) (by decide), ?_⟩
  unfold ia
  have : (u : Int).toNat &&& (31 : Int).toNat < 2 ^ 5 := Nat.and_lt_two_pow _ (by decide)
  omega
