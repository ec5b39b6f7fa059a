/-! the class's cells stand for A: the whole relation, and how it lasts -/
/-- message x stands for the words c -/
def cr_M (G : qh_G) (iv : Nat → Option Nat) (g : qh_H) (I : md_A) (E : cl_E) (N : Nat → Nat) (x : Nat) (c : Int → Int) : Prop :=
  (I (100 + x) 1 = c 0 ∧ I (100 + x) 2 = c 1 ∧ I (100 + x) 3 = c 2 ∧ I (100 + x) 4 = c 3 ∧ I (100 + x) 5 = c 4 ∧ I (100 + x) 7 = c 7 ∧ I (100 + x) 9 = c 9 ∧ I (100 + x) 10 = c 6)
  ∧ ((c 0 = 0 ∨ c 0 = 2 ∨ c 0 = 4) → I (100 + x) 6 = c 5)
  ∧ (c 0 = 4 → I (100 + x) 8 = c 8 ∧ (0 < c 7 → cr_E iv g (E (200 + x) 0) (c 10) (c (10 + 1)) (c (10 + 2)) (c (10 + 3))) ∧ (1 < c 7 → cr_E iv g (E (200 + x) 1) (c 14) (c (14 + 1)) (c (14 + 2)) (c (14 + 3))))
  ∧ (c 0 = 6 → cr_N G iv g (N (100 + x)) (c 4) (c 5) (c 10) (fun k => c (11 + k)))
def cr (G : qh_G) (iv : Nat → Option Nat) (g : qh_H) (I : md_A) (m : Nat → Nat) (E : cl_E) (N : Nat → Nat) (A : md_A) : Prop :=
  (∀ s, s < 5 → cr_S I A s) ∧ (∀ s, s < 5 → cr_L G iv g I E N A s) ∧ I 2 2 = A 27 0 ∧ ((∀ i, i < 50 → m i < 50) ∧ ∀ i j, i < 50 → j < 50 → m i = m j → i = j) ∧ (∀ w : Nat, (w : Int) < A 27 0 → cr_M G iv g I E N (m w) (fun k => A 28 (20 * w + k))) ∧ cr_R I A
section RL
variable {G : qh_G} {iv : Nat → Option Nat} {g g' : qh_H} {I I' : md_A} {m : Nat → Nat} {E E' : cl_E} {N N' : Nat → Nat} {A A' : md_A}
theorem cr_N.cg {a : Nat} {ix t me : Int} {V V' : Int → Int} (h : cr_N G iv g a ix t me V) (hV : ∀ k : Int, 0 ≤ k → k < 4 → V' k = V k) : cr_N G iv g a ix t me V' := by
  obtain ⟨h1, va, h2, h3, f, h4, h5⟩ := h
  exact ⟨h1, va, h2, h3, f, h4, fun i hi => by rw [h5 i hi, hV i (by omega) (by omega)]⟩
theorem cr_M.cg {x : Nat} {c c' : Int → Int} (h : cr_M G iv g I E N x c) (hI : I' (100 + x) = I (100 + x)) (hE : E' (200 + x) = E (200 + x)) (hN : N' (100 + x) = N (100 + x)) (hc : ∀ k : Int, 0 ≤ k → k < 20 → c' k = c k) : cr_M G iv g I' E' N' x c' := by
  have e0 := hc 0 (by decide) (by decide)
  have e4 := hc 4 (by decide) (by decide)
  have e5 := hc 5 (by decide) (by decide)
  have e7 := hc 7 (by decide) (by decide)
  unfold cr_M at h ⊢
  rw [hI, hE, hN, e0, e4, e5, e7, hc 1 (by decide) (by decide), hc 2 (by decide) (by decide), hc 3 (by decide) (by decide), hc 9 (by decide) (by decide), hc 6 (by decide) (by decide), hc 8 (by decide) (by decide), hc 10 (by decide) (by decide), hc (10 + 1) (by decide) (by decide), hc (10 + 2) (by decide) (by decide), hc (10 + 3) (by decide) (by decide), hc 14 (by decide) (by decide), hc (14 + 1) (by decide) (by decide), hc (14 + 2) (by decide) (by decide), hc (14 + 3) (by decide) (by decide)]
  exact ⟨h.1, h.2.1, h.2.2.1, fun h6 => (h.2.2.2 h6).cg (fun k h0 h4 => hc _ (by omega) (by omega))⟩
theorem cr_M.gr {x : Nat} {c : Int → Int} (hg : cr_g g g') (h : cr_M G iv g I E N x c) : cr_M G iv g' I E N x c :=
  ⟨h.1, h.2.1, fun h4 => ⟨(h.2.2.1 h4).1, fun h7 => ((h.2.2.1 h4).2.1 h7).g hg, fun h7 => ((h.2.2.1 h4).2.2 h7).g hg⟩, fun h6 => (h.2.2.2 h6).g hg⟩
theorem cr.gr (hg : cr_g g g') (h : cr G iv g I m E N A) : cr G iv g' I m E N A :=
  ⟨h.1, fun s hs => (h.2.1 s hs).g hg, h.2.2.1, h.2.2.2.1, fun w hw => (h.2.2.2.2.1 w hw).gr hg, h.2.2.2.2.2⟩
/-- servers other than s, or fields that are not written -/
theorem cr_S.cg {s : Nat} (h : cr_S I A s) (h1 : I' (10 + s) = I (10 + s)) (h2 : I' (40 + s) = I (40 + s)) (h3 : I' (50 + s) = I (50 + s)) (h4 : I' (60 + s) = I (60 + s)) (hA : ∀ k : Nat, (k = 1 ∨ k = 2 ∨ k = 3 ∨ k = 13 ∨ k = 14 ∨ k = 15 ∨ k = 16 ∨ k = 20) → A' k s = A k s) (hB : ∀ k : Nat, (k = 17 ∨ k = 18 ∨ k = 19) → ∀ o : Int, 0 ≤ o → o < 5 → A' k (5 * s + o) = A k (5 * s + o)) : cr_S I' A' s := by
  obtain ⟨⟨a1, a2, a3, a4, a5, a6, a7, a8⟩, ho⟩ := h
  refine ⟨⟨?_, ?_, ?_, ?_, ?_, ?_, ?_, ?_⟩, fun o h0 h5 => ?_⟩
  · rw [h1, hA 1 (by decide)]; exact a1
  · rw [h1, hA 15 (by decide)]; exact a2
  · rw [h1, hA 2 (by decide)]; exact a3
  · rw [h1, hA 3 (by decide)]; exact a4
  · rw [h1, hA 13 (by decide)]; exact a5
  · rw [h1, hA 14 (by decide)]; exact a6
  · rw [h1, hA 20 (by decide)]; exact a7
  · rw [h1, hA 16 (by decide)]; exact a8
  · rw [h2, h3, h4, hB 17 (by decide) o h0 h5, hB 18 (by decide) o h0 h5, hB 19 (by decide) o h0 h5]
    exact ho o h0 h5
/-- what a server's field in the class is in A -/
def cr_F (k : Int) (ka : Nat) (v va : Int) : Prop := (k = 5 ∧ ka = 1 ∧ v = 1 - va) ∨ (k = 6 ∧ ka = 15 ∧ v = va) ∨ (k = 7 ∧ ka = 2 ∧ v = va) ∨ (k = 8 ∧ ka = 3 ∧ v = va) ∨ (k = 9 ∧ ka = 13 ∧ v = va) ∨ (k = 10 ∧ ka = 14 ∧ v = va) ∨ (k = 11 ∧ ka = 20 ∧ v = va) ∨ (k = 12 ∧ ka = 16 ∧ v = va)
theorem cr_S.u {s : Nat} (h : cr_S I A s) {k : Int} {ka : Nat} {v va : Int} (hk : cr_F k ka v va) : cr_S (md_u I (10 + s) k v) (md_u A ka s va) s := by
  obtain ⟨⟨a1, a2, a3, a4, a5, a6, a7, a8⟩, ho⟩ := h
  have hk7 : ka ≠ 17 ∧ ka ≠ 18 ∧ ka ≠ 19 := by unfold cr_F at hk; omega
  refine ⟨?_, fun o h0 h5 => ?_⟩
  · rcases hk with ⟨rfl, rfl, rfl⟩ | ⟨rfl, rfl, rfl⟩ | ⟨rfl, rfl, rfl⟩ | ⟨rfl, rfl, rfl⟩ | ⟨rfl, rfl, rfl⟩ | ⟨rfl, rfl, rfl⟩ | ⟨rfl, rfl, rfl⟩ | ⟨rfl, rfl, rfl⟩ <;> simp [md_u, a1, a2, a3, a4, a5, a6, a7, a8]
  · have e4 : md_u I (10 + s) k v (40 + s) = I (40 + s) := cl_uI _ _ _ (by omega)
    have e5 : md_u I (10 + s) k v (50 + s) = I (50 + s) := cl_uI _ _ _ (by omega)
    have e6 : md_u I (10 + s) k v (60 + s) = I (60 + s) := cl_uI _ _ _ (by omega)
    rw [e4, e5, e6, md_uk (Ne.symm hk7.1), md_uk (Ne.symm hk7.2.1), md_uk (Ne.symm hk7.2.2)]
    exact ho o h0 h5
theorem cr.u (h : cr G iv g I m E N A) {s : Nat} (hs : s < 5) {k : Int} {ka : Nat} {v va : Int} (hk : cr_F k ka v va) : cr G iv g (md_u I (10 + s) k v) m E N (md_u A ka s va) := by
  obtain ⟨h1, h2, h3, h4, h5, h6⟩ := h
  have hka : (ka < 4 ∨ 12 < ka) ∧ (ka < 17 ∨ ka = 20) := by unfold cr_F at hk; omega
  refine ⟨fun s' hs' => ?_, fun s' hs' => ?_, ?_, h4, fun w hw => ?_, ?_, fun i h0 h60 => ?_⟩
  · by_cases e : s' = s
    · subst e
      exact (h1 s' hs').u hk
    · exact (h1 s' hs').cg (cl_uI _ _ _ (by omega)) (cl_uI _ _ _ (by omega)) (cl_uI _ _ _ (by omega)) (cl_uI _ _ _ (by omega)) (fun k' _ => md_ui (by omega)) (fun k' hk' o _ _ => md_uk (by omega))
  · exact (h2 s' hs').cg (by rw [cl_uI _ _ _ (by omega)]) rfl rfl ((md_lg.rf A).u hka.1)
  · rw [cl_uI _ _ _ (by omega), md_uk (by omega)]; exact h3
  · rw [md_uk (by omega)] at hw
    exact (h5 w hw).cg (cl_uI _ _ _ (by omega)) rfl rfl (fun k _ _ => md_uk (by omega))
  · rw [cl_uI _ _ _ (by omega), md_uk (by omega)]; exact h6.1
  · rw [cl_uI _ _ _ (by omega), cl_uI _ _ _ (by omega), cl_uI _ _ _ (by omega), cl_uI _ _ _ (by omega), cl_uI _ _ _ (by omega), md_uk (by omega), md_uk (by omega), md_uk (by omega), md_uk (by omega), md_uk (by omega)]
    exact h6.2 i h0 h60
/-- the relation does not see the message under way nor the code -/
theorem cr.k (h : cr G iv g I m E N A) (hA : ∀ k : Nat, k ≠ 0 → k ≠ 29 → A' k = A k) : cr G iv g I m E N A' := by
  obtain ⟨h1, h2, h3, h4, h5, h6⟩ := h
  refine ⟨fun s hs => ?_, fun s hs => ?_, ?_, h4, fun w hw => ?_, ?_, fun i h0 h60 => ?_⟩
  · exact (h1 s hs).cg rfl rfl rfl rfl (fun k hk => by rw [hA k (by omega) (by omega)]) (fun k hk o _ _ => by rw [hA k (by omega) (by omega)])
  · exact (h2 s hs).cg rfl rfl rfl (fun k h7 h8 => hA k (by omega) (by omega))
  · rw [hA 27 (by omega) (by omega)]; exact h3
  · rw [hA 27 (by omega) (by omega)] at hw
    rw [hA 28 (by omega) (by omega)]
    exact h5 w hw
  · rw [hA 21 (by omega) (by omega)]; exact h6.1
  · rw [hA 22 (by omega) (by omega), hA 23 (by omega) (by omega), hA 24 (by omega) (by omega), hA 25 (by omega) (by omega), hA 26 (by omega) (by omega)]
    exact h6.2 i h0 h60
/-- a message sent -/
theorem cr.post (h : cr G iv g I m E N A) (hw : 0 ≤ A 27 0 ∧ A 27 0 ≤ 48) {x : Nat} (hx : m (A 27 0).toNat = x) (hA : ∀ k : Nat, k ≠ 29 → A' k = A k) (hI : ∀ j, j ≠ 100 + x → j ≠ 2 → I' j = I j) (hI2 : I' 2 2 = if A 27 0 < 48 then A 27 0 + 1 else A 27 0) (hE : ∀ j, j ≠ 200 + x → E' j = E j) (hN : ∀ j, j ≠ 100 + x → N' j = N j) (hM : cr_M G iv g I' E' N' x (A' 29)) : cr G iv g I' m E' N' (md_post A') := by
  obtain ⟨h1, h2, h3, h4, h5, h6⟩ := h
  have hx50 : x < 50 := by rw [← hx]; exact h4.1 _ (by omega)
  have hk : ∀ k : Nat, k ≠ 27 → k ≠ 28 → k ≠ 29 → md_post A' k = A k := fun k k1 k2 k3 => by
    funext i
    rw [md_post_k ⟨k1, k2⟩, hA k k3]
  refine ⟨fun s hs => ?_, fun s hs => ?_, ?_, h4, fun w hw2 => ?_, ?_, fun i h0 h60 => ?_⟩
  · exact (h1 s hs).cg (hI _ (by omega) (by omega)) (hI _ (by omega) (by omega)) (hI _ (by omega) (by omega)) (hI _ (by omega) (by omega)) (fun k hk' => by rw [hk k (by omega) (by omega) (by omega)]) (fun k hk' o _ _ => by rw [hk k (by omega) (by omega) (by omega)])
  · exact (h2 s hs).cg (by rw [hI _ (by omega) (by omega)]) (hE _ (by omega)) (hN _ (by omega)) (fun k h7 h8 => hk k (by omega) (by omega) (by omega))
  · rw [hI2]
    unfold md_post
    rw [hA 27 (by decide)]
    by_cases h48 : A 27 0 = 48
    · rw [if_pos h48, if_neg (by omega), hA 27 (by decide)]
    · rw [if_neg h48, if_pos (by omega), md_us]
  · unfold md_post at hw2 ⊢
    rw [hA 27 (by decide)] at hw2 ⊢
    by_cases h48 : A 27 0 = 48
    · rw [if_pos h48, hA 27 (by decide)] at hw2
      rw [if_pos h48, hA 28 (by decide)]
      have hne : m w ≠ x := fun e => by
        have := h4.2 w (A 27 0).toNat (by omega) (by omega) (e.trans hx.symm)
        omega
      exact (h5 w hw2).cg (hI _ (by omega) (by have := h4.1 w (by omega); omega)) (hE _ (by omega)) (hN _ (by omega)) (fun _ _ _ => rfl)
    · rw [if_neg h48, md_us] at hw2
      rw [if_neg h48]
      by_cases e : (w : Int) = A 27 0
      · have ew : m w = x := by rw [← hx, ← e, Int.toNat_natCast]
        rw [ew]
        refine hM.cg rfl rfl rfl (fun k h0 h20 => ?_)
        rw [md_uk (by decide), md_wi (by omega)]
        congr 1
        omega
      · have hne : m w ≠ x := fun e2 => by
          have := h4.2 w (A 27 0).toNat (by omega) (by omega) (e2.trans hx.symm)
          omega
        refine (h5 w (by omega)).cg (hI _ (by omega) (by have := h4.1 w (by omega); omega)) (hE _ (by omega)) (hN _ (by omega)) (fun k h0 h20 => ?_)
        rw [md_uk (by decide), md_wo (by omega), hA 28 (by decide)]
  · rw [hI _ (by omega) (by omega), hk 21 (by decide) (by decide) (by decide)]; exact h6.1
  · rw [hI _ (by omega) (by omega), hI _ (by omega) (by omega), hI _ (by omega) (by omega), hI _ (by omega) (by omega), hI _ (by omega) (by omega), hk 22 (by decide) (by decide) (by decide), hk 23 (by decide) (by decide) (by decide), hk 24 (by decide) (by decide) (by decide), hk 25 (by decide) (by decide) (by decide), hk 26 (by decide) (by decide) (by decide)]
    exact h6.2 i h0 h60
end RL
