/-! safety: logs, terms, configurations, majorities -/
abbrev En : Type := Int × Int × Int × Int
def tm (l : List En) (i : Nat) : Int := if i = 0 then 0 else ((l[i - 1]?).map (·.1)).getD 0
def lt (l : List En) : Int := tm l l.length
def cfg (c : Int) (l : List En) : Int := l.foldl (fun c e => if e.2.1 = 2 then e.2.2.1 else c) c
/-- entry i is MEMBERS -/
def mb (l : List En) (i : Nat) : Prop := i ≠ 0 ∧ ∃ e, l[i - 1]? = some e ∧ e.2.1 = 2
theorem tm_0 (l : List En) : tm l 0 = 0 := rfl
theorem tm_pre {l l' : List En} (h : l <+: l') {i : Nat} (hi : i ≤ l.length) : tm l' i = tm l i := by
  obtain ⟨r, rfl⟩ := h
  unfold tm
  by_cases h0 : i = 0
  · rw [if_pos h0, if_pos h0]
  · rw [if_neg h0, if_neg h0, List.getElem?_append_left (by omega)]
theorem mb_pre {l l' : List En} (h : l <+: l') {i : Nat} (hi : i ≤ l.length) : mb l' i ↔ mb l i := by
  obtain ⟨r, rfl⟩ := h
  unfold mb
  by_cases h0 : i = 0
  · simp [h0]
  · rw [List.getElem?_append_left (by omega)]
theorem pre_take {l : List En} {i j : Nat} (h : i ≤ j) : l.take i <+: l.take j := by
  have : l.take i = (l.take j).take i := by rw [List.take_take, Nat.min_eq_left h]
  rw [this]
  exact List.take_prefix _ _
theorem len_take {l : List En} {i : Nat} (h : i ≤ l.length) : (l.take i).length = i := by rw [List.length_take, Nat.min_eq_left h]
theorem pre_eq {l l' : List En} (h : l <+: l') : l = l'.take l.length := by
  obtain ⟨r, rfl⟩ := h
  rw [List.take_left]
theorem pre_two {a b c : List En} (h1 : a <+: c) (h2 : b <+: c) (h : a.length ≤ b.length) : a <+: b := List.prefix_of_prefix_length_le h1 h2 h
theorem take_pre {l l' : List En} (h : l <+: l') {i : Nat} (hi : i ≤ l.length) : l'.take i = l.take i := by
  obtain ⟨r, rfl⟩ := h
  rw [List.take_append_of_le_length hi]
theorem cfg_app (c : Int) (l r : List En) : cfg c (l ++ r) = cfg (cfg c l) r := List.foldl_append
theorem cfg_snoc (c : Int) (l : List En) (e : En) : cfg c (l ++ [e]) = if e.2.1 = 2 then e.2.2.1 else cfg c l := by rw [cfg_app]; rfl
theorem take_snoc {l : List En} {i : Nat} {e : En} (h : l[i]? = some e) : l.take (i + 1) = l.take i ++ [e] := by
  obtain ⟨hi, he⟩ := List.getElem?_eq_some_iff.mp h
  rw [List.take_succ_eq_append_getElem hi, he]
/-- no MEMBERS between: the same configuration -/
theorem cfg_same {c : Int} {l : List En} {i : Nat} : ∀ d : Nat, i + d ≤ l.length → (∀ k, i < k → k ≤ i + d → ¬ mb l k) → cfg c (l.take (i + d)) = cfg c (l.take i)
  | 0, _, _ => rfl
  | d + 1, h, hn => by
    have hg : l[i + d]? = some l[i + d] := List.getElem?_eq_getElem (by omega)
    rw [show i + (d + 1) = (i + d) + 1 from rfl, take_snoc hg, cfg_snoc]
    have h1 := hn (i + d + 1) (by omega) (by omega)
    rw [if_neg (fun e => h1 ⟨by omega, _, hg, e⟩)]
    exact cfg_same d (by omega) (fun k h2 h3 => hn k h2 (by omega))
/-- at most one server differs -/
def adj (a c : Int) : Prop := ∃ w : Nat, w < 5 ∧ ∀ v : Nat, v < 5 → v ≠ w → bit a v = bit c v
theorem adj_rf (a : Int) : adj a a := ⟨0, by decide, fun _ _ _ => rfl⟩
theorem adj_sm {a c : Int} (h : adj a c) : adj c a := by
  obtain ⟨w, hw, h⟩ := h
  exact ⟨w, hw, fun v hv hn => (h v hv hn).symm⟩
/-- most of c are such -/
def maj (c : Int) (P : Nat → Prop) : Prop := ∃ q : Int, md_cnt c < 2 * md_cnt (ia c q) ∧ ∀ v : Nat, v < 5 → bit (ia c q) v = 1 → P v
theorem maj_mono {c : Int} {P P' : Nat → Prop} (h : maj c P) (hP : ∀ v, v < 5 → P v → P' v) : maj c P' := by
  obtain ⟨q, h1, h2⟩ := h
  exact ⟨q, h1, fun v hv hb => hP v hv (h2 v hv hb)⟩
theorem bit_ia_le (a q : Int) (v : Nat) : bit (ia a q) v ≤ bit a v ∨ a < 0 := by
  by_cases ha : a < 0
  · exact Or.inr ha
  · left
    obtain ⟨x, rfl⟩ := Int.eq_ofNat_of_zero_le (by omega : 0 ≤ a)
    unfold bit ia
    have h1 : ∀ y : Nat, ((y : Int) / 2 ^ ((v : Int)).toNat % 2) = ((y / 2 ^ v % 2 : Nat) : Int) := fun y => by
      rw [Int.toNat_natCast]
      norm_cast
    rw [show ((x : Int)).toNat = x from Int.toNat_natCast x, h1, h1]
    have h2 : ∀ y : Nat, y / 2 ^ v % 2 = (y.testBit v).toNat := fun y => by
      rw [Nat.testBit_eq_decide_div_mod_eq]
      have := Nat.mod_two_eq_zero_or_one (y / 2 ^ v)
      rcases this with h | h <;> rw [h] <;> rfl
    rw [h2, h2, Nat.testBit_and]
    cases x.testBit v <;> cases q.toNat.testBit v <;> simp
theorem maj_meet {a c : Int} (ha : set5 a) (hc : set5 c) {P P' : Nat → Prop} (h : adj a c) (h1 : maj a P) (h2 : maj c P') : ∃ v : Nat, v < 5 ∧ P v ∧ P' v := by
  obtain ⟨w, hw, h⟩ := h
  obtain ⟨q, m1, p1⟩ := h1
  obtain ⟨r, m2, p2⟩ := h2
  have le1 : ∀ v : Nat, bit (ia a q) v ≤ bit a v := fun v => (bit_ia_le a q v).resolve_right (by omega)
  have le2 : ∀ v : Nat, bit (ia c r) v ≤ bit c v := fun v => (bit_ia_le c r v).resolve_right (by omega)
  by_cases hh : ∃ v : Nat, v < 5 ∧ bit (ia a q) v = 1 ∧ bit (ia c r) v = 1
  · obtain ⟨v, hv, b1, b2⟩ := hh
    exact ⟨v, hv, p1 v hv b1, p2 v hv b2⟩
  · exfalso
    have no : ∀ v : Nat, v < 5 → ¬ (bit (ia a q) v = 1 ∧ bit (ia c r) v = 1) := fun v hv z => hh ⟨v, hv, z⟩
    unfold md_cnt at m1 m2
    have z0 := bit_01 (ia a q) 0
    have z1 := bit_01 (ia a q) 1
    have z2 := bit_01 (ia a q) 2
    have z3 := bit_01 (ia a q) 3
    have z4 := bit_01 (ia a q) 4
    have y0 := bit_01 (ia c r) 0
    have y1 := bit_01 (ia c r) 1
    have y2 := bit_01 (ia c r) 2
    have y3 := bit_01 (ia c r) 3
    have y4 := bit_01 (ia c r) 4
    have a0 := bit_01 a 0
    have a1 := bit_01 a 1
    have a2 := bit_01 a 2
    have a3 := bit_01 a 3
    have a4 := bit_01 a 4
    have c0 := bit_01 c 0
    have c1 := bit_01 c 1
    have c2 := bit_01 c 2
    have c3 := bit_01 c 3
    have c4 := bit_01 c 4
    have n0 : ¬ (bit (ia a q) 0 = 1 ∧ bit (ia c r) 0 = 1) := no 0 (by decide)
    have n1 : ¬ (bit (ia a q) 1 = 1 ∧ bit (ia c r) 1 = 1) := no 1 (by decide)
    have n2 : ¬ (bit (ia a q) 2 = 1 ∧ bit (ia c r) 2 = 1) := no 2 (by decide)
    have n3 : ¬ (bit (ia a q) 3 = 1 ∧ bit (ia c r) 3 = 1) := no 3 (by decide)
    have n4 : ¬ (bit (ia a q) 4 = 1 ∧ bit (ia c r) 4 = 1) := no 4 (by decide)
    have l0 : bit (ia a q) 0 ≤ bit a 0 := le1 0
    have l1 : bit (ia a q) 1 ≤ bit a 1 := le1 1
    have l2 : bit (ia a q) 2 ≤ bit a 2 := le1 2
    have l3 : bit (ia a q) 3 ≤ bit a 3 := le1 3
    have l4 : bit (ia a q) 4 ≤ bit a 4 := le1 4
    have k0 : bit (ia c r) 0 ≤ bit c 0 := le2 0
    have k1 : bit (ia c r) 1 ≤ bit c 1 := le2 1
    have k2 : bit (ia c r) 2 ≤ bit c 2 := le2 2
    have k3 : bit (ia c r) 3 ≤ bit c 3 := le2 3
    have k4 : bit (ia c r) 4 ≤ bit c 4 := le2 4
    have g0 : 0 ≠ w → bit a 0 = bit c 0 := h 0 (by decide)
    have g1 : 1 ≠ w → bit a 1 = bit c 1 := h 1 (by decide)
    have g2 : 2 ≠ w → bit a 2 = bit c 2 := h 2 (by decide)
    have g3 : 3 ≠ w → bit a 3 = bit c 3 := h 3 (by decide)
    have g4 : 4 ≠ w → bit a 4 = bit c 4 := h 4 (by decide)
    clear le1 le2 no hh h p1 p2
    have hw5 : w = 0 ∨ w = 1 ∨ w = 2 ∨ w = 3 ∨ w = 4 := by omega
    rcases hw5 with rfl | rfl | rfl | rfl | rfl <;> omega
