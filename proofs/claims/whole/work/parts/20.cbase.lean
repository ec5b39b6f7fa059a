/-! the class: its cells by number over any heap g. 0 QuorumLog, 1 its servers, 2 Row, 3 its places, 4 Reads, 5 to 9 its arrays, 10+s Server, 20+s Log, 30+s its entries, 40+s 50+s 60+s next, match, confirmed, 100+m Message, 200+m its entries. I: ints by cell and place; m: which message lies at a place (49: the one taken); E: entries by cell and place; N: snapshots by cell -/
abbrev cl_E : Type := Nat → Nat → Option Nat
def cS (ad : Nat → Nat) (I : md_A) (s : Nat) : List Value := [.int (iI s), .ref (ad (20 + s)), .ref (ad (40 + s)), .ref (ad (50 + s)), .ref (ad (60 + s)), .int (iI (I (10 + s) 5)), .int (iI (I (10 + s) 6)), .int (iI (I (10 + s) 7)), .int (iI (I (10 + s) 8)), .int (iI (I (10 + s) 9)), .int (iI (I (10 + s) 10)), .int (iI (I (10 + s) 11)), .int (iI (I (10 + s) 12))]
def cL (ad : Nat → Nat) (I : md_A) (N : Nat → Nat) (s : Nat) : List Value := [.ref (N (20 + s)), .ref (ad (30 + s)), .int (iI (I (20 + s) 2))]
def cM (ad : Nat → Nat) (I : md_A) (N : Nat → Nat) (x : Nat) : List Value := [.ref (ad (200 + x)), .int (iI (I (100 + x) 1)), .int (iI (I (100 + x) 2)), .int (iI (I (100 + x) 3)), .int (iI (I (100 + x) 4)), .int (iI (I (100 + x) 5)), .int (iI (I (100 + x) 6)), .int (iI (I (100 + x) 7)), .int (iI (I (100 + x) 8)), .int (iI (I (100 + x) 9)), .int (iI (I (100 + x) 10)), .ref (N (100 + x))]
def cQ (ad : Nat → Nat) : List Value := [.ref (ad 1), .ref (ad 2), .ref (ad 4)]
def cW (ad : Nat → Nat) (I : md_A) (m : Nat → Nat) : List Value := [.ref (ad 3), .ref (ad (100 + m 49)), .int (iI (I 2 2))]
def cR (ad : Nat → Nat) (I : md_A) : List Value := [.ref (ad 5), .ref (ad 6), .ref (ad 7), .ref (ad 8), .ref (ad 9), .int (iI (I 4 5))]
abbrev cA (G : qh_G) (I : md_A) (j n : Nat) : va_E := .inl (G.2 0, n, .inl (fun i => iI (I j i)))
abbrev cE (G : qh_G) (t n : Nat) (f : Nat → Option Nat) : va_E := .inl (G.2 t, n, .inr (.inr (.inr (.inr f))))
def cl_v (j : Nat) : Prop := j < 10 ∨ (10 ≤ j ∧ j < 15) ∨ (20 ≤ j ∧ j < 25) ∨ (30 ≤ j ∧ j < 35) ∨ (40 ≤ j ∧ j < 45) ∨ (50 ≤ j ∧ j < 55) ∨ (60 ≤ j ∧ j < 65) ∨ (100 ≤ j ∧ j < 150) ∨ (200 ≤ j ∧ j < 250)
def cl_c (G : qh_G) (ad : Nat → Nat) (I : md_A) (m : Nat → Nat) (E : cl_E) (N : Nat → Nat) (j : Nat) : va_E :=
  if j = 0 then .inr (0, cQ ad) else if j = 1 then cE G 3 5 (fun i => if i < 5 then some (ad (10 + i)) else none) else if j = 2 then .inr (5, cW ad I m) else if j = 3 then cE G 5 49 (fun i => if i < 49 then some (ad (100 + m i)) else none) else if j = 4 then .inr (4, cR ad I) else if j < 10 then cA G I j 60
  else if j < 20 then .inr (6, cS ad I (j - 10)) else if j < 30 then .inr (2, cL ad I N (j - 20)) else if j < 40 then cE G 4 48 (E j) else if j < 100 then cA G I j 5 else if j < 200 then .inr (3, cM ad I N (j - 100)) else cE G 4 2 (E j)
def cl_I (ad : Nat → Nat) (iv : Nat → Option Nat) : Prop := (∀ j, cl_v j → iv (ad j) = some j) ∧ ∀ a j, iv a = some j → cl_v j ∧ ad j = a
def ch (G : qh_G) (ad : Nat → Nat) (iv : Nat → Option Nat) (g : qh_H) (I : md_A) (m : Nat → Nat) (E : cl_E) (N : Nat → Nat) : qh_H := fun a => match iv a with
  | some j => some (cl_c G ad I m E N j)
  | none => g a
section CB
variable {l : Launch} {G : qh_G} {b : Nat} {own nm : String} {cc : ByteArray} {nL : Nat} {ret : Option FieldType} {tb : List (Nat × Nat × Nat × Nat)} {R : Room} {post : Outcome → qh_H → Prop} {X : qw_T} {pc : Nat} {lo : List (Option Value)} {st : List Value} {n1 n2 : Nat}
variable {ad : Nat → Nat} {iv : Nat → Option Nat} {g : qh_H} {I I' : md_A} {m m' : Nat → Nat} {E E' : cl_E} {N N' : Nat → Nat}
theorem ch_at (J : cl_I ad iv) {j : Nat} (hj : cl_v j) : ch G ad iv g I m E N (ad j) = some (cl_c G ad I m E N j) := by
  unfold ch
  rw [J.1 j hj]
theorem ch_g (J : cl_I ad iv) {a : Nat} (ha : iv a = none) : ch G ad iv g I m E N a = g a := by
  unfold ch
  rw [ha]
theorem ch_none {a : Nat} (h : ch G ad iv g I m E N a = none) : iv a = none ∧ g a = none := by
  unfold ch at h
  cases hi : iv a with
  | some j => rw [hi] at h; cases h
  | none => rw [hi] at h; exact ⟨rfl, h⟩
/-- a new cell of the heap below -/
theorem ch_new {a : Nat} {x : Option va_E} (ha : iv a = none) : va_up (ch G ad iv g I m E N) a x = ch G ad iv (va_up g a x) I m E N := by
  funext q
  unfold va_up ch
  by_cases hq : q = a
  · subst hq
    rw [if_pos rfl, ha]
    exact (if_pos rfl).symm
  · rw [if_neg hq]
    cases iv q with
    | some j => rfl
    | none => exact (if_neg hq).symm
theorem ch_up (J : cl_I ad iv) {j : Nat} (hj : cl_v j) {x : va_E} (hx : cl_c G ad I' m' E' N' j = x) (ho : ∀ i, i ≠ j → cl_c G ad I' m' E' N' i = cl_c G ad I m E N i) : va_up (ch G ad iv g I m E N) (ad j) (some x) = ch G ad iv g I' m' E' N' := by
  funext a
  unfold va_up ch
  by_cases ha : a = ad j
  · subst ha
    rw [if_pos rfl, J.1 j hj, ← hx]
  · rw [if_neg ha]
    cases hi : iv a with
    | none => rfl
    | some i =>
      have hij : i ≠ j := fun e => ha (by rw [← e]; exact (J.2 a i hi).2.symm)
      show some (cl_c G ad I m E N i) = some (cl_c G ad I' m' E' N' i)
      rw [ho i hij]
/-- a cell depends on its own row alone, Row and its places on m too -/
theorem cl_cg {i : Nat} (hI : I' i = I i) (hE : E' i = E i) (hN : N' i = N i) (hm : (i ≠ 2 ∧ i ≠ 3) ∨ m' = m) : cl_c G ad I' m' E' N' i = cl_c G ad I m E N i := by
  unfold cl_c
  by_cases h0 : i = 0
  · rw [if_pos h0, if_pos h0]
  rw [if_neg h0, if_neg h0]
  by_cases h1 : i = 1
  · rw [if_pos h1, if_pos h1]
  rw [if_neg h1, if_neg h1]
  by_cases h2 : i = 2
  · subst h2
    rw [if_pos rfl, if_pos rfl]
    rcases hm with h | h
    · exact absurd rfl h.1
    · unfold cW; rw [hI, h]
  rw [if_neg h2, if_neg h2]
  by_cases h3 : i = 3
  · subst h3
    rw [if_pos rfl, if_pos rfl]
    rcases hm with h | h
    · exact absurd rfl h.2
    · rw [h]
  rw [if_neg h3, if_neg h3]
  by_cases h4 : i = 4
  · subst h4
    rw [if_pos rfl, if_pos rfl]
    unfold cR; rw [hI]
  rw [if_neg h4, if_neg h4]
  by_cases h10 : i < 10
  · rw [if_pos h10, if_pos h10]
    unfold cA
    rw [hI]
  rw [if_neg h10, if_neg h10]
  by_cases h20 : i < 20
  · rw [if_pos h20, if_pos h20]
    unfold cS
    rw [show 10 + (i - 10) = i by omega, hI]
  rw [if_neg h20, if_neg h20]
  by_cases h30 : i < 30
  · rw [if_pos h30, if_pos h30]
    unfold cL
    rw [show 20 + (i - 20) = i by omega, hI, hN]
  rw [if_neg h30, if_neg h30]
  by_cases h40 : i < 40
  · rw [if_pos h40, if_pos h40, hE]
  rw [if_neg h40, if_neg h40]
  by_cases h100 : i < 100
  · rw [if_pos h100, if_pos h100]
    unfold cA
    rw [hI]
  rw [if_neg h100, if_neg h100]
  by_cases h200 : i < 200
  · rw [if_pos h200, if_pos h200]
    unfold cM
    rw [show 100 + (i - 100) = i by omega, hI, hN]
  rw [if_neg h200, if_neg h200, hE]
theorem cl_uI (j : Nat) (k v : Int) {i : Nat} (h : i ≠ j) : md_u I j k v i = I i := by
  funext x
  exact md_uk h
theorem ch_Q (J : cl_I ad iv) : ch G ad iv g I m E N (ad 0) = some (.inr (0, cQ ad)) := by
  rw [ch_at J (by unfold cl_v; omega)]
  unfold cl_c
  rw [if_pos rfl]
theorem ch_srv (J : cl_I ad iv) : ch G ad iv g I m E N (ad 1) = some (cE G 3 5 (fun i => if i < 5 then some (ad (10 + i)) else none)) := by
  rw [ch_at J (by unfold cl_v; omega)]
  unfold cl_c
  rw [if_neg (by omega), if_pos (by omega)]
theorem ch_W (J : cl_I ad iv) : ch G ad iv g I m E N (ad 2) = some (.inr (5, cW ad I m)) := by
  rw [ch_at J (by unfold cl_v; omega)]
  unfold cl_c
  rw [if_neg (by omega), if_neg (by omega), if_pos (by omega)]
theorem ch_pl (J : cl_I ad iv) : ch G ad iv g I m E N (ad 3) = some (cE G 5 49 (fun i => if i < 49 then some (ad (100 + m i)) else none)) := by
  rw [ch_at J (by unfold cl_v; omega)]
  unfold cl_c
  rw [if_neg (by omega), if_neg (by omega), if_neg (by omega), if_pos (by omega)]
theorem ch_R (J : cl_I ad iv) : ch G ad iv g I m E N (ad 4) = some (.inr (4, cR ad I)) := by
  rw [ch_at J (by unfold cl_v; omega)]
  unfold cl_c
  rw [if_neg (by omega), if_neg (by omega), if_neg (by omega), if_neg (by omega), if_pos (by omega)]
theorem ch_rd (J : cl_I ad iv) {j : Nat} (hj : 5 ≤ j ∧ j < 10) : ch G ad iv g I m E N (ad j) = some (cA G I j 60) := by
  rw [ch_at J (by unfold cl_v; omega)]
  unfold cl_c
  rw [if_neg (by omega), if_neg (by omega), if_neg (by omega), if_neg (by omega), if_neg (by omega), if_pos (by omega)]
theorem ch_S (J : cl_I ad iv) {s : Nat} (hs : s < 5) : ch G ad iv g I m E N (ad (10 + s)) = some (.inr (6, cS ad I s)) := by
  rw [ch_at J (by unfold cl_v; omega)]
  unfold cl_c
  rw [if_neg (by omega), if_neg (by omega), if_neg (by omega), if_neg (by omega), if_neg (by omega), if_neg (by omega), if_pos (by omega), show 10 + s - 10 = s by omega]
theorem ch_L (J : cl_I ad iv) {s : Nat} (hs : s < 5) : ch G ad iv g I m E N (ad (20 + s)) = some (.inr (2, cL ad I N s)) := by
  rw [ch_at J (by unfold cl_v; omega)]
  unfold cl_c
  rw [if_neg (by omega), if_neg (by omega), if_neg (by omega), if_neg (by omega), if_neg (by omega), if_neg (by omega), if_neg (by omega), if_pos (by omega), show 20 + s - 20 = s by omega]
theorem ch_en (J : cl_I ad iv) {s : Nat} (hs : s < 5) : ch G ad iv g I m E N (ad (30 + s)) = some (cE G 4 48 (E (30 + s))) := by
  rw [ch_at J (by unfold cl_v; omega)]
  unfold cl_c
  rw [if_neg (by omega), if_neg (by omega), if_neg (by omega), if_neg (by omega), if_neg (by omega), if_neg (by omega), if_neg (by omega), if_neg (by omega), if_pos (by omega)]
theorem ch_nx (J : cl_I ad iv) {j : Nat} (hj : (40 ≤ j ∧ j < 45) ∨ (50 ≤ j ∧ j < 55) ∨ (60 ≤ j ∧ j < 65)) : ch G ad iv g I m E N (ad j) = some (cA G I j 5) := by
  rw [ch_at J (by unfold cl_v; omega)]
  unfold cl_c
  rw [if_neg (by omega), if_neg (by omega), if_neg (by omega), if_neg (by omega), if_neg (by omega), if_neg (by omega), if_neg (by omega), if_neg (by omega), if_neg (by omega), if_pos (by omega)]
theorem ch_M (J : cl_I ad iv) {x : Nat} (hs : x < 50) : ch G ad iv g I m E N (ad (100 + x)) = some (.inr (3, cM ad I N x)) := by
  rw [ch_at J (by unfold cl_v; omega)]
  unfold cl_c
  rw [if_neg (by omega), if_neg (by omega), if_neg (by omega), if_neg (by omega), if_neg (by omega), if_neg (by omega), if_neg (by omega), if_neg (by omega), if_neg (by omega), if_neg (by omega), if_pos (by omega), show 100 + x - 100 = x by omega]
theorem ch_me (J : cl_I ad iv) {x : Nat} (hs : x < 50) : ch G ad iv g I m E N (ad (200 + x)) = some (cE G 4 2 (E (200 + x))) := by
  rw [ch_at J (by unfold cl_v; omega)]
  unfold cl_c
  rw [if_neg (by omega), if_neg (by omega), if_neg (by omega), if_neg (by omega), if_neg (by omega), if_neg (by omega), if_neg (by omega), if_neg (by omega), if_neg (by omega), if_neg (by omega), if_neg (by omega)]
theorem ch_uS (J : cl_I ad iv) {s : Nat} (hs : s < 5) {k : Nat} (hk : k = 5 ∨ k = 6 ∨ k = 7 ∨ k = 8 ∨ k = 9 ∨ k = 10 ∨ k = 11 ∨ k = 12) {v : Int} : va_up (ch G ad iv g I m E N) (ad (10 + s)) (some (.inr (6, (cS ad I s).set k (.int (iI v))))) = ch G ad iv g (md_u I (10 + s) k v) m E N := by
  refine ch_up J (by unfold cl_v; omega) ?_ (fun i hi => cl_cg (cl_uI _ _ _ hi) rfl rfl (Or.inr rfl))
  unfold cl_c
  rw [if_neg (by omega), if_neg (by omega), if_neg (by omega), if_neg (by omega), if_neg (by omega), if_neg (by omega), if_pos (by omega), show 10 + s - 10 = s by omega]
  rcases hk with rfl | rfl | rfl | rfl | rfl | rfl | rfl | rfl <;> simp [cS, md_u]
theorem ch_uL (J : cl_I ad iv) {s : Nat} (hs : s < 5) {k : Nat} (hk : k = 2) {v : Int} : va_up (ch G ad iv g I m E N) (ad (20 + s)) (some (.inr (2, (cL ad I N s).set k (.int (iI v))))) = ch G ad iv g (md_u I (20 + s) k v) m E N := by
  refine ch_up J (by unfold cl_v; omega) ?_ (fun i hi => cl_cg (cl_uI _ _ _ hi) rfl rfl (Or.inr rfl))
  unfold cl_c
  rw [if_neg (by omega), if_neg (by omega), if_neg (by omega), if_neg (by omega), if_neg (by omega), if_neg (by omega), if_neg (by omega), if_pos (by omega), show 20 + s - 20 = s by omega]
  subst hk; simp [cL, md_u]
theorem ch_uM (J : cl_I ad iv) {x : Nat} (hs : x < 50) {k : Nat} (hk : k = 1 ∨ k = 2 ∨ k = 3 ∨ k = 4 ∨ k = 5 ∨ k = 6 ∨ k = 7 ∨ k = 8 ∨ k = 9 ∨ k = 10) {v : Int} : va_up (ch G ad iv g I m E N) (ad (100 + x)) (some (.inr (3, (cM ad I N x).set k (.int (iI v))))) = ch G ad iv g (md_u I (100 + x) k v) m E N := by
  refine ch_up J (by unfold cl_v; omega) ?_ (fun i hi => cl_cg (cl_uI _ _ _ hi) rfl rfl (Or.inr rfl))
  unfold cl_c
  rw [if_neg (by omega), if_neg (by omega), if_neg (by omega), if_neg (by omega), if_neg (by omega), if_neg (by omega), if_neg (by omega), if_neg (by omega), if_neg (by omega), if_neg (by omega), if_pos (by omega), show 100 + x - 100 = x by omega]
  rcases hk with rfl | rfl | rfl | rfl | rfl | rfl | rfl | rfl | rfl | rfl <;> simp [cM, md_u]
theorem ch_uW (J : cl_I ad iv) {k : Nat} (hk : k = 2) {v : Int} : va_up (ch G ad iv g I m E N) (ad 2) (some (.inr (5, (cW ad I m).set k (.int (iI v))))) = ch G ad iv g (md_u I 2 k v) m E N := by
  refine ch_up J (by unfold cl_v; omega) ?_ (fun i hi => cl_cg (cl_uI _ _ _ hi) rfl rfl (Or.inr rfl))
  unfold cl_c
  rw [if_neg (by omega), if_neg (by omega), if_pos (by omega)]
  subst hk; simp [cW, md_u]
theorem ch_uR (J : cl_I ad iv) {k : Nat} (hk : k = 5) {v : Int} : va_up (ch G ad iv g I m E N) (ad 4) (some (.inr (4, (cR ad I).set k (.int (iI v))))) = ch G ad iv g (md_u I 4 k v) m E N := by
  refine ch_up J (by unfold cl_v; omega) ?_ (fun i hi => cl_cg (cl_uI _ _ _ hi) rfl rfl (Or.inr rfl))
  unfold cl_c
  rw [if_neg (by omega), if_neg (by omega), if_neg (by omega), if_neg (by omega), if_pos (by omega)]
  subst hk; simp [cR, md_u]
/-- an int array's place -/
theorem ch_ua (J : cl_I ad iv) {j n : Nat} (hj : (5 ≤ j ∧ j < 10 ∧ n = 60) ∨ (n = 5 ∧ ((40 ≤ j ∧ j < 45) ∨ (50 ≤ j ∧ j < 55) ∨ (60 ≤ j ∧ j < 65)))) {i v : Int} (h0 : 0 ≤ i) : va_up (ch G ad iv g I m E N) (ad j) (some (.inl (G.2 0, n, .inl (upd (fun z => iI (I j z)) i.toNat (iI v))))) = ch G ad iv g (md_u I j i v) m E N := by
  refine ch_up J (by unfold cl_v; omega) ?_ (fun i hi => cl_cg (cl_uI _ _ _ hi) rfl rfl (Or.inr rfl))
  have e : (fun z : Nat => iI (md_u I j i v j z)) = upd (fun z => iI (I j z)) i.toNat (iI v) := by
    funext z
    unfold upd md_u
    by_cases hz : z = i.toNat
    · have : (z : Int) = i := by omega
      rw [if_pos hz, if_pos ⟨rfl, this⟩]
    · have : ¬ ((z : Int) = i) := by omega
      rw [if_neg hz, if_neg (fun q => this q.2)]
  unfold cl_c
  rcases hj with ⟨h1, h2, rfl⟩ | ⟨rfl, h1⟩
  · rw [if_neg (by omega), if_neg (by omega), if_neg (by omega), if_neg (by omega), if_neg (by omega), if_pos (by omega)]; unfold cA; rw [e]
  · rw [if_neg (by omega), if_neg (by omega), if_neg (by omega), if_neg (by omega), if_neg (by omega), if_neg (by omega), if_neg (by omega), if_neg (by omega), if_neg (by omega), if_pos (by omega)]; unfold cA; rw [e]
def cl_uE (E : cl_E) (j i : Nat) (v : Option Nat) : cl_E := fun a x => if a = j ∧ x = i then v else E a x
theorem cl_uEk (j i : Nat) (v : Option Nat) {a : Nat} (h : a ≠ j) : cl_uE E j i v a = E a := by
  funext x
  exact if_neg (fun q => h q.1)
theorem cl_uEs (j i : Nat) (v : Option Nat) : cl_uE E j i v j = va_up (E j) i v := by
  funext x
  unfold cl_uE va_up
  by_cases h : x = i
  · rw [if_pos ⟨rfl, h⟩, if_pos h]
  · rw [if_neg (fun q => h q.2), if_neg h]
theorem ch_ue (J : cl_I ad iv) {s : Nat} (hs : s < 5) {i : Nat} {v : Option Nat} : va_up (ch G ad iv g I m E N) (ad (30 + s)) (some (cE G 4 48 (va_up (E (30 + s)) i v))) = ch G ad iv g I m (cl_uE E (30 + s) i v) N := by
  refine ch_up J (by unfold cl_v; omega) ?_ (fun i hi => cl_cg rfl (cl_uEk _ _ _ hi) rfl (Or.inr rfl))
  unfold cl_c
  rw [if_neg (by omega), if_neg (by omega), if_neg (by omega), if_neg (by omega), if_neg (by omega), if_neg (by omega), if_neg (by omega), if_neg (by omega), if_pos (by omega), cl_uEs]
theorem ch_um (J : cl_I ad iv) {x : Nat} (hs : x < 50) {i : Nat} {v : Option Nat} : va_up (ch G ad iv g I m E N) (ad (200 + x)) (some (cE G 4 2 (va_up (E (200 + x)) i v))) = ch G ad iv g I m (cl_uE E (200 + x) i v) N := by
  refine ch_up J (by unfold cl_v; omega) ?_ (fun i hi => cl_cg rfl (cl_uEk _ _ _ hi) rfl (Or.inr rfl))
  unfold cl_c
  rw [if_neg (by omega), if_neg (by omega), if_neg (by omega), if_neg (by omega), if_neg (by omega), if_neg (by omega), if_neg (by omega), if_neg (by omega), if_neg (by omega), if_neg (by omega), if_neg (by omega), cl_uEs]
theorem ch_nL (J : cl_I ad iv) {s : Nat} (hs : s < 5) {q : Nat} : va_up (ch G ad iv g I m E N) (ad (20 + s)) (some (.inr (2, (cL ad I N s).set 0 (.ref q)))) = ch G ad iv g I m E (va_up N (20 + s) q) := by
  refine ch_up J (by unfold cl_v; omega) ?_ (fun i hi => cl_cg rfl rfl (if_neg hi) (Or.inr rfl))
  unfold cl_c
  rw [if_neg (by omega), if_neg (by omega), if_neg (by omega), if_neg (by omega), if_neg (by omega), if_neg (by omega), if_neg (by omega), if_pos (by omega), show 20 + s - 20 = s by omega]
  unfold cL
  rw [va_up_self]
  rfl
theorem ch_nM (J : cl_I ad iv) {x : Nat} (hs : x < 50) {q : Nat} : va_up (ch G ad iv g I m E N) (ad (100 + x)) (some (.inr (3, (cM ad I N x).set 11 (.ref q)))) = ch G ad iv g I m E (va_up N (100 + x) q) := by
  refine ch_up J (by unfold cl_v; omega) ?_ (fun i hi => cl_cg rfl rfl (if_neg hi) (Or.inr rfl))
  unfold cl_c
  rw [if_neg (by omega), if_neg (by omega), if_neg (by omega), if_neg (by omega), if_neg (by omega), if_neg (by omega), if_neg (by omega), if_neg (by omega), if_neg (by omega), if_neg (by omega), if_pos (by omega), show 100 + x - 100 = x by omega]
  unfold cM
  rw [va_up_self]
  rfl
/-- the message taken -/
theorem ch_mt (J : cl_I ad iv) {v : Nat} : va_up (ch G ad iv g I m E N) (ad 2) (some (.inr (5, (cW ad I m).set 1 (.ref (ad (100 + v)))))) = ch G ad iv g I (va_up m 49 v) E N := by
  refine ch_up J (by unfold cl_v; omega) ?_ (fun i hi => ?_)
  · unfold cl_c
    rw [if_neg (by omega), if_neg (by omega), if_pos (by omega)]
    unfold cW
    rw [va_up_self]
    rfl
  · by_cases h3 : i = 3
    · subst h3
      unfold cl_c
      rw [if_neg (by omega), if_neg (by omega), if_neg (by omega), if_pos (by omega), if_neg (by omega), if_neg (by omega), if_neg (by omega), if_pos (by omega)]
      have : (fun i => if i < 49 then some (ad (100 + va_up m 49 v i)) else none) = (fun i => if i < 49 then some (ad (100 + m i)) else none) := by
        funext i
        by_cases h : i < 49
        · rw [if_pos h, if_pos h]
          unfold va_up
          rw [if_neg (by omega)]
        · rw [if_neg h, if_neg h]
      rw [this]
    · exact cl_cg rfl rfl rfl (Or.inl ⟨hi, h3⟩)
/-- a message at a place -/
theorem ch_mp (J : cl_I ad iv) {k v : Nat} (hk : k < 49) : va_up (ch G ad iv g I m E N) (ad 3) (some (cE G 5 49 (va_up (fun i => if i < 49 then some (ad (100 + m i)) else none) k (some (ad (100 + v)))))) = ch G ad iv g I (va_up m k v) E N := by
  refine ch_up J (by unfold cl_v; omega) ?_ (fun i hi => ?_)
  · unfold cl_c
    rw [if_neg (by omega), if_neg (by omega), if_neg (by omega), if_pos (by omega)]
    have : (fun i => if i < 49 then some (ad (100 + va_up m k v i)) else none) = va_up (fun i => if i < 49 then some (ad (100 + m i)) else none) k (some (ad (100 + v))) := by
      funext i
      unfold va_up
      by_cases h : i = k
      · rw [if_pos h, if_pos h, if_pos (by omega)]
      · rw [if_neg h, if_neg h]
    rw [this]
  · by_cases h2 : i = 2
    · subst h2
      unfold cl_c
      rw [if_neg (by omega), if_neg (by omega), if_pos (by omega), if_neg (by omega), if_neg (by omega), if_pos (by omega)]
      unfold cW va_up
      rw [if_neg (by omega)]
    · exact cl_cg rfl rfl rfl (Or.inl ⟨h2, hi⟩)
end CB
