/-! bits of small numbers -/
theorem bz_sl : ∀ n, n < 32 → ((nI n &&& 31).toBitVec.smod 32).toNat = n := by decide +kernel
theorem bz_s1 : ∀ c, c < 31 → (nI 1 <<< (nI c &&& 31)) = nI (2 ^ c) := by decide +kernel
theorem bz_and (a c : Nat) : nI a &&& nI c = nI (a &&& c) := by
  apply Int32.toBitVec_inj.1
  show BitVec.ofNat 32 a &&& BitVec.ofNat 32 c = BitVec.ofNat 32 (a &&& c)
  apply BitVec.eq_of_getLsbD_eq
  intro i hi
  simp [hi]
theorem bz_or (a c : Nat) : nI a ||| nI c = nI (a ||| c) := by
  apply Int32.toBitVec_inj.1
  show BitVec.ofNat 32 a ||| BitVec.ofNat 32 c = BitVec.ofNat 32 (a ||| c)
  apply BitVec.eq_of_getLsbD_eq
  intro i hi
  simp [hi]
theorem bz_xor (a c : Nat) : nI a ^^^ nI c = nI (a ^^^ c) := by
  apply Int32.toBitVec_inj.1
  show BitVec.ofNat 32 a ^^^ BitVec.ofNat 32 c = BitVec.ofNat 32 (a ^^^ c)
  apply BitVec.eq_of_getLsbD_eq
  intro i hi
  simp [hi]
def ia (a c : Int) : Int := ((a.toNat &&& c.toNat : Nat) : Int)
def io (a c : Int) : Int := ((a.toNat ||| c.toNat : Nat) : Int)
def ix (a c : Int) : Int := ((a.toNat ^^^ c.toNat : Nat) : Int)
/-- bit k of a -/
def bit (a k : Int) : Int := a / 2 ^ k.toNat % 2
/-- the set of one -/
def one (k : Int) : Int := 2 ^ k.toNat
theorem iI_and {a c : Int} (ha : 0 ≤ a) (hc : 0 ≤ c) : iI a &&& iI c = iI (ia a c) := by
  obtain ⟨x, rfl⟩ := Int.eq_ofNat_of_zero_le ha
  obtain ⟨y, rfl⟩ := Int.eq_ofNat_of_zero_le hc
  rw [← iI_nat, ← iI_nat, bz_and, iI_nat]
  rfl
theorem iI_or {a c : Int} (ha : 0 ≤ a) (hc : 0 ≤ c) : iI a ||| iI c = iI (io a c) := by
  obtain ⟨x, rfl⟩ := Int.eq_ofNat_of_zero_le ha
  obtain ⟨y, rfl⟩ := Int.eq_ofNat_of_zero_le hc
  rw [← iI_nat, ← iI_nat, bz_or, iI_nat]
  rfl
theorem iI_xor {a c : Int} (ha : 0 ≤ a) (hc : 0 ≤ c) : iI a ^^^ iI c = iI (ix a c) := by
  obtain ⟨x, rfl⟩ := Int.eq_ofNat_of_zero_le ha
  obtain ⟨y, rfl⟩ := Int.eq_ofNat_of_zero_le hc
  rw [← iI_nat, ← iI_nat, bz_xor, iI_nat]
  rfl
theorem iI_shr {a c : Int} (ha : 0 ≤ a) (ha2 : a < 2147483648) (hc : 0 ≤ c) (hc2 : c < 32) : iI a >>> (iI c &&& 31) = iI (a / 2 ^ c.toNat) := by
  obtain ⟨x, rfl⟩ := Int.eq_ofNat_of_zero_le ha
  obtain ⟨y, rfl⟩ := Int.eq_ofNat_of_zero_le hc
  rw [← iI_nat, ← iI_nat, pk_shrN (by omega) _ y (bz_sl y (by omega)), iI_nat]
  congr 1
theorem iI_shl1 {c : Int} (hc : 0 ≤ c) (hc2 : c < 31) : iI 1 <<< (iI c &&& 31) = iI (one c) := by
  obtain ⟨y, rfl⟩ := Int.eq_ofNat_of_zero_le hc
  have h := bz_s1 y (by omega)
  rw [iI_nat, iI_nat, iI_nat] at h
  refine h.trans (congrArg iI ?_)
  unfold one
  rw [Int.toNat_natCast]
  simp
theorem ia_1 {a : Int} (ha : 0 ≤ a) : ia a 1 = a % 2 := by
  obtain ⟨x, rfl⟩ := Int.eq_ofNat_of_zero_le ha
  unfold ia
  rw [Int.toNat_natCast, show (1 : Int).toNat = 1 from rfl, Nat.and_one_is_mod]
  simp
theorem bit_01 (a k : Int) : 0 ≤ bit a k ∧ bit a k < 2 := by unfold bit; omega
/-- sets of five -/
abbrev set5 (a : Int) : Prop := 0 ≤ a ∧ a < 32
theorem set5_ex {a : Int} (h : set5 a) : ∃ n : Nat, n < 32 ∧ a = n := ⟨a.toNat, by omega, by omega⟩
theorem k5_ex {a : Int} (h0 : 0 ≤ a) (h5 : a < 5) : ∃ n : Nat, n < 5 ∧ a = n := ⟨a.toNat, by omega, by omega⟩
theorem bz_5a : ∀ x, x < 32 → ∀ y, y < 32 → (x &&& y) < 32 ∧ (x ||| y) < 32 ∧ (x ^^^ y) < 32 := by decide +kernel
theorem set5_and {a c : Int} (ha : set5 a) (hc : set5 c) : set5 (ia a c) := by
  obtain ⟨x, hx, rfl⟩ := set5_ex ha
  obtain ⟨y, hy, rfl⟩ := set5_ex hc
  have := (bz_5a x hx y hy).1
  unfold ia
  rw [Int.toNat_natCast, Int.toNat_natCast]
  omega
theorem set5_or {a c : Int} (ha : set5 a) (hc : set5 c) : set5 (io a c) := by
  obtain ⟨x, hx, rfl⟩ := set5_ex ha
  obtain ⟨y, hy, rfl⟩ := set5_ex hc
  have := (bz_5a x hx y hy).2.1
  unfold io
  rw [Int.toNat_natCast, Int.toNat_natCast]
  omega
theorem set5_xor {a c : Int} (ha : set5 a) (hc : set5 c) : set5 (ix a c) := by
  obtain ⟨x, hx, rfl⟩ := set5_ex ha
  obtain ⟨y, hy, rfl⟩ := set5_ex hc
  have := (bz_5a x hx y hy).2.2
  unfold ix
  rw [Int.toNat_natCast, Int.toNat_natCast]
  omega
theorem bz_one : ∀ k, k < 5 → (2 : Int) ^ k < 32 ∧ (0 : Int) ≤ 2 ^ k := by decide
theorem set5_one {k : Int} (h0 : 0 ≤ k) (h5 : k < 5) : set5 (one k) := by
  obtain ⟨n, hn, rfl⟩ := k5_ex h0 h5
  have := bz_one n hn
  unfold one
  rw [Int.toNat_natCast]
  omega
section NB
variable {l : Launch} {G : qh_G} {b : Nat} {own nm : String} {cc : ByteArray} {nL : Nat} {ret : Option FieldType} {tb : List (Nat × Nat × Nat × Nat)} {R : Room} {post : Outcome → qh_H → Prop} {X : qw_T} {pc : Nat} {lo lo' : List (Option Value)} {st : List Value} {h : qh_H} {k n : Nat}
theorem nx_iand (C : qw_C l G b own nm cc nL ret tb R post X) {a c : Int} (hd : decode cc pc = .ok (.iand, 1)) (ha : 0 ≤ a) (hc : 0 ≤ c) (kk : X (pc + 1) lo (.int (iI (ia a c)) :: st) h k n) : X pc lo (.int (iI c) :: .int (iI a) :: st) h k n := qx_iand C hd (by rw [iI_and ha hc]; exact kk)
theorem nx_iand1 (C : qw_C l G b own nm cc nL ret tb R post X) {a : Int} (hd : decode cc pc = .ok (.iand, 1)) (ha : 0 ≤ a) (kk : X (pc + 1) lo (.int (iI (a % 2)) :: st) h k n) : X pc lo (.int (iI 1) :: .int (iI a) :: st) h k n := qx_iand C hd (by rw [iI_and ha (by omega), ia_1 ha]; exact kk)
theorem nx_ior (C : qw_C l G b own nm cc nL ret tb R post X) {a c : Int} (hd : decode cc pc = .ok (.ior, 1)) (ha : 0 ≤ a) (hc : 0 ≤ c) (kk : X (pc + 1) lo (.int (iI (io a c)) :: st) h k n) : X pc lo (.int (iI c) :: .int (iI a) :: st) h k n := qx_ior C hd (by rw [iI_or ha hc]; exact kk)
theorem nx_ixor (C : qw_C l G b own nm cc nL ret tb R post X) {a c : Int} (hd : decode cc pc = .ok (.ixor, 1)) (ha : 0 ≤ a) (hc : 0 ≤ c) (kk : X (pc + 1) lo (.int (iI (ix a c)) :: st) h k n) : X pc lo (.int (iI c) :: .int (iI a) :: st) h k n := qx_ixor C hd (by rw [iI_xor ha hc]; exact kk)
theorem nx_ishr (C : qw_C l G b own nm cc nL ret tb R post X) {a c : Int} (hd : decode cc pc = .ok (.ishr, 1)) (ha : 0 ≤ a ∧ a < 2147483648) (hc : 0 ≤ c ∧ c < 32) (kk : X (pc + 1) lo (.int (iI (a / 2 ^ c.toNat)) :: st) h k n) : X pc lo (.int (iI c) :: .int (iI a) :: st) h k n := qx_ishr C hd (by rw [iI_shr ha.1 ha.2 hc.1 hc.2]; exact kk)
/-- a >> c & 1 -/
theorem nx_bit (C : qw_C l G b own nm cc nL ret tb R post X) {a c : Int} (hd : decode cc pc = .ok (.ishr, 1)) (hd2 : decode cc (pc + 1) = .ok (.iconst 1, 1)) (hd3 : decode cc (pc + 2) = .ok (.iand, 1)) (ha : set5 a) (hc : 0 ≤ c ∧ c < 5) (kk : X (pc + 3) lo (.int (iI (bit a c)) :: st) h k n) : X pc lo (.int (iI c) :: .int (iI a) :: st) h k n := by
  refine nx_ishr C hd ⟨ha.1, by omega⟩ ⟨hc.1, by omega⟩ (qx_iconst C hd2 (v := iI 1) rfl ?_)
  exact nx_iand1 C hd3 (Int.ediv_nonneg ha.1 (Int.le_of_lt (Int.pow_pos (by decide)))) kk
theorem nx_ishl1 (C : qw_C l G b own nm cc nL ret tb R post X) {c : Int} (hd : decode cc pc = .ok (.ishl, 1)) (hc : 0 ≤ c ∧ c < 31) (kk : X (pc + 1) lo (.int (iI (one c)) :: st) h k n) : X pc lo (.int (iI c) :: .int (iI 1) :: st) h k n := qx_ishl C hd (by rw [iI_shl1 hc.1 hc.2]; exact kk)
end NB
