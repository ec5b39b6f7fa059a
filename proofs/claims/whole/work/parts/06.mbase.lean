/-! the reference: its state A, a number for each array and place (ints and booleans by an integer); its cells lie over any heap g -/
abbrev md_A : Type := Nat → Int → Int
def md_n : Nat → Nat
  | 1 => 5
  | 2 => 5
  | 3 => 5
  | 4 => 5
  | 5 => 5
  | 6 => 5
  | 7 => 20
  | 8 => 5
  | 9 => 240
  | 10 => 240
  | 11 => 240
  | 12 => 240
  | 13 => 5
  | 14 => 5
  | 15 => 5
  | 16 => 5
  | 17 => 25
  | 18 => 25
  | 19 => 25
  | 20 => 5
  | 22 => 60
  | 23 => 60
  | 24 => 60
  | 25 => 60
  | 26 => 60
  | 28 => 960
  | 29 => 20
  | _ => 0
def md_t : Nat → Nat
  | 1 => 1
  | 15 => 1
  | _ => 0
def md_f (ad : Nat → Nat) (A : md_A) : List Value := [.int (iI (A 0 0)), .ref (ad 1), .ref (ad 2), .ref (ad 3), .ref (ad 4), .ref (ad 5), .ref (ad 6), .ref (ad 7), .ref (ad 8), .ref (ad 9), .ref (ad 10), .ref (ad 11), .ref (ad 12), .ref (ad 13), .ref (ad 14), .ref (ad 15), .ref (ad 16), .ref (ad 17), .ref (ad 18), .ref (ad 19), .ref (ad 20), .int (iI (A 21 0)), .ref (ad 22), .ref (ad 23), .ref (ad 24), .ref (ad 25), .ref (ad 26), .int (iI (A 27 0)), .ref (ad 28), .ref (ad 29)]
def md_c (G : qh_G) (A : md_A) (k : Nat) : va_E := .inl (G.2 (md_t k), md_n k, .inl (fun j => iI (A k j)))
def md_a (k : Nat) : Prop := k < 30 ∧ k ≠ 0 ∧ k ≠ 21 ∧ k ≠ 27
/-- the object's address, the arrays', and back -/
def md_I (o : Nat) (ad : Nat → Nat) (iv : Nat → Option Nat) : Prop := (∀ k, md_a k → iv (ad k) = some k) ∧ (∀ a k, iv a = some k → md_a k ∧ ad k = a) ∧ iv o = none
def md_h (G : qh_G) (o : Nat) (ad : Nat → Nat) (iv : Nat → Option Nat) (g : qh_H) (A : md_A) : qh_H := fun a => if a = o then some (.inr (8, md_f ad A)) else match iv a with
  | some k => some (md_c G A k)
  | none => g a
/-- one place anew -/
def md_u (A : md_A) (k : Nat) (i v : Int) : md_A := fun j x => if j = k ∧ x = i then v else A j x
theorem md_us {A : md_A} {k : Nat} {i v : Int} : md_u A k i v k i = v := if_pos ⟨rfl, rfl⟩
theorem md_uk {A : md_A} {k j : Nat} {i x v : Int} (h : j ≠ k) : md_u A k i v j x = A j x := if_neg (fun q => h q.1)
theorem md_ui {A : md_A} {k j : Nat} {i x v : Int} (h : x ≠ i) : md_u A k i v j x = A j x := if_neg (fun q => h q.2)
section MD
variable {l : Launch} {G : qh_G} {b : Nat} {own nm : String} {cc : ByteArray} {nL : Nat} {ret : Option FieldType} {tb : List (Nat × Nat × Nat × Nat)} {R : Room} {post : Outcome → qh_H → Prop} {X : qw_T} {pc : Nat} {lo : List (Option Value)} {st : List Value} {n1 n2 : Nat}
variable {o : Nat} {ad : Nat → Nat} {iv : Nat → Option Nat} {g : qh_H} {A : md_A}
theorem md_o : md_h G o ad iv g A o = some (.inr (8, md_f ad A)) := if_pos rfl
theorem md_ne (I : md_I o ad iv) {k : Nat} (hk : md_a k) : ad k ≠ o := fun e => by
  have h1 := I.1 k hk
  rw [e, I.2.2] at h1
  cases h1
theorem md_at (I : md_I o ad iv) {k : Nat} (hk : md_a k) : md_h G o ad iv g A (ad k) = some (md_c G A k) := by
  unfold md_h
  rw [if_neg (md_ne I hk), I.1 k hk]
theorem md_iv (I : md_I o ad iv) {k : Nat} (hk : md_a k) {a : Nat} (h : iv a = some k) : a = ad k := (I.2.1 a k h).2.symm
/-- an array's place -/
theorem md_st (I : md_I o ad iv) {k : Nat} (hk : md_a k) {i v : Int} (h0 : 0 ≤ i) (f : Nat → Int32) (hf : f = upd (fun j => iI (A k j)) i.toNat (iI v)) : va_up (md_h G o ad iv g A) (ad k) (some (.inl (G.2 (md_t k), md_n k, .inl f))) = md_h G o ad iv g (md_u A k i v) := by
  subst hf
  funext a
  unfold va_up
  by_cases ha : a = ad k
  · subst ha
    rw [if_pos rfl, md_at I hk]
    unfold md_c
    congr 5
    funext j
    unfold upd md_u
    by_cases hj : j = i.toNat
    · have : (j : Int) = i := by omega
      rw [if_pos hj, if_pos ⟨rfl, this⟩]
    · have : ¬ ((j : Int) = i) := by omega
      rw [if_neg hj, if_neg (fun q => this q.2)]
  · rw [if_neg ha]
    unfold md_h
    by_cases hao : a = o
    · rw [if_pos hao, if_pos hao]
      unfold md_f
      obtain ⟨h1, h2, h3, h4⟩ := hk
      rw [md_uk (Ne.symm h2), md_uk (Ne.symm h3), md_uk (Ne.symm h4)]
    · rw [if_neg hao, if_neg hao]
      cases hi : iv a with
      | none => rfl
      | some j =>
        have hjk : j ≠ k := fun e => ha (md_iv I hk (e ▸ hi))
        show some (md_c G A j) = some (md_c G (md_u A k i v) j)
        unfold md_c
        congr 5
        funext z
        rw [md_uk hjk]
/-- the object's own ints -/
theorem md_pt (I : md_I o ad iv) {k : Nat} (hk : k = 0 ∨ k = 21 ∨ k = 27) {v : Int} : va_up (md_h G o ad iv g A) o (some (.inr (8, (md_f ad A).set k (.int (iI v))))) = md_h G o ad iv g (md_u A k 0 v) := by
  funext a
  unfold va_up md_h
  by_cases hao : a = o
  · rw [if_pos hao, if_pos hao]
    rcases hk with rfl | rfl | rfl <;> rfl
  · rw [if_neg hao, if_neg hao, if_neg hao]
    cases hi : iv a with
    | none => rfl
    | some j =>
      obtain ⟨⟨h1, h2, h3, h4⟩, -⟩ := I.2.1 a j hi
      have hjk : j ≠ k := by omega
      show some (md_c G A j) = some (md_c G (md_u A k 0 v) j)
      unfold md_c
      congr 5
      funext z
      rw [md_uk hjk]
theorem mx_ia (C : qw_C l G b own nm cc nL ret tb R post X) (I : md_I o ad iv) (k N : Nat) {e : Int} (hd : decode cc pc = .ok (.iaload, 1)) (hk : md_a k) (ht : md_t k = 0) (hN : md_n k = N) (h0 : 0 ≤ e) (h1 : e < N) (kk : X (pc + 1) lo (.int (iI (A k e)) :: st) (md_h G o ad iv g A) n1 n2) : X pc lo (.int (iI e) :: .ref (ad k) :: st) (md_h G o ad iv g A) n1 n2 := by
  have hb : md_n k < 2147483648 := by unfold md_n; split <;> omega
  refine qx_iald C hd (a := ad k) (N := md_n k) (f := fun j => iI (A k j)) (by rw [md_at I hk]; unfold md_c; rw [ht]) (iI_in h0 (by omega) hb) ?_
  rw [iI_clamp h0 (by omega), Int.toNat_of_nonneg h0]
  exact kk
theorem mx_za (C : qw_C l G b own nm cc nL ret tb R post X) (I : md_I o ad iv) (k N : Nat) {e : Int} (hd : decode cc pc = .ok (.baload, 1)) (hk : md_a k) (ht : md_t k = 1) (hN : md_n k = N) (h0 : 0 ≤ e) (h1 : e < N) (kk : X (pc + 1) lo (.int (iI (A k e)) :: st) (md_h G o ad iv g A) n1 n2) : X pc lo (.int (iI e) :: .ref (ad k) :: st) (md_h G o ad iv g A) n1 n2 := by
  have hb : md_n k < 2147483648 := by unfold md_n; split <;> omega
  refine qx_zald C hd (a := ad k) (N := md_n k) (f := fun j => iI (A k j)) (by rw [md_at I hk]; unfold md_c; rw [ht]) (iI_in h0 (by omega) hb) ?_
  rw [iI_clamp h0 (by omega), Int.toNat_of_nonneg h0]
  exact kk
theorem mx_is (C : qw_C l G b own nm cc nL ret tb R post X) (I : md_I o ad iv) (k N : Nat) {e v : Int} (hd : decode cc pc = .ok (.iastore, 1)) (hk : md_a k) (ht : md_t k = 0) (hN : md_n k = N) (h0 : 0 ≤ e) (h1 : e < N) (kk : X (pc + 1) lo st (md_h G o ad iv g (md_u A k e v)) n1 n2) : X pc lo (.int (iI v) :: .int (iI e) :: .ref (ad k) :: st) (md_h G o ad iv g A) n1 n2 := by
  have hb : md_n k < 2147483648 := by unfold md_n; split <;> omega
  refine qx_iast C hd (a := ad k) (N := md_n k) (f := fun j => iI (A k j)) (by rw [md_at I hk]; unfold md_c; rw [ht]) (iI_in h0 (by omega) hb) ?_
  have h9 := md_st (G := G) (g := g) (A := A) (v := v) I hk h0 _ rfl
  rw [ht] at h9
  rw [iI_clamp h0 (by omega), h9]
  exact kk
theorem mx_zs (C : qw_C l G b own nm cc nL ret tb R post X) (I : md_I o ad iv) (k N : Nat) {e v : Int} (hd : decode cc pc = .ok (.bastore, 1)) (hk : md_a k) (ht : md_t k = 1) (hN : md_n k = N) (h0 : 0 ≤ e) (h1 : e < N) (hv : v = 0 ∨ v = 1) (kk : X (pc + 1) lo st (md_h G o ad iv g (md_u A k e v)) n1 n2) : X pc lo (.int (iI v) :: .int (iI e) :: .ref (ad k) :: st) (md_h G o ad iv g A) n1 n2 := by
  have hb : md_n k < 2147483648 := by unfold md_n; split <;> omega
  refine qx_zast C hd (a := ad k) (N := md_n k) (f := fun j => iI (A k j)) (by rw [md_at I hk]; unfold md_c; rw [ht]) (iI_in h0 (by omega) hb) ?_
  have h9 := md_st (G := G) (g := g) (A := A) (v := v) I hk h0 _ rfl
  have h8 : vp_nar .boolean (iI v) = iI v := by rcases hv with rfl | rfl <;> decide
  rw [ht] at h9
  rw [iI_clamp h0 (by omega), h8, h9]
  exact kk
theorem mx_gi (C : qw_C l G b own nm cc nL ret tb R post X) {index k : Nat} {v : Value} (hd : decode cc pc = .ok (.getfield index, 3)) (hf : qx_FL own index 8 k) (hv : (md_f ad A)[k]? = some v) (kk : X (pc + 3) lo (v :: st) (md_h G o ad iv g A) n1 n2) : X pc lo (.ref o :: st) (md_h G o ad iv g A) n1 n2 := qx_get C hd hf md_o hv kk
theorem mx_pi (C : qw_C l G b own nm cc nL ret tb R post X) (I : md_I o ad iv) {index k : Nat} {v : Int} (hd : decode cc pc = .ok (.putfield index, 3)) (hf : qx_FP own index 8 k .int false) (hk : k = 0 ∨ k = 21 ∨ k = 27) (kk : X (pc + 3) lo st (md_h G o ad iv g (md_u A k 0 v)) n1 n2) : X pc lo (.int (iI v) :: .ref o :: st) (md_h G o ad iv g A) n1 n2 := by
  refine qx_put C hd hf md_o (by show k < 30; omega) rfl rfl ?_
  rw [md_pt I hk]
  exact kk
end MD
section NX
variable {l : Launch} {G : qh_G} {b : Nat} {own nm : String} {cc : ByteArray} {nL : Nat} {ret : Option FieldType} {tb : List (Nat × Nat × Nat × Nat)} {R : Room} {post : Outcome → qh_H → Prop} {X : qw_T} {pc : Nat} {lo lo' : List (Option Value)} {st : List Value} {h : qh_H} {k n : Nat}
theorem nx_iadd (C : qw_C l G b own nm cc nL ret tb R post X) {a c : Int} (hd : decode cc pc = .ok (.iadd, 1)) (kk : X (pc + 1) lo (.int (iI (a + c)) :: st) h k n) : X pc lo (.int (iI c) :: .int (iI a) :: st) h k n := qx_iadd C hd (by rw [iI_add]; exact kk)
theorem nx_isub (C : qw_C l G b own nm cc nL ret tb R post X) {a c : Int} (hd : decode cc pc = .ok (.isub, 1)) (kk : X (pc + 1) lo (.int (iI (a - c)) :: st) h k n) : X pc lo (.int (iI c) :: .int (iI a) :: st) h k n := qx_isub C hd (by rw [iI_sub]; exact kk)
theorem nx_imul (C : qw_C l G b own nm cc nL ret tb R post X) {a c : Int} (hd : decode cc pc = .ok (.imul, 1)) (kk : X (pc + 1) lo (.int (iI (a * c)) :: st) h k n) : X pc lo (.int (iI c) :: .int (iI a) :: st) h k n := qx_imul C hd (by rw [iI_mul]; exact kk)
theorem nx_if_eq (C : qw_C l G b own nm cc nL ret tb R post X) {a off : Int} (tgt : Nat) (hd : decode cc pc = .ok (.ifCond .eq off, 3)) (ht : (pc : Int) + off = (tgt : Int)) (ha : rng a) (kt : a = 0 → X tgt lo st h k n) (kf : ¬ a = 0 → X (pc + 3) lo st h k n) : X pc lo (.int (iI a) :: st) h k n := by
  have r0 : rng 0 := by omega
  exact qx_if_eq C hd ht (fun (q : iI a = iI 0) => kt ((iI_eq ha r0).mp q)) (fun (q : ¬ iI a = iI 0) => kf (fun z => q ((iI_eq ha r0).mpr z)))
theorem nx_if_ne (C : qw_C l G b own nm cc nL ret tb R post X) {a off : Int} (tgt : Nat) (hd : decode cc pc = .ok (.ifCond .ne off, 3)) (ht : (pc : Int) + off = (tgt : Int)) (ha : rng a) (kt : ¬ a = 0 → X tgt lo st h k n) (kf : a = 0 → X (pc + 3) lo st h k n) : X pc lo (.int (iI a) :: st) h k n := by
  have r0 : rng 0 := by omega
  exact qx_if_ne C hd ht (fun (q : ¬ iI a = iI 0) => kt (fun z => q ((iI_eq ha r0).mpr z))) (fun (q : iI a = iI 0) => kf ((iI_eq ha r0).mp q))
theorem nx_if_lt (C : qw_C l G b own nm cc nL ret tb R post X) {a off : Int} (tgt : Nat) (hd : decode cc pc = .ok (.ifCond .lt off, 3)) (ht : (pc : Int) + off = (tgt : Int)) (ha : rng a) (kt : a < 0 → X tgt lo st h k n) (kf : ¬ a < 0 → X (pc + 3) lo st h k n) : X pc lo (.int (iI a) :: st) h k n := by
  have r0 : rng 0 := by omega
  exact qx_if_lt C hd ht (fun (q : iI a < iI 0) => kt ((iI_lt ha r0).mp q)) (fun (q : ¬ iI a < iI 0) => kf (fun z => q ((iI_lt ha r0).mpr z)))
theorem nx_if_ge (C : qw_C l G b own nm cc nL ret tb R post X) {a off : Int} (tgt : Nat) (hd : decode cc pc = .ok (.ifCond .ge off, 3)) (ht : (pc : Int) + off = (tgt : Int)) (ha : rng a) (kt : 0 ≤ a → X tgt lo st h k n) (kf : ¬ 0 ≤ a → X (pc + 3) lo st h k n) : X pc lo (.int (iI a) :: st) h k n := by
  have r0 : rng 0 := by omega
  exact qx_if_ge C hd ht (fun (q : iI 0 ≤ iI a) => kt ((iI_le r0 ha).mp q)) (fun (q : ¬ iI 0 ≤ iI a) => kf (fun z => q ((iI_le r0 ha).mpr z)))
theorem nx_if_gt (C : qw_C l G b own nm cc nL ret tb R post X) {a off : Int} (tgt : Nat) (hd : decode cc pc = .ok (.ifCond .gt off, 3)) (ht : (pc : Int) + off = (tgt : Int)) (ha : rng a) (kt : 0 < a → X tgt lo st h k n) (kf : ¬ 0 < a → X (pc + 3) lo st h k n) : X pc lo (.int (iI a) :: st) h k n := by
  have r0 : rng 0 := by omega
  exact qx_if_gt C hd ht (fun (q : iI 0 < iI a) => kt ((iI_lt r0 ha).mp q)) (fun (q : ¬ iI 0 < iI a) => kf (fun z => q ((iI_lt r0 ha).mpr z)))
theorem nx_if_le (C : qw_C l G b own nm cc nL ret tb R post X) {a off : Int} (tgt : Nat) (hd : decode cc pc = .ok (.ifCond .le off, 3)) (ht : (pc : Int) + off = (tgt : Int)) (ha : rng a) (kt : a ≤ 0 → X tgt lo st h k n) (kf : ¬ a ≤ 0 → X (pc + 3) lo st h k n) : X pc lo (.int (iI a) :: st) h k n := by
  have r0 : rng 0 := by omega
  exact qx_if_le C hd ht (fun (q : iI a ≤ iI 0) => kt ((iI_le ha r0).mp q)) (fun (q : ¬ iI a ≤ iI 0) => kf (fun z => q ((iI_le ha r0).mpr z)))
theorem nx_icmp_eq (C : qw_C l G b own nm cc nL ret tb R post X) {a c off : Int} (tgt : Nat) (hd : decode cc pc = .ok (.if_icmp .eq off, 3)) (ht : (pc : Int) + off = (tgt : Int)) (ha : rng a) (hc : rng c) (kt : a = c → X tgt lo st h k n) (kf : ¬ a = c → X (pc + 3) lo st h k n) : X pc lo (.int (iI c) :: .int (iI a) :: st) h k n := qx_icmp_eq C hd ht (fun q => kt ((iI_eq ha hc).mp q)) (fun q => kf (fun z => q ((iI_eq ha hc).mpr z)))
theorem nx_icmp_ne (C : qw_C l G b own nm cc nL ret tb R post X) {a c off : Int} (tgt : Nat) (hd : decode cc pc = .ok (.if_icmp .ne off, 3)) (ht : (pc : Int) + off = (tgt : Int)) (ha : rng a) (hc : rng c) (kt : ¬ a = c → X tgt lo st h k n) (kf : a = c → X (pc + 3) lo st h k n) : X pc lo (.int (iI c) :: .int (iI a) :: st) h k n := qx_icmp_ne C hd ht (fun q => kt (fun z => q ((iI_eq ha hc).mpr z))) (fun q => kf ((iI_eq ha hc).mp q))
theorem nx_icmp_lt (C : qw_C l G b own nm cc nL ret tb R post X) {a c off : Int} (tgt : Nat) (hd : decode cc pc = .ok (.if_icmp .lt off, 3)) (ht : (pc : Int) + off = (tgt : Int)) (ha : rng a) (hc : rng c) (kt : a < c → X tgt lo st h k n) (kf : ¬ a < c → X (pc + 3) lo st h k n) : X pc lo (.int (iI c) :: .int (iI a) :: st) h k n := qx_icmp_lt C hd ht (fun q => kt ((iI_lt ha hc).mp q)) (fun q => kf (fun z => q ((iI_lt ha hc).mpr z)))
theorem nx_icmp_ge (C : qw_C l G b own nm cc nL ret tb R post X) {a c off : Int} (tgt : Nat) (hd : decode cc pc = .ok (.if_icmp .ge off, 3)) (ht : (pc : Int) + off = (tgt : Int)) (ha : rng a) (hc : rng c) (kt : c ≤ a → X tgt lo st h k n) (kf : ¬ c ≤ a → X (pc + 3) lo st h k n) : X pc lo (.int (iI c) :: .int (iI a) :: st) h k n := qx_icmp_ge C hd ht (fun q => kt ((iI_le hc ha).mp q)) (fun q => kf (fun z => q ((iI_le hc ha).mpr z)))
theorem nx_icmp_gt (C : qw_C l G b own nm cc nL ret tb R post X) {a c off : Int} (tgt : Nat) (hd : decode cc pc = .ok (.if_icmp .gt off, 3)) (ht : (pc : Int) + off = (tgt : Int)) (ha : rng a) (hc : rng c) (kt : c < a → X tgt lo st h k n) (kf : ¬ c < a → X (pc + 3) lo st h k n) : X pc lo (.int (iI c) :: .int (iI a) :: st) h k n := qx_icmp_gt C hd ht (fun q => kt ((iI_lt hc ha).mp q)) (fun q => kf (fun z => q ((iI_lt hc ha).mpr z)))
theorem nx_icmp_le (C : qw_C l G b own nm cc nL ret tb R post X) {a c off : Int} (tgt : Nat) (hd : decode cc pc = .ok (.if_icmp .le off, 3)) (ht : (pc : Int) + off = (tgt : Int)) (ha : rng a) (hc : rng c) (kt : a ≤ c → X tgt lo st h k n) (kf : ¬ a ≤ c → X (pc + 3) lo st h k n) : X pc lo (.int (iI c) :: .int (iI a) :: st) h k n := qx_icmp_le C hd ht (fun q => kt ((iI_le ha hc).mp q)) (fun q => kf (fun z => q ((iI_le ha hc).mpr z)))
theorem nx_istore_n (C : qw_C l G b own nm cc nL ret tb R post X) {f : Fin 4} {i : Nat} {x : Int32} (hd : decode cc pc = .ok (.istore_n f, 1)) (hi : (f : Nat) = i) (hn : i < lo.length) (hl : lo.set i (some (.int x)) = lo') (kk : X (pc + 1) lo' st h k n) : X pc lo (.int x :: st) h k n := qx_istore_n C hd hi hn (hl ▸ kk)
theorem nx_istore (C : qw_C l G b own nm cc nL ret tb R post X) {i : Nat} {x : Int32} (hd : decode cc pc = .ok (.istore i, 2)) (hn : i < lo.length) (hl : lo.set i (some (.int x)) = lo') (kk : X (pc + 2) lo' st h k n) : X pc lo (.int x :: st) h k n := qx_istore C hd hn (hl ▸ kk)
theorem nx_astore_n (C : qw_C l G b own nm cc nL ret tb R post X) {f : Fin 4} {i : Nat} {x : Nat} (hd : decode cc pc = .ok (.astore_n f, 1)) (hi : (f : Nat) = i) (hn : i < lo.length) (hl : lo.set i (some (.ref x)) = lo') (kk : X (pc + 1) lo' st h k n) : X pc lo (.ref x :: st) h k n := qx_astore_n C hd hi hn (hl ▸ kk)
theorem nx_astore (C : qw_C l G b own nm cc nL ret tb R post X) {i : Nat} {x : Nat} (hd : decode cc pc = .ok (.astore i, 2)) (hn : i < lo.length) (hl : lo.set i (some (.ref x)) = lo') (kk : X (pc + 2) lo' st h k n) : X pc lo (.ref x :: st) h k n := qx_astore C hd hn (hl ▸ kk)
theorem nx_astore_nN (C : qw_C l G b own nm cc nL ret tb R post X) {f : Fin 4} {i : Nat} (hd : decode cc pc = .ok (.astore_n f, 1)) (hi : (f : Nat) = i) (hn : i < lo.length) (hl : lo.set i (some (.null)) = lo') (kk : X (pc + 1) lo' st h k n) : X pc lo (.null :: st) h k n := qx_astore_nN C hd hi hn (hl ▸ kk)
theorem nx_astoreN (C : qw_C l G b own nm cc nL ret tb R post X) {i : Nat} (hd : decode cc pc = .ok (.astore i, 2)) (hn : i < lo.length) (hl : lo.set i (some (.null)) = lo') (kk : X (pc + 2) lo' st h k n) : X pc lo (.null :: st) h k n := qx_astoreN C hd hn (hl ▸ kk)
theorem nx_iinc (C : qw_C l G b own nm cc nL ret tb R post X) {i : Nat} {d a : Int} (hd : decode cc pc = .ok (.iinc i d, 3)) (hl : lo[i]? = some (some (.int (iI a)))) (hl2 : lo.set i (some (.int (iI (a + d)))) = lo') (kk : X (pc + 3) lo' st h k n) : X pc lo st h k n := by
  refine qx_iinc C hd hl ?_
  have e : iI a + Int32.ofInt d = iI (a + d) := iI_add a d
  rw [e, hl2]
  exact kk
end NX
abbrev qr (d mc ms : Nat) : Room := { frames := d, cells := mc, slots := ms, locals := 32 * d }
theorem qr_ok {d e mc ms nY k n : Nat} {mc' ms' : Nat} (h : e < d) (hn : nY ≤ 8) (h1 : k + mc' ≤ mc) (h2 : n + ms' ≤ ms) : (qr e mc' ms').frames + 1 ≤ (qr d mc ms).frames ∧ 8 + (nY + 11) + (qr e mc' ms').locals ≤ (qr d mc ms).locals ∧ k + (qr e mc' ms').cells ≤ (qr d mc ms).cells ∧ n + (qr e mc' ms').slots ≤ (qr d mc ms).slots := by
  refine ⟨?_, ?_, h1, h2⟩
  · show e + 1 ≤ d; omega
  · show 8 + (nY + 11) + 32 * e ≤ 32 * d; omega
