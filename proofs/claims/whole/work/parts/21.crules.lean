/-! the class: rules for its cells; objects and null as answers -/
abbrev qq (l : Launch) (y : MethodName) (cc : ByteArray) (nL : Nat) (rt : Option FieldType) (d mc ms : Nat) (G : qh_G) (b : Nat) (av : List Value) (h : qh_H) (r : Option Nat) (h2 : qh_H) : Prop :=
  qx_M l y (Cond.code y cc nL rt :: qu_W) (qr d mc ms) G b av h (fun oc h' => ∃ z : Option Nat, oc = .returned (some (va_rf z)) ∧ (z = r ∧ h' = h2))
section CR
variable {l : Launch} {G : qh_G} {b : Nat} {own nm : String} {cc : ByteArray} {nL : Nat} {ret : Option FieldType} {tb : List (Nat × Nat × Nat × Nat)} {post : Outcome → qh_H → Prop} {X : qw_T} {pc : Nat} {lo : List (Option Value)} {st : List Value} {h : qh_H} {k n d mc ms : Nat}
theorem nx_callq {y : MethodName} {cY : ByteArray} {nY : Nat} {rY : Option FieldType} {e : Nat} {av rest : List Value} {r : Option Nat} {h2 : qh_H} (C : qw_C l G b own nm cc nL ret tb (qr d mc ms) post X)
    (hsite : qx_Site l G own cc pc y av rest h) (hM : qq l y cY nY rY e 0 0 G b av h r h2) (hy : Cond.code y cY nY rY ∈ qu_W ∧ Cond.initialized y.cls ∈ qu_W) (hst : st = av.reverse ++ rest) (hll : lo.length = nL) (hro : (rest.map fun v => v.category).sum ≤ 8) (hed : e < d ∧ k ≤ mc ∧ n ≤ ms) (hnY : nY ≤ 8)
    (kk : X (pc + 3) lo (va_rf r :: rest) h2 k n) : X pc lo st h k n :=
  qx_runq C hsite hM hy hst hll hro (qr_ok hed.1 hnY hed.2.1 hed.2.2) (fun z h' hq => by obtain ⟨rfl, rfl⟩ := hq; exact kk)
variable {R : Room} {ad : Nat → Nat} {iv : Nat → Option Nat} {g : qh_H} {I : md_A} {m : Nat → Nat} {E : cl_E} {N : Nat → Nat}
theorem cx_el (C : qw_C l G b own nm cc nL ret tb R post X) (J : cl_I ad iv) {s y : Nat} (hs : s < 5) {e : Int} (hd : decode cc pc = .ok (.aaload, 1)) (h0 : 0 ≤ e) (h1 : e < 48) (hv : E (30 + s) e.toNat = some y) (kk : X (pc + 1) lo (.ref y :: st) (ch G ad iv g I m E N) k n) : X pc lo (.int (iI e) :: .ref (ad (30 + s)) :: st) (ch G ad iv g I m E N) k n :=
  qx_aald C hd (ch_en J hs) rfl (iI_in h0 (by omega) (by decide)) (by rw [iI_clamp h0 (by omega)]; exact hv) kk
theorem cx_em (C : qw_C l G b own nm cc nL ret tb R post X) (J : cl_I ad iv) {x y : Nat} (hx : x < 50) {e : Int} (hd : decode cc pc = .ok (.aaload, 1)) (h0 : 0 ≤ e) (h1 : e < 2) (hv : E (200 + x) e.toNat = some y) (kk : X (pc + 1) lo (.ref y :: st) (ch G ad iv g I m E N) k n) : X pc lo (.int (iI e) :: .ref (ad (200 + x)) :: st) (ch G ad iv g I m E N) k n :=
  qx_aald C hd (ch_me J hx) rfl (iI_in h0 (by omega) (by decide)) (by rw [iI_clamp h0 (by omega)]; exact hv) kk
theorem cx_sv (C : qw_C l G b own nm cc nL ret tb R post X) (J : cl_I ad iv) {s : Nat} {e : Int} (hd : decode cc pc = .ok (.aaload, 1)) (he : e = s) (hs : s < 5) (kk : X (pc + 1) lo (.ref (ad (10 + s)) :: st) (ch G ad iv g I m E N) k n) : X pc lo (.int (iI e) :: .ref (ad 1) :: st) (ch G ad iv g I m E N) k n :=
  qx_aald C hd (ch_srv J) rfl (iI_in (by omega) (by omega) (by decide)) (by rw [iI_clamp (by omega) (by omega), show e.toNat = s by omega]; exact if_pos hs) kk
theorem cx_pl (C : qw_C l G b own nm cc nL ret tb R post X) (J : cl_I ad iv) {x : Nat} {e : Int} (hd : decode cc pc = .ok (.aaload, 1)) (he : e = x) (hx : x < 49) (kk : X (pc + 1) lo (.ref (ad (100 + m x)) :: st) (ch G ad iv g I m E N) k n) : X pc lo (.int (iI e) :: .ref (ad 3) :: st) (ch G ad iv g I m E N) k n :=
  qx_aald C hd (ch_pl J) rfl (iI_in (by omega) (by omega) (by decide)) (by rw [iI_clamp (by omega) (by omega), show e.toNat = x by omega]; exact if_pos hx) kk
theorem cx_ia (C : qw_C l G b own nm cc nL ret tb R post X) (J : cl_I ad iv) {j : Nat} {e : Int} (hd : decode cc pc = .ok (.iaload, 1)) (hj : (40 ≤ j ∧ j < 45) ∨ (50 ≤ j ∧ j < 55) ∨ (60 ≤ j ∧ j < 65)) (h0 : 0 ≤ e) (h1 : e < 5) (kk : X (pc + 1) lo (.int (iI (I j e)) :: st) (ch G ad iv g I m E N) k n) : X pc lo (.int (iI e) :: .ref (ad j) :: st) (ch G ad iv g I m E N) k n := by
  refine qx_iald C hd (ch_nx J hj) (iI_in h0 (by omega) (by decide)) ?_
  rw [iI_clamp h0 (by omega), Int.toNat_of_nonneg h0]
  exact kk
theorem cx_ir (C : qw_C l G b own nm cc nL ret tb R post X) (J : cl_I ad iv) {j : Nat} {e : Int} (hd : decode cc pc = .ok (.iaload, 1)) (hj : 5 ≤ j ∧ j < 10) (h0 : 0 ≤ e) (h1 : e < 60) (kk : X (pc + 1) lo (.int (iI (I j e)) :: st) (ch G ad iv g I m E N) k n) : X pc lo (.int (iI e) :: .ref (ad j) :: st) (ch G ad iv g I m E N) k n := by
  refine qx_iald C hd (ch_rd J hj) (iI_in h0 (by omega) (by decide)) ?_
  rw [iI_clamp h0 (by omega), Int.toNat_of_nonneg h0]
  exact kk
theorem cx_is (C : qw_C l G b own nm cc nL ret tb R post X) (J : cl_I ad iv) {j : Nat} {e v : Int} (hd : decode cc pc = .ok (.iastore, 1)) (hj : (40 ≤ j ∧ j < 45) ∨ (50 ≤ j ∧ j < 55) ∨ (60 ≤ j ∧ j < 65)) (h0 : 0 ≤ e) (h1 : e < 5) (kk : X (pc + 1) lo st (ch G ad iv g (md_u I j e v) m E N) k n) : X pc lo (.int (iI v) :: .int (iI e) :: .ref (ad j) :: st) (ch G ad iv g I m E N) k n := by
  refine qx_iast C hd (ch_nx J hj) (iI_in h0 (by omega) (by decide)) ?_
  rw [iI_clamp h0 (by omega), ch_ua J (by omega) h0]
  exact kk
theorem cx_ist (C : qw_C l G b own nm cc nL ret tb R post X) (J : cl_I ad iv) {j : Nat} {e v : Int} (hd : decode cc pc = .ok (.iastore, 1)) (hj : 5 ≤ j ∧ j < 10) (h0 : 0 ≤ e) (h1 : e < 60) (kk : X (pc + 1) lo st (ch G ad iv g (md_u I j e v) m E N) k n) : X pc lo (.int (iI v) :: .int (iI e) :: .ref (ad j) :: st) (ch G ad iv g I m E N) k n := by
  refine qx_iast C hd (ch_rd J hj) (iI_in h0 (by omega) (by decide)) ?_
  rw [iI_clamp h0 (by omega), ch_ua J (by omega) h0]
  exact kk
theorem cx_pS (C : qw_C l G b own nm cc nL ret tb R post X) (J : cl_I ad iv) {s index j : Nat} (hs : s < 5) {v kz : Int} (hd : decode cc pc = .ok (.putfield index, 3)) (hf : qx_FP own index 6 j .int false) (hj : j = 5 ∨ j = 6 ∨ j = 7 ∨ j = 8 ∨ j = 9 ∨ j = 10 ∨ j = 11 ∨ j = 12) (hkz : kz = j) (kk : X (pc + 3) lo st (ch G ad iv g (md_u I (10 + s) kz v) m E N) k n) : X pc lo (.int (iI v) :: .ref (ad (10 + s)) :: st) (ch G ad iv g I m E N) k n := by
  subst hkz
  exact qx_put C hd hf (ch_S J hs) (by show j < 13; omega) rfl rfl (by rw [ch_uS J hs hj]; exact kk)
theorem cx_pSz (C : qw_C l G b own nm cc nL ret tb R post X) (J : cl_I ad iv) {s index j : Nat} (hs : s < 5) {v kz : Int} (hd : decode cc pc = .ok (.putfield index, 3)) (hf : qx_FP own index 6 j .boolean false) (hj : j = 5 ∨ j = 6 ∨ j = 7 ∨ j = 8 ∨ j = 9 ∨ j = 10 ∨ j = 11 ∨ j = 12) (hkz : kz = j) (hv : v = 0 ∨ v = 1) (kk : X (pc + 3) lo st (ch G ad iv g (md_u I (10 + s) kz v) m E N) k n) : X pc lo (.int (iI v) :: .ref (ad (10 + s)) :: st) (ch G ad iv g I m E N) k n := by
  subst hkz
  exact qx_put C hd hf (ch_S J hs) (by show j < 13; omega) (by rcases hv with rfl | rfl <;> rfl) (by rcases hv with rfl | rfl <;> decide) (by rw [ch_uS J hs hj]; exact kk)
theorem cx_pM (C : qw_C l G b own nm cc nL ret tb R post X) (J : cl_I ad iv) {x index j : Nat} (hx : x < 50) {v : Int} (hd : decode cc pc = .ok (.putfield index, 3)) (hf : qx_FP own index 3 j .int false) (hj : j = 1 ∨ j = 2 ∨ j = 3 ∨ j = 4 ∨ j = 5 ∨ j = 6 ∨ j = 7 ∨ j = 8 ∨ j = 9 ∨ j = 10) (kk : X (pc + 3) lo st (ch G ad iv g (md_u I (100 + x) j v) m E N) k n) : X pc lo (.int (iI v) :: .ref (ad (100 + x)) :: st) (ch G ad iv g I m E N) k n :=
  qx_put C hd hf (ch_M J hx) (by show j < 12; omega) rfl rfl (by rw [ch_uM J hx hj]; exact kk)
theorem cx_pMz (C : qw_C l G b own nm cc nL ret tb R post X) (J : cl_I ad iv) {x index j : Nat} (hx : x < 50) {v : Int} (hd : decode cc pc = .ok (.putfield index, 3)) (hf : qx_FP own index 3 j .boolean false) (hj : j = 1 ∨ j = 2 ∨ j = 3 ∨ j = 4 ∨ j = 5 ∨ j = 6 ∨ j = 7 ∨ j = 8 ∨ j = 9 ∨ j = 10) (hv : v = 0 ∨ v = 1) (kk : X (pc + 3) lo st (ch G ad iv g (md_u I (100 + x) j v) m E N) k n) : X pc lo (.int (iI v) :: .ref (ad (100 + x)) :: st) (ch G ad iv g I m E N) k n :=
  qx_put C hd hf (ch_M J hx) (by show j < 12; omega) (by rcases hv with rfl | rfl <;> rfl) (by rcases hv with rfl | rfl <;> decide) (by rw [ch_uM J hx hj]; exact kk)
theorem cx_pL (C : qw_C l G b own nm cc nL ret tb R post X) (J : cl_I ad iv) {s index : Nat} (hs : s < 5) {v : Int} (hd : decode cc pc = .ok (.putfield index, 3)) (hf : qx_FP own index 2 2 .int false) (kk : X (pc + 3) lo st (ch G ad iv g (md_u I (20 + s) 2 v) m E N) k n) : X pc lo (.int (iI v) :: .ref (ad (20 + s)) :: st) (ch G ad iv g I m E N) k n :=
  qx_put C hd hf (ch_L J hs) (by show 2 < 3; omega) rfl rfl (by rw [ch_uL J hs rfl]; exact kk)
theorem cx_pW (C : qw_C l G b own nm cc nL ret tb R post X) (J : cl_I ad iv) {index : Nat} {v : Int} (hd : decode cc pc = .ok (.putfield index, 3)) (hf : qx_FP own index 5 2 .int false) (kk : X (pc + 3) lo st (ch G ad iv g (md_u I 2 2 v) m E N) k n) : X pc lo (.int (iI v) :: .ref (ad 2) :: st) (ch G ad iv g I m E N) k n :=
  qx_put C hd hf (ch_W J) (by show 2 < 3; omega) rfl rfl (by rw [ch_uW J rfl]; exact kk)
theorem cx_pR (C : qw_C l G b own nm cc nL ret tb R post X) (J : cl_I ad iv) {index : Nat} {v : Int} (hd : decode cc pc = .ok (.putfield index, 3)) (hf : qx_FP own index 4 5 .int false) (kk : X (pc + 3) lo st (ch G ad iv g (md_u I 4 5 v) m E N) k n) : X pc lo (.int (iI v) :: .ref (ad 4) :: st) (ch G ad iv g I m E N) k n :=
  qx_put C hd hf (ch_R J) (by show 5 < 6; omega) rfl rfl (by rw [ch_uR J rfl]; exact kk)
theorem cx_nL (C : qw_C l G b own nm cc nL ret tb R post X) (J : cl_I ad iv) {s index q : Nat} (hs : s < 5) (hd : decode cc pc = .ok (.putfield index, 3)) (hf : qx_FP own index 2 0 (.object "QuorumLog$Snapshot") false) (kk : X (pc + 3) lo st (ch G ad iv g I m E (va_up N (20 + s) q)) k n) : X pc lo (.ref q :: .ref (ad (20 + s)) :: st) (ch G ad iv g I m E N) k n :=
  qx_put C hd hf (ch_L J hs) (by show 0 < 3; omega) rfl rfl (by rw [ch_nL J hs]; exact kk)
theorem cx_nM (C : qw_C l G b own nm cc nL ret tb R post X) (J : cl_I ad iv) {x index q : Nat} (hx : x < 50) (hd : decode cc pc = .ok (.putfield index, 3)) (hf : qx_FP own index 3 11 (.object "QuorumLog$Snapshot") false) (kk : X (pc + 3) lo st (ch G ad iv g I m E (va_up N (100 + x) q)) k n) : X pc lo (.ref q :: .ref (ad (100 + x)) :: st) (ch G ad iv g I m E N) k n :=
  qx_put C hd hf (ch_M J hx) (by show 11 < 12; omega) rfl rfl (by rw [ch_nM J hx]; exact kk)
theorem cx_sl (C : qw_C l G b own nm cc nL ret tb R post X) (J : cl_I ad iv) {s q : Nat} (hs : s < 5) {e : Int} {vs : List Value} (hd : decode cc pc = .ok (.aastore, 1)) (h0 : 0 ≤ e) (h1 : e < 48) (hq : ch G ad iv g I m E N q = some (.inr (1, vs))) (kk : X (pc + 1) lo st (ch G ad iv g I m (cl_uE E (30 + s) e.toNat (some q)) N) k n) : X pc lo (.ref q :: .int (iI e) :: .ref (ad (30 + s)) :: st) (ch G ad iv g I m E N) k n := by
  refine qx_aast C hd (ch_en J hs) rfl hq rfl (iI_in h0 (by omega) (by decide)) ?_
  have h9 := ch_ue (G := G) (g := g) (I := I) (m := m) (E := E) (N := N) J hs (i := e.toNat) (v := some q)
  rw [iI_clamp h0 (by omega), h9]
  exact kk
theorem cx_sm (C : qw_C l G b own nm cc nL ret tb R post X) (J : cl_I ad iv) {x q : Nat} (hx : x < 50) {e : Int} {vs : List Value} (hd : decode cc pc = .ok (.aastore, 1)) (h0 : 0 ≤ e) (h1 : e < 2) (hq : ch G ad iv g I m E N q = some (.inr (1, vs))) (kk : X (pc + 1) lo st (ch G ad iv g I m (cl_uE E (200 + x) e.toNat (some q)) N) k n) : X pc lo (.ref q :: .int (iI e) :: .ref (ad (200 + x)) :: st) (ch G ad iv g I m E N) k n := by
  refine qx_aast C hd (ch_me J hx) rfl hq rfl (iI_in h0 (by omega) (by decide)) ?_
  have h9 := ch_um (G := G) (g := g) (I := I) (m := m) (E := E) (N := N) J hx (i := e.toNat) (v := some q)
  rw [iI_clamp h0 (by omega), h9]
  exact kk
/-- a message is put to a place, or taken -/
theorem cx_sp (C : qw_C l G b own nm cc nL ret tb R post X) (J : cl_I ad iv) {v p : Nat} (hv : v < 50) {e : Int} (hd : decode cc pc = .ok (.aastore, 1)) (he : e = p) (hp : p < 49) (kk : X (pc + 1) lo st (ch G ad iv g I (va_up m p v) E N) k n) : X pc lo (.ref (ad (100 + v)) :: .int (iI e) :: .ref (ad 3) :: st) (ch G ad iv g I m E N) k n := by
  refine qx_aast C hd (ch_pl J) rfl (ch_M J hv) rfl (iI_in (by omega) (by omega) (by decide)) ?_
  have h9 := ch_mp (G := G) (g := g) (I := I) (m := m) (E := E) (N := N) J (v := v) hp
  rw [iI_clamp (by omega) (by omega), show e.toNat = p by omega, h9]
  exact kk
theorem cx_mt (C : qw_C l G b own nm cc nL ret tb R post X) (J : cl_I ad iv) {v index : Nat} (hd : decode cc pc = .ok (.putfield index, 3)) (hf : qx_FP own index 5 1 (.object "QuorumLog$Message") false) (kk : X (pc + 3) lo st (ch G ad iv g I (va_up m 49 v) E N) k n) : X pc lo (.ref (ad (100 + v)) :: .ref (ad 2) :: st) (ch G ad iv g I m E N) k n :=
  qx_put C hd hf (ch_W J) (by show 1 < 3; omega) rfl rfl (by rw [ch_mt J]; exact kk)
end CR
/-! what the cells of a log stand for -/
/-- an entry's cell, below the class's own -/
def cr_E (iv : Nat → Option Nat) (g : qh_H) (r : Option Nat) (t so su va : Int) : Prop := ∃ a, r = some a ∧ iv a = none ∧ g a = some (.inr (1, [.int (iI t), .int (iI so), .int (iI su), .int (iI va)]))
/-- four values -/
def cr_V (G : qh_G) (g : qh_H) (va : Nat) (V : Int → Int) : Prop := ∃ f : Nat → Int32, g va = some (.inl (G.2 0, 4, .inl f)) ∧ ∀ i : Nat, i < 4 → f i = iI (V i)
/-- a snapshot's -/
def cr_N (G : qh_G) (iv : Nat → Option Nat) (g : qh_H) (a : Nat) (ix t me : Int) (V : Int → Int) : Prop := iv a = none ∧ ∃ va, iv va = none ∧ g a = some (.inr (7, [.int (iI ix), .int (iI t), .int (iI me), .ref va])) ∧ cr_V G g va V
/-- the log of s stands for A's -/
def cr_L (G : qh_G) (iv : Nat → Option Nat) (g : qh_H) (I : md_A) (E : cl_E) (N : Nat → Nat) (A : md_A) (s : Nat) : Prop := I (20 + s) 2 = A 8 s ∧ cr_N G iv g (N (20 + s)) (A 4 s) (A 5 s) (A 6 s) (fun k => A 7 (4 * s + k)) ∧ ∀ i : Nat, (i : Int) < A 8 s → cr_E iv g (E (30 + s) i) (A 9 (48 * s + i)) (A 10 (48 * s + i)) (A 11 (48 * s + i)) (A 12 (48 * s + i))
