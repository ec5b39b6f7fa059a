/-! the heap as a function of the address: what a method does is said of the whole heap -/
abbrev qh_H : Type := Nat → Option va_E
abbrev qh_G : Type := va_G × (Nat → ClassId)
/-- no cell of ours is a class's statics -/
def qh_Z (b : Nat) (H : Heap) : Prop := ∀ (q : Nat) (cell : Cell), b ≤ q → H[q]? = some cell → cell.vm.isStatics = false
def qh_R (G : qh_G) (b : Nat) (h : qh_H) (H : Heap) : Prop := b ≤ H.size ∧ (∀ (a : Nat) (x : va_E), h a = some x → b ≤ a ∧ va_at G.1 qu_Cl (a, x) H) ∧ qh_Z b H
def qh_L (ls : Array Slot) (lo : List (Option Value)) : Prop := ls.size = lo.length ∧ lv_wf ls ∧ ∀ (i : Nat) (v : Value), lo[i]? = some (some v) → ls[i]? = some (.val v) ∧ v.category = 1
def qw_K (G : qh_G) (U : State) : Prop := va_K G.1 qu_Cl (qu_Ty G.2) U ∧ (∀ w ∈ qu_Mn, ∃ (a : String) (i : Nat) (x : MethodName) (h : String), w = .methodLinkNest a i x h ∧ va_Nw w U) ∧ ∀ C ∈ qu_Ao, va_AO C U
/-- what a new exception reads of Throwable's statics -/
def qu_St : List (String × String) := [("UNASSIGNED_STACK", Bundle.steD), ("SUPPRESSED_SENTINEL", Bundle.listD)]
def qu_xw : Cond → Bool
  | .declares _ | .castable .. | .laysStatic .. | .stringRef .. => true
  | _ => false
def qu_Nc : List (String × String) := [("java/lang/IllegalStateException", "java/lang/IllegalArgumentException"), ("java/lang/UnsupportedOperationException", "java/lang/IllegalArgumentException"), ("java/lang/UnsupportedOperationException", "java/lang/IllegalStateException")]
def qw_E (U : State) : Prop := (∀ x ∈ qu_St, ∃ u : RefV, (Term.static Bundle.tN x.1 x.2).eval #[] U none [] U = some u.v) ∧ (∀ w ∈ tables_1, qu_xw w = true → w.before #[] U = true) ∧ ∀ x ∈ qu_Nc, ∃ c1 c2 : ClassId, U.vm.findClass x.1 = some c1 ∧ U.vm.findClass x.2 = some c2 ∧ U.vm.assignable c1 c2 = false
theorem qw_E.go {b : Nat} {s T : State} (hW : s.WarmedH T.vm) (hz : qh_Z b s.heap) (hk : ∀ q : Nat, q < b → T.heap[q]? = s.heap[q]?) (h : qw_E s) : qw_E T := by
  have hal := hW.alike
  refine ⟨fun x hx => ?_, fun w hw hq => ?_, fun x hx => ?_⟩
  · obtain ⟨u, hu⟩ := h.1 x hx
    refine ⟨u, ?_⟩
    have h2 := Term.static_setVm hal hu
    show (Term.static Bundle.tN x.1 x.2).eval #[] (T.setVm T.vm) none [] (T.setVm T.vm) = some u.v
    simp only [Term.eval, Option.bind_eq_bind, Option.bind_eq_some_iff] at h2 ⊢
    obtain ⟨q, h1, st, h2, cell, h3, h4⟩ := h2
    refine ⟨q, h1, st, h2, cell, ?_, h4⟩
    have h3' : s.heap[st]? = some cell := h3
    have hlt : st < b := by
      apply Nat.not_le.mp
      intro hle
      have h9 := hz st cell hle h3'
      rw [h9] at h4
      cases h4
    exact (hk st hlt).trans h3'
  · have h1 := h.2.1 w hw hq
    cases w with
    | declares x => exact (Cond.declares_setVm hal x).trans h1
    | castable a c => exact (Cond.castable_setVm hal a c).trans h1
    | laysStatic a n d =>
      obtain ⟨c, k, i, f, st, cell, hc, hi, hst, ha, hcell, hs, hcls, hlt, hty⟩ := Cond.laysStatic_spec h1
      obtain ⟨k', hi', hek⟩ := State.fieldFound?_setVm hal hi
      have hltb : st < b := by
        apply Nat.not_le.mp
        intro hle
        have h9 := hz st cell hle hcell
        rw [h9] at hs
        cases hs
      exact Cond.laysStatic_of (s := T) (by rw [hal.findClass]; exact hc) hi' hst (by rw [hek]; exact ha) ((hk st hltb).trans hcell) hs hcls hlt (by rw [hek]; exact hty)
    | stringRef a i t => exact Cond.stringRef_warmed hW h1
    | _ => cases hq
  · obtain ⟨c1, c2, h1, h2, h3⟩ := h.2.2 x hx
    exact ⟨c1, c2, by rw [hal.findClass]; exact h1, by rw [hal.findClass]; exact h2, by rw [hal.assignable]; exact h3⟩
theorem qw_K.warm {G : qh_G} {s U : State} (hW : s.WarmedH U.vm) (h : qw_K G s) : qw_K G U :=
  ⟨h.1.moved hW.alike, fun w hw => by
    obtain ⟨a, i, x, g, rfl, hz⟩ := h.2.1 w hw
    exact ⟨a, i, x, g, rfl, va_Nw.warmM hW hz⟩, fun C hC => va_AO.moved hW.alike (h.2.2 C hC)⟩
theorem qw_K.same {G : qh_G} {s U : State} (hv : s.vm = U.vm) (h : qw_K G s) : qw_K G U :=
  ⟨h.1.moved (by rw [hv]; exact Vm.Alike.refl _), fun w hw => by
    obtain ⟨a, i, x, g, rfl, hz⟩ := h.2.1 w hw
    exact ⟨a, i, x, g, rfl, va_Nw.same rfl hv hz⟩, fun C hC => va_AO.moved (by rw [hv]; exact Vm.Alike.refl _) (h.2.2 C hC)⟩
theorem qh_at_Z {D : va_G} {a : Nat} {x : va_E} {H : Heap} {cell : Cell} (h : va_at D qu_Cl (a, x) H) (hc : H[a]? = some cell) : cell.vm.isStatics = false := by
  cases x with
  | inl y =>
    have h1 : H[a]? = some (vp_cell y.1 y.2) := h
    rw [hc] at h1
    cases h1
    obtain ⟨cA, n, f | f | f | f | f⟩ := y <;> rfl
  | inr o =>
    obtain ⟨r, -, c2, q1, -, q3, -⟩ := h
    rw [hc] at q1
    cases q1
    rw [q3]
    rfl
theorem qh_R.up {G : qh_G} {b : Nat} {h : qh_H} {H H' : Heap} {a : Nat} {x : va_E} (hR : qh_R G b h H) (ha : b ≤ a) (hsz : H.size ≤ H'.size) (he : va_at G.1 qu_Cl (a, x) H') (oq : ∀ q : Nat, q ≠ a → q < H.size → H'[q]? = H[q]?) (hz : ∀ q : Nat, q ≠ a → H.size ≤ q → H'.size ≤ q) : qh_R G b (va_up h a (some x)) H' := by
  refine ⟨Nat.le_trans hR.1 hsz, fun y e hy => ?_, fun q cell hq hc => ?_⟩
  rotate_left
  · by_cases hqa : q = a
    · subst hqa
      exact qh_at_Z he hc
    · by_cases hlt : q < H.size
      · rw [oq q hqa hlt] at hc
        exact hR.2.2 q cell hq hc
      · have h9 := hz q hqa (by omega)
        have h8 := (Array.getElem?_eq_some_iff.mp hc).1
        omega
  unfold va_up at hy
  by_cases hya : y = a
  · rw [if_pos hya] at hy
    cases hy
    subst hya
    exact ⟨ha, he⟩
  · rw [if_neg hya] at hy
    obtain ⟨h1, h2⟩ := hR.2.1 y e hy
    exact ⟨h1, h2.kept (oq y hya h2.lt)⟩
theorem qh_R.fresh {G : qh_G} {b : Nat} {h : qh_H} {H : Heap} (hR : qh_R G b h H) : h H.size = none := by
  cases hx : h H.size with
  | none => rfl
  | some x => exact absurd (hR.2.1 _ x hx).2.lt (Nat.lt_irrefl _)
/-! locals -/
def qh_al (lo : List (Option Value)) : List (Nat × Value) := (List.range lo.length).filterMap (fun i => (lo[i]?).join.map (fun v => (i, v)))
theorem qh_al_mem {lo : List (Option Value)} {i : Nat} {v : Value} (h : lo[i]? = some (some v)) : (i, v) ∈ qh_al lo :=
  List.mem_filterMap.mpr ⟨i, List.mem_range.mpr (List.getElem?_eq_some_iff.mp h).1, by rw [h]; rfl⟩
theorem qh_al_of {lo : List (Option Value)} {i : Nat} {v : Value} (h : (i, v) ∈ qh_al lo) : lo[i]? = some (some v) := by
  obtain ⟨j, -, hj⟩ := List.mem_filterMap.mp h
  cases hl : lo[j]? with
  | none => rw [hl] at hj; cases hj
  | some x =>
    rw [hl] at hj
    cases x with
    | none => cases hj
    | some y => cases hj; exact hl
theorem qh_L.has {ls : Array Slot} {lo : List (Option Value)} (h : qh_L ls lo) : lv_has ls lo.length (qh_al lo) :=
  ⟨h.1, h.2.1, fun q hq => (h.2.2 q.1 q.2 (qh_al_of hq)).1⟩
theorem qh_L.set {ls ls' : Array Slot} {lo : List (Option Value)} {i : Nat} {v : Value} (h : qh_L ls lo) (hi : i < lo.length) (hc : v.category = 1)
    (h' : lv_has ls' lo.length ((i, v) :: (qh_al lo).filter (fun q => !(q.1 == i) && !(q.1 + 1 == i && q.2.category == 2)))) : qh_L ls' (lo.set i (some v)) := by
  refine ⟨by rw [List.length_set]; exact h'.1, h'.2.1, fun j w hj => ?_⟩
  by_cases hji : j = i
  · subst hji
    rw [List.getElem?_set_self hi] at hj
    cases hj
    exact ⟨h'.2.2 (j, v) List.mem_cons_self, hc⟩
  · rw [List.getElem?_set_ne (Ne.symm hji)] at hj
    have hw := (h.2.2 j w hj).2
    refine ⟨h'.2.2 (j, w) (List.mem_cons_of_mem _ (List.mem_filter.mpr ⟨qh_al_mem hj, ?_⟩)), hw⟩
    simp [hji, hw]
/-! a method's end, its contract, the walk -/
def qx_Q (G : qh_G) (b : Nat) (post : Outcome → qh_H → Prop) (below : List Frame) (s : State) (mc ms : Nat) : State → Prop := fun t =>
  ∃ (o : Outcome) (h' : qh_H) (L : List Loc), t.status = .running ∧ Ended t below o ∧ post o h' ∧ qh_R G b h' t.heap ∧ s.WarmedH t.vm ∧ (s.heap.size ≤ t.heap.size ∧ ∀ q : Nat, q < b → t.heap[q]? = s.heap[q]?) ∧ s.sameButNew ({ t with vm := s.vm } : State) L mc ms ∧ ∀ q ∈ L, b ≤ q.base
def qx_M (l : Launch) (y : MethodName) (ws : List Cond) (rm : Room) (G : qh_G) (b : Nat) (av : List Value) (h : qh_H) (post : Outcome → qh_H → Prop) : Prop :=
  MetFree l y (headSpec ws rm) (fun v U => v = av.toArray ∧ qh_R G b h U.heap ∧ qw_K G U ∧ qw_E U) (fun _ _ _ _ _ => True)
    (fun _ st o t => ∃ (h' : qh_H) (L : List Loc), post o h' ∧ qh_R G b h' t.heap ∧ st.WarmedH t.vm ∧ (st.heap.size ≤ t.heap.size ∧ ∀ q : Nat, q < b → t.heap[q]? = st.heap[q]?) ∧ st.sameButNew ({ t with vm := st.vm } : State) L rm.cells rm.slots ∧ ∀ q ∈ L, b ≤ q.base)
abbrev qw_T : Type := Nat → List (Option Value) → List Value → qh_H → Nat → Nat → Prop
def qw_J (p : Program) (l : Launch) (e : Env) (R : Room) (s : State) (m : MethodId) (args : Array Value) (below : List Frame) (meth : Method) (c : Code) (Q : State → Prop) (G : qh_G) (b : Nat) : qw_T := fun pc lo st h k n =>
  ∀ (H : Heap) (locs : List Loc) (ls : Array Slot), qh_R G b h H → va_S (fun q => b ≤ q) s.heap H locs → qh_L ls lo → W p l e R s m args below meth c H locs k n Q (F0 m pc ls st)
def qw_C (l : Launch) (G : qh_G) (b : Nat) (own nm : String) (cc : ByteArray) (nL : Nat) (ret : Option FieldType) (tb : List (Nat × Nat × Nat × Nat)) (R : Room) (post : Outcome → qh_H → Prop) (X : qw_T) : Prop :=
  ∃ (p : Program) (e : Env) (s : State) (m : MethodId) (args : Array Value) (below : List Frame) (meth : Method) (c : Code),
    X = qw_J p l e R s m args below meth c (qx_Q G b post below s R.cells R.slots) G b ∧ p.tables.exec = Jvm.exec ∧ c.code = cc ∧ c.maxLocals = nL ∧ c.exceptionTable.toList.map (fun h => (h.startPc, h.endPc, h.handlerPc, h.catchType)) = tb ∧ s.vm.findClass own = some m.cls ∧ (∀ w ∈ qu_W, w.before args s = true) ∧ qw_K G s ∧ meth.locks = false ∧ meth.sig.returnType = ret ∧ meth.name = nm ∧ b ≤ s.heap.size ∧ qw_E s ∧ qh_Z b s.heap
theorem qx_sl : ∀ av : List Value, av.all (fun v => v.category == 1) = true → lg_sl av = av.map Slot.val
  | [], _ => rfl
  | v :: vs, hav => by
    simp only [List.all_cons, Bool.and_eq_true, beq_iff_eq] at hav
    have ih := qx_sl vs hav.2
    unfold lg_sl at ih ⊢
    rw [List.flatMap_cons, ih, if_neg (by rw [hav.1]; decide)]
    rfl
theorem qx_of {l : Launch} {y : MethodName} {ws' : List Cond} {rm : Room} {G : qh_G} {b : Nat} {av : List Value} {h : qh_H} {post : Outcome → qh_H → Prop} {cc : ByteArray} {nL : Nat} {ret : Option FieldType} {lo : List (Option Value)}
    (hy : plainName y.cls = true) (hw : ∀ w ∈ qu_W, w ∈ Cond.code y cc nL ret :: ws') (hav : av.all (fun v => v.category == 1) = true) (hn : av.length ≤ nL) (hlo : lo = av.map some ++ List.replicate (nL - av.length) none)
    (body : ∀ X : qw_T, qw_C l G b y.cls y.name cc nL ret [] rm post X → X 0 lo [] h 0 0) : qx_M l y (Cond.code y cc nL ret :: ws') rm G b av h post := by
  refine MetFree.of_bodyS (code := cc) (maxLocals := nL) (ret := ret) hy ?_ ?_
  · intro args s m hp hnm
    obtain ⟨meth, c, h1, h2, h3, h4, h5, h6, -, -⟩ := Cond.code_spec hnm (atoms_spec (ws := Cond.code y cc nL ret :: ws') hp _ List.mem_cons_self)
    exact ⟨meth, c, h1, h2, h3, h4, h5, h6⟩
  · intro p e s m args below meth c s₁ B hml hP _
    obtain ⟨rfl, hR, hK, hE0⟩ := hP
    have hts := atoms_spec (ws := Cond.code y cc nL ret :: ws') B.pre
    have hown : s.vm.findClass y.cls = some m.cls := findClass_of_methodNamed B.named
    have hnm : meth.name = y.name := (name_of_methodNamed B.named B.method).1
    have htb : c.exceptionTable.toList.map (fun h => (h.startPc, h.endPc, h.handlerPc, h.catchType)) = [] := by
      have h9 := B.noHandlers (hts _ List.mem_cons_self)
      rw [Array.isEmpty_iff] at h9
      rw [h9]; rfl
    have hh0 : s₁.heap = s.heap := by rw [B.state]; rfl
    have hsl : lg_sl av = av.map Slot.val := qx_sl av hav
    have hlen : (lg_sl av).length = av.length := by rw [hsl, List.length_map]
    have hl := lv_entry av (n := nL) (by rw [hlen]; exact hn)
    have hE := lg_entry_eq m av nL
    have hL : qh_L ((lg_sl av ++ List.replicate (nL - (lg_sl av).length) Slot.unset).toArray) lo := by
      refine ⟨?_, hl.2.1, fun i v hi => ?_⟩
      · rw [hl.1, hlo, List.length_append, List.length_map, List.length_replicate]; omega
      · rw [hlo] at hi
        by_cases hia : i < av.length
        · rw [List.getElem?_append_left (by rw [List.length_map]; exact hia), List.getElem?_map] at hi
          have hav2 : av[i]? = some v := by
            cases hx : av[i]? with
            | none => rw [hx] at hi; cases hi
            | some z => rw [hx] at hi; cases hi; rfl
          refine ⟨?_, ?_⟩
          · rw [List.getElem?_toArray, hsl, List.getElem?_append_left (by rw [List.length_map]; exact hia), List.getElem?_map, hav2]; rfl
          · have := List.all_eq_true.mp hav v (List.mem_of_getElem? hav2)
            simpa using this
        · rw [List.getElem?_append_right (by rw [List.length_map]; omega), List.getElem?_replicate] at hi
          split at hi <;> cases hi
    have hX := body _ ⟨p, e, s, m, av.toArray, below, meth, c, rfl, B.exec, B.bytes, hml, htb, hown, fun w hw' => hts w (hw w hw'), hK, B.notSynchronized, B.returns, hnm, hR.1, hE0, hR.2.2⟩
    have hW := hX s.heap [] _ hR va_S.rf hL
    rw [← hE] at hW
    obtain ⟨t, a1, o, h', L, b1, b2, b3, b4, b5, b6, b7, b8⟩ := hW s₁ hh0 (Stand.of_body B)
    exact ⟨t, o, a1, b1, b2, h', L, b3, b4, b5, b6, b7, b8⟩

section QXR
variable {l : Launch} {G : qh_G} {b : Nat} {own nm : String} {cc : ByteArray} {nL : Nat} {ret : Option FieldType} {tb : List (Nat × Nat × Nat × Nat)} {R : Room} {post : Outcome → qh_H → Prop} {X : qw_T} {pc : Nat} {lo : List (Option Value)} {st : List Value} {h : qh_H} {k n : Nat}
theorem qx_iconst (C : qw_C l G b own nm cc nL ret tb R post X) {i : Int} {v : Int32} (hd : decode cc pc = .ok (.iconst i, 1)) (hv : Int32.ofInt i = v) (kk : X (pc + 1) lo (.int v :: st) h k n) : X pc lo st h k n := by
  obtain ⟨p, e, s, m, args, below, meth, c, rfl, hx, hb, hml, htb, hown, hts, hK, hlk, hr, hnm, hbs, hE, hZ⟩ := C
  intro H locs ls hR hS hL
  exact lv_iconst hx hb hd hv (kk H locs ls hR hS hL)
theorem qx_bipush (C : qw_C l G b own nm cc nL ret tb R post X) {i : Int} {v : Int32} (hd : decode cc pc = .ok (.bipush i, 2)) (hv : (Int8.ofInt i).toInt32 = v) (kk : X (pc + 2) lo (.int v :: st) h k n) : X pc lo st h k n := by
  obtain ⟨p, e, s, m, args, below, meth, c, rfl, hx, hb, hml, htb, hown, hts, hK, hlk, hr, hnm, hbs, hE, hZ⟩ := C
  intro H locs ls hR hS hL
  exact lv_bipush hx hb hd hv (kk H locs ls hR hS hL)
theorem qx_sipush (C : qw_C l G b own nm cc nL ret tb R post X) {i : Int} {v : Int32} (hd : decode cc pc = .ok (.sipush i, 3)) (hv : (Int16.ofInt i).toInt32 = v) (kk : X (pc + 3) lo (.int v :: st) h k n) : X pc lo st h k n := by
  obtain ⟨p, e, s, m, args, below, meth, c, rfl, hx, hb, hml, htb, hown, hts, hK, hlk, hr, hnm, hbs, hE, hZ⟩ := C
  intro H locs ls hR hS hL
  exact lv_sipush hx hb hd hv (kk H locs ls hR hS hL)
theorem qx_null (C : qw_C l G b own nm cc nL ret tb R post X) (hd : decode cc pc = .ok (.aconst_null, 1)) (kk : X (pc + 1) lo (.null :: st) h k n) : X pc lo st h k n := by
  obtain ⟨p, e, s, m, args, below, meth, c, rfl, hx, hb, hml, htb, hown, hts, hK, hlk, hr, hnm, hbs, hE, hZ⟩ := C
  intro H locs ls hR hS hL
  exact lv_null hx hb hd (kk H locs ls hR hS hL)
theorem qx_iload_n (C : qw_C l G b own nm cc nL ret tb R post X) {f : Fin 4} {i : Nat} {x : Int32} (hd : decode cc pc = .ok (.iload_n f, 1)) (hi : (f : Nat) = i) (hl : lo[i]? = some (some (.int x))) (kk : X (pc + 1) lo (.int x :: st) h k n) : X pc lo st h k n := by
  obtain ⟨p, e, s, m, args, below, meth, c, rfl, hx, hb, hml, htb, hown, hts, hK, hlk, hr, hnm, hbs, hE, hZ⟩ := C
  intro H locs ls hR hS hL
  exact lv_iload_n hx hb hd hi (hL.2.2 _ _ hl).1 (kk H locs ls hR hS hL)
theorem qx_iload (C : qw_C l G b own nm cc nL ret tb R post X) {i : Nat} {x : Int32} (hd : decode cc pc = .ok (.iload i, 2)) (hl : lo[i]? = some (some (.int x))) (kk : X (pc + 2) lo (.int x :: st) h k n) : X pc lo st h k n := by
  obtain ⟨p, e, s, m, args, below, meth, c, rfl, hx, hb, hml, htb, hown, hts, hK, hlk, hr, hnm, hbs, hE, hZ⟩ := C
  intro H locs ls hR hS hL
  exact lv_iload hx hb hd (hL.2.2 _ _ hl).1 (kk H locs ls hR hS hL)
theorem qx_aload_n (C : qw_C l G b own nm cc nL ret tb R post X) {f : Fin 4} {i : Nat} {x : Nat} (hd : decode cc pc = .ok (.aload_n f, 1)) (hi : (f : Nat) = i) (hl : lo[i]? = some (some (.ref x))) (kk : X (pc + 1) lo (.ref x :: st) h k n) : X pc lo st h k n := by
  obtain ⟨p, e, s, m, args, below, meth, c, rfl, hx, hb, hml, htb, hown, hts, hK, hlk, hr, hnm, hbs, hE, hZ⟩ := C
  intro H locs ls hR hS hL
  exact lv_aload_n hx hb hd hi (hL.2.2 _ _ hl).1 (kk H locs ls hR hS hL)
theorem qx_aload (C : qw_C l G b own nm cc nL ret tb R post X) {i : Nat} {x : Nat} (hd : decode cc pc = .ok (.aload i, 2)) (hl : lo[i]? = some (some (.ref x))) (kk : X (pc + 2) lo (.ref x :: st) h k n) : X pc lo st h k n := by
  obtain ⟨p, e, s, m, args, below, meth, c, rfl, hx, hb, hml, htb, hown, hts, hK, hlk, hr, hnm, hbs, hE, hZ⟩ := C
  intro H locs ls hR hS hL
  exact lv_aload hx hb hd (hL.2.2 _ _ hl).1 (kk H locs ls hR hS hL)
theorem qx_aload_nN (C : qw_C l G b own nm cc nL ret tb R post X) {f : Fin 4} {i : Nat} (hd : decode cc pc = .ok (.aload_n f, 1)) (hi : (f : Nat) = i) (hl : lo[i]? = some (some .null)) (kk : X (pc + 1) lo (.null :: st) h k n) : X pc lo st h k n := by
  obtain ⟨p, e, s, m, args, below, meth, c, rfl, hx, hb, hml, htb, hown, hts, hK, hlk, hr, hnm, hbs, hE, hZ⟩ := C
  intro H locs ls hR hS hL
  exact lv_aload_nN hx hb hd hi (hL.2.2 _ _ hl).1 (kk H locs ls hR hS hL)
theorem qx_aloadN (C : qw_C l G b own nm cc nL ret tb R post X) {i : Nat} (hd : decode cc pc = .ok (.aload i, 2)) (hl : lo[i]? = some (some .null)) (kk : X (pc + 2) lo (.null :: st) h k n) : X pc lo st h k n := by
  obtain ⟨p, e, s, m, args, below, meth, c, rfl, hx, hb, hml, htb, hown, hts, hK, hlk, hr, hnm, hbs, hE, hZ⟩ := C
  intro H locs ls hR hS hL
  exact lv_aloadN hx hb hd (hL.2.2 _ _ hl).1 (kk H locs ls hR hS hL)
theorem qx_istore_n (C : qw_C l G b own nm cc nL ret tb R post X) {f : Fin 4} {i : Nat} {x : Int32} (hd : decode cc pc = .ok (.istore_n f, 1)) (hi : (f : Nat) = i) (hn : i < lo.length) (kk : X (pc + 1) (lo.set i (some (.int x))) st h k n) : X pc lo (.int x :: st) h k n := by
  obtain ⟨p, e, s, m, args, below, meth, c, rfl, hx, hb, hml, htb, hown, hts, hK, hlk, hr, hnm, hbs, hE, hZ⟩ := C
  intro H locs ls hR hS hL
  exact lv_istore_n hx hb hd hi hL.has hn rfl (fun ls2 h2 => kk H locs ls2 hR hS (hL.set hn rfl h2))
theorem qx_istore (C : qw_C l G b own nm cc nL ret tb R post X) {i : Nat} {x : Int32} (hd : decode cc pc = .ok (.istore i, 2)) (hn : i < lo.length) (kk : X (pc + 2) (lo.set i (some (.int x))) st h k n) : X pc lo (.int x :: st) h k n := by
  obtain ⟨p, e, s, m, args, below, meth, c, rfl, hx, hb, hml, htb, hown, hts, hK, hlk, hr, hnm, hbs, hE, hZ⟩ := C
  intro H locs ls hR hS hL
  exact lv_istore hx hb hd hL.has hn rfl (fun ls2 h2 => kk H locs ls2 hR hS (hL.set hn rfl h2))
theorem qx_astore_n (C : qw_C l G b own nm cc nL ret tb R post X) {f : Fin 4} {i : Nat} {x : Nat} (hd : decode cc pc = .ok (.astore_n f, 1)) (hi : (f : Nat) = i) (hn : i < lo.length) (kk : X (pc + 1) (lo.set i (some (.ref x))) st h k n) : X pc lo (.ref x :: st) h k n := by
  obtain ⟨p, e, s, m, args, below, meth, c, rfl, hx, hb, hml, htb, hown, hts, hK, hlk, hr, hnm, hbs, hE, hZ⟩ := C
  intro H locs ls hR hS hL
  exact lv_astore_n hx hb hd hi hL.has hn rfl (fun ls2 h2 => kk H locs ls2 hR hS (hL.set hn rfl h2))
theorem qx_astore (C : qw_C l G b own nm cc nL ret tb R post X) {i : Nat} {x : Nat} (hd : decode cc pc = .ok (.astore i, 2)) (hn : i < lo.length) (kk : X (pc + 2) (lo.set i (some (.ref x))) st h k n) : X pc lo (.ref x :: st) h k n := by
  obtain ⟨p, e, s, m, args, below, meth, c, rfl, hx, hb, hml, htb, hown, hts, hK, hlk, hr, hnm, hbs, hE, hZ⟩ := C
  intro H locs ls hR hS hL
  exact lv_astore hx hb hd hL.has hn rfl (fun ls2 h2 => kk H locs ls2 hR hS (hL.set hn rfl h2))
theorem qx_astore_nN (C : qw_C l G b own nm cc nL ret tb R post X) {f : Fin 4} {i : Nat} (hd : decode cc pc = .ok (.astore_n f, 1)) (hi : (f : Nat) = i) (hn : i < lo.length) (kk : X (pc + 1) (lo.set i (some (.null))) st h k n) : X pc lo (.null :: st) h k n := by
  obtain ⟨p, e, s, m, args, below, meth, c, rfl, hx, hb, hml, htb, hown, hts, hK, hlk, hr, hnm, hbs, hE, hZ⟩ := C
  intro H locs ls hR hS hL
  exact lv_astore_nN hx hb hd hi hL.has hn rfl (fun ls2 h2 => kk H locs ls2 hR hS (hL.set hn rfl h2))
theorem qx_astoreN (C : qw_C l G b own nm cc nL ret tb R post X) {i : Nat} (hd : decode cc pc = .ok (.astore i, 2)) (hn : i < lo.length) (kk : X (pc + 2) (lo.set i (some (.null))) st h k n) : X pc lo (.null :: st) h k n := by
  obtain ⟨p, e, s, m, args, below, meth, c, rfl, hx, hb, hml, htb, hown, hts, hK, hlk, hr, hnm, hbs, hE, hZ⟩ := C
  intro H locs ls hR hS hL
  exact lv_astoreN hx hb hd hL.has hn rfl (fun ls2 h2 => kk H locs ls2 hR hS (hL.set hn rfl h2))
theorem qx_iadd (C : qw_C l G b own nm cc nL ret tb R post X) {x y : Int32} (hd : decode cc pc = .ok (.iadd, 1)) (kk : X (pc + 1) lo (.int (x + y) :: st) h k n) : X pc lo (.int y :: .int x :: st) h k n := by
  obtain ⟨p, e, s, m, args, below, meth, c, rfl, hx, hb, hml, htb, hown, hts, hK, hlk, hr, hnm, hbs, hE, hZ⟩ := C
  intro H locs ls hR hS hL
  exact lv_iadd hx hb hd (kk H locs ls hR hS hL)
theorem qx_isub (C : qw_C l G b own nm cc nL ret tb R post X) {x y : Int32} (hd : decode cc pc = .ok (.isub, 1)) (kk : X (pc + 1) lo (.int (x - y) :: st) h k n) : X pc lo (.int y :: .int x :: st) h k n := by
  obtain ⟨p, e, s, m, args, below, meth, c, rfl, hx, hb, hml, htb, hown, hts, hK, hlk, hr, hnm, hbs, hE, hZ⟩ := C
  intro H locs ls hR hS hL
  exact lv_isub hx hb hd (kk H locs ls hR hS hL)
theorem qx_imul (C : qw_C l G b own nm cc nL ret tb R post X) {x y : Int32} (hd : decode cc pc = .ok (.imul, 1)) (kk : X (pc + 1) lo (.int (x * y) :: st) h k n) : X pc lo (.int y :: .int x :: st) h k n := by
  obtain ⟨p, e, s, m, args, below, meth, c, rfl, hx, hb, hml, htb, hown, hts, hK, hlk, hr, hnm, hbs, hE, hZ⟩ := C
  intro H locs ls hR hS hL
  exact lv_imul hx hb hd (kk H locs ls hR hS hL)
theorem qx_iand (C : qw_C l G b own nm cc nL ret tb R post X) {x y : Int32} (hd : decode cc pc = .ok (.iand, 1)) (kk : X (pc + 1) lo (.int (x &&& y) :: st) h k n) : X pc lo (.int y :: .int x :: st) h k n := by
  obtain ⟨p, e, s, m, args, below, meth, c, rfl, hx, hb, hml, htb, hown, hts, hK, hlk, hr, hnm, hbs, hE, hZ⟩ := C
  intro H locs ls hR hS hL
  exact lv_iand hx hb hd (kk H locs ls hR hS hL)
theorem qx_ior (C : qw_C l G b own nm cc nL ret tb R post X) {x y : Int32} (hd : decode cc pc = .ok (.ior, 1)) (kk : X (pc + 1) lo (.int (x ||| y) :: st) h k n) : X pc lo (.int y :: .int x :: st) h k n := by
  obtain ⟨p, e, s, m, args, below, meth, c, rfl, hx, hb, hml, htb, hown, hts, hK, hlk, hr, hnm, hbs, hE, hZ⟩ := C
  intro H locs ls hR hS hL
  exact lv_ior hx hb hd (kk H locs ls hR hS hL)
theorem qx_ixor (C : qw_C l G b own nm cc nL ret tb R post X) {x y : Int32} (hd : decode cc pc = .ok (.ixor, 1)) (kk : X (pc + 1) lo (.int (x ^^^ y) :: st) h k n) : X pc lo (.int y :: .int x :: st) h k n := by
  obtain ⟨p, e, s, m, args, below, meth, c, rfl, hx, hb, hml, htb, hown, hts, hK, hlk, hr, hnm, hbs, hE, hZ⟩ := C
  intro H locs ls hR hS hL
  exact lv_ixor hx hb hd (kk H locs ls hR hS hL)
theorem qx_ishl (C : qw_C l G b own nm cc nL ret tb R post X) {x y : Int32} (hd : decode cc pc = .ok (.ishl, 1)) (kk : X (pc + 1) lo (.int (x <<< (y &&& 31)) :: st) h k n) : X pc lo (.int y :: .int x :: st) h k n := by
  obtain ⟨p, e, s, m, args, below, meth, c, rfl, hx, hb, hml, htb, hown, hts, hK, hlk, hr, hnm, hbs, hE, hZ⟩ := C
  intro H locs ls hR hS hL
  exact lv_ishl hx hb hd (kk H locs ls hR hS hL)
theorem qx_ishr (C : qw_C l G b own nm cc nL ret tb R post X) {x y : Int32} (hd : decode cc pc = .ok (.ishr, 1)) (kk : X (pc + 1) lo (.int (x >>> (y &&& 31)) :: st) h k n) : X pc lo (.int y :: .int x :: st) h k n := by
  obtain ⟨p, e, s, m, args, below, meth, c, rfl, hx, hb, hml, htb, hown, hts, hK, hlk, hr, hnm, hbs, hE, hZ⟩ := C
  intro H locs ls hR hS hL
  exact lv_ishr hx hb hd (kk H locs ls hR hS hL)
theorem qx_ineg (C : qw_C l G b own nm cc nL ret tb R post X) {x : Int32} (hd : decode cc pc = .ok (.ineg, 1)) (kk : X (pc + 1) lo (.int (-x) :: st) h k n) : X pc lo (.int x :: st) h k n := by
  obtain ⟨p, e, s, m, args, below, meth, c, rfl, hx, hb, hml, htb, hown, hts, hK, hlk, hr, hnm, hbs, hE, hZ⟩ := C
  intro H locs ls hR hS hL
  exact lv_ineg hx hb hd (kk H locs ls hR hS hL)
theorem qx_dup (C : qw_C l G b own nm cc nL ret tb R post X) {v : Value} (hd : decode cc pc = .ok (.dup, 1)) (hv : v.category = 1) (kk : X (pc + 1) lo (v :: v :: st) h k n) : X pc lo (v :: st) h k n := by
  obtain ⟨p, e, s, m, args, below, meth, c, rfl, hx, hb, hml, htb, hown, hts, hK, hlk, hr, hnm, hbs, hE, hZ⟩ := C
  intro H locs ls hR hS hL
  exact lv_dup hx hb hd hv (kk H locs ls hR hS hL)
theorem qx_pop (C : qw_C l G b own nm cc nL ret tb R post X) {v : Value} (hd : decode cc pc = .ok (.pop, 1)) (hv : v.category = 1) (kk : X (pc + 1) lo st h k n) : X pc lo (v :: st) h k n := by
  obtain ⟨p, e, s, m, args, below, meth, c, rfl, hx, hb, hml, htb, hown, hts, hK, hlk, hr, hnm, hbs, hE, hZ⟩ := C
  intro H locs ls hR hS hL
  exact lv_pop hx hb hd hv (kk H locs ls hR hS hL)
theorem qx_dup_x1 (C : qw_C l G b own nm cc nL ret tb R post X) {v u : Value} (hd : decode cc pc = .ok (.dup_x1, 1)) (hv : v.category = 1) (hu : u.category = 1) (kk : X (pc + 1) lo (v :: u :: v :: st) h k n) : X pc lo (v :: u :: st) h k n := by
  obtain ⟨p, e, s, m, args, below, meth, c, rfl, hx, hb, hml, htb, hown, hts, hK, hlk, hr, hnm, hbs, hE, hZ⟩ := C
  intro H locs ls hR hS hL
  exact lv_dup_x1 hx hb hd hv hu (kk H locs ls hR hS hL)
theorem qx_dup_x2 (C : qw_C l G b own nm cc nL ret tb R post X) {v u z : Value} (hd : decode cc pc = .ok (.dup_x2, 1)) (hv : v.category = 1) (hu : u.category = 1) (hz : z.category = 1) (kk : X (pc + 1) lo (v :: u :: z :: v :: st) h k n) : X pc lo (v :: u :: z :: st) h k n := by
  obtain ⟨p, e, s, m, args, below, meth, c, rfl, hx, hb, hml, htb, hown, hts, hK, hlk, hr, hnm, hbs, hE, hZ⟩ := C
  intro H locs ls hR hS hL
  exact lv_dup_x2 hx hb hd hv hu hz (kk H locs ls hR hS hL)
theorem qx_dup2 (C : qw_C l G b own nm cc nL ret tb R post X) {v u : Value} (hd : decode cc pc = .ok (.dup2, 1)) (hv : v.category = 1) (hu : u.category = 1) (kk : X (pc + 1) lo (v :: u :: v :: u :: st) h k n) : X pc lo (v :: u :: st) h k n := by
  obtain ⟨p, e, s, m, args, below, meth, c, rfl, hx, hb, hml, htb, hown, hts, hK, hlk, hr, hnm, hbs, hE, hZ⟩ := C
  intro H locs ls hR hS hL
  exact lv_dup2_11 hx hb hd hv hu (kk H locs ls hR hS hL)
theorem qx_i2l (C : qw_C l G b own nm cc nL ret tb R post X) {x : Int32} (hd : decode cc pc = .ok (.i2l, 1)) (kk : X (pc + 1) lo (.long x.toInt64 :: st) h k n) : X pc lo (.int x :: st) h k n := by
  obtain ⟨p, e, s, m, args, below, meth, c, rfl, hx, hb, hml, htb, hown, hts, hK, hlk, hr, hnm, hbs, hE, hZ⟩ := C
  intro H locs ls hR hS hL
  exact lv_i2l hx hb hd rfl (kk H locs ls hR hS hL)
theorem qx_lcmp (C : qw_C l G b own nm cc nL ret tb R post X) {x y : Int64} (hd : decode cc pc = .ok (.lcmp, 1)) (kk : X (pc + 1) lo (.int (lg_cmp x y) :: st) h k n) : X pc lo (.long y :: .long x :: st) h k n := by
  obtain ⟨p, e, s, m, args, below, meth, c, rfl, hx, hb, hml, htb, hown, hts, hK, hlk, hr, hnm, hbs, hE, hZ⟩ := C
  intro H locs ls hR hS hL
  exact W.lcmp hx hb hd (kk H locs ls hR hS hL)
theorem qx_goto (C : qw_C l G b own nm cc nL ret tb R post X) {off : Int} {tgt : Nat} (hd : decode cc pc = .ok (.goto off, 3)) (ht : (pc : Int) + off = (tgt : Int)) (kk : X tgt lo st h k n) : X pc lo st h k n := by
  obtain ⟨p, e, s, m, args, below, meth, c, rfl, hx, hb, hml, htb, hown, hts, hK, hlk, hr, hnm, hbs, hE, hZ⟩ := C
  intro H locs ls hR hS hL
  exact lv_goto hx hb hd ht (kk H locs ls hR hS hL)
theorem qx_if_eq (C : qw_C l G b own nm cc nL ret tb R post X) {x : Int32} {off : Int} {tgt : Nat} (hd : decode cc pc = .ok (.ifCond .eq off, 3)) (ht : (pc : Int) + off = (tgt : Int)) (kt : x = 0 → X tgt lo st h k n) (kf : ¬ x = 0 → X (pc + 3) lo st h k n) : X pc lo (.int x :: st) h k n := by
  obtain ⟨p, e, s, m, args, below, meth, c, rfl, hx, hb, hml, htb, hown, hts, hK, hlk, hr, hnm, hbs, hE, hZ⟩ := C
  intro H locs ls hR hS hL
  exact lv_if_eq hx hb hd ht (fun q => kt q H locs ls hR hS hL) (fun q => kf q H locs ls hR hS hL)
theorem qx_if_ne (C : qw_C l G b own nm cc nL ret tb R post X) {x : Int32} {off : Int} {tgt : Nat} (hd : decode cc pc = .ok (.ifCond .ne off, 3)) (ht : (pc : Int) + off = (tgt : Int)) (kt : ¬ x = 0 → X tgt lo st h k n) (kf : x = 0 → X (pc + 3) lo st h k n) : X pc lo (.int x :: st) h k n := by
  obtain ⟨p, e, s, m, args, below, meth, c, rfl, hx, hb, hml, htb, hown, hts, hK, hlk, hr, hnm, hbs, hE, hZ⟩ := C
  intro H locs ls hR hS hL
  exact lv_if_ne hx hb hd ht (fun q => kt q H locs ls hR hS hL) (fun q => kf q H locs ls hR hS hL)
theorem qx_if_lt (C : qw_C l G b own nm cc nL ret tb R post X) {x : Int32} {off : Int} {tgt : Nat} (hd : decode cc pc = .ok (.ifCond .lt off, 3)) (ht : (pc : Int) + off = (tgt : Int)) (kt : x < 0 → X tgt lo st h k n) (kf : ¬ x < 0 → X (pc + 3) lo st h k n) : X pc lo (.int x :: st) h k n := by
  obtain ⟨p, e, s, m, args, below, meth, c, rfl, hx, hb, hml, htb, hown, hts, hK, hlk, hr, hnm, hbs, hE, hZ⟩ := C
  intro H locs ls hR hS hL
  exact lv_if_lt hx hb hd ht (fun q => kt q H locs ls hR hS hL) (fun q => kf q H locs ls hR hS hL)
theorem qx_if_ge (C : qw_C l G b own nm cc nL ret tb R post X) {x : Int32} {off : Int} {tgt : Nat} (hd : decode cc pc = .ok (.ifCond .ge off, 3)) (ht : (pc : Int) + off = (tgt : Int)) (kt : 0 ≤ x → X tgt lo st h k n) (kf : ¬ 0 ≤ x → X (pc + 3) lo st h k n) : X pc lo (.int x :: st) h k n := by
  obtain ⟨p, e, s, m, args, below, meth, c, rfl, hx, hb, hml, htb, hown, hts, hK, hlk, hr, hnm, hbs, hE, hZ⟩ := C
  intro H locs ls hR hS hL
  exact lv_if_ge hx hb hd ht (fun q => kt q H locs ls hR hS hL) (fun q => kf q H locs ls hR hS hL)
theorem qx_if_gt (C : qw_C l G b own nm cc nL ret tb R post X) {x : Int32} {off : Int} {tgt : Nat} (hd : decode cc pc = .ok (.ifCond .gt off, 3)) (ht : (pc : Int) + off = (tgt : Int)) (kt : 0 < x → X tgt lo st h k n) (kf : ¬ 0 < x → X (pc + 3) lo st h k n) : X pc lo (.int x :: st) h k n := by
  obtain ⟨p, e, s, m, args, below, meth, c, rfl, hx, hb, hml, htb, hown, hts, hK, hlk, hr, hnm, hbs, hE, hZ⟩ := C
  intro H locs ls hR hS hL
  exact lv_if_gt hx hb hd ht (fun q => kt q H locs ls hR hS hL) (fun q => kf q H locs ls hR hS hL)
theorem qx_if_le (C : qw_C l G b own nm cc nL ret tb R post X) {x : Int32} {off : Int} {tgt : Nat} (hd : decode cc pc = .ok (.ifCond .le off, 3)) (ht : (pc : Int) + off = (tgt : Int)) (kt : x ≤ 0 → X tgt lo st h k n) (kf : ¬ x ≤ 0 → X (pc + 3) lo st h k n) : X pc lo (.int x :: st) h k n := by
  obtain ⟨p, e, s, m, args, below, meth, c, rfl, hx, hb, hml, htb, hown, hts, hK, hlk, hr, hnm, hbs, hE, hZ⟩ := C
  intro H locs ls hR hS hL
  exact lv_if_le hx hb hd ht (fun q => kt q H locs ls hR hS hL) (fun q => kf q H locs ls hR hS hL)
theorem qx_icmp_eq (C : qw_C l G b own nm cc nL ret tb R post X) {x y : Int32} {off : Int} {tgt : Nat} (hd : decode cc pc = .ok (.if_icmp .eq off, 3)) (ht : (pc : Int) + off = (tgt : Int)) (kt : x = y → X tgt lo st h k n) (kf : ¬ x = y → X (pc + 3) lo st h k n) : X pc lo (.int y :: .int x :: st) h k n := by
  obtain ⟨p, e, s, m, args, below, meth, c, rfl, hx, hb, hml, htb, hown, hts, hK, hlk, hr, hnm, hbs, hE, hZ⟩ := C
  intro H locs ls hR hS hL
  exact lv_icmp_eq hx hb hd ht (fun q => kt q H locs ls hR hS hL) (fun q => kf q H locs ls hR hS hL)
theorem qx_icmp_ne (C : qw_C l G b own nm cc nL ret tb R post X) {x y : Int32} {off : Int} {tgt : Nat} (hd : decode cc pc = .ok (.if_icmp .ne off, 3)) (ht : (pc : Int) + off = (tgt : Int)) (kt : ¬ x = y → X tgt lo st h k n) (kf : x = y → X (pc + 3) lo st h k n) : X pc lo (.int y :: .int x :: st) h k n := by
  obtain ⟨p, e, s, m, args, below, meth, c, rfl, hx, hb, hml, htb, hown, hts, hK, hlk, hr, hnm, hbs, hE, hZ⟩ := C
  intro H locs ls hR hS hL
  exact lv_icmp_ne hx hb hd ht (fun q => kt q H locs ls hR hS hL) (fun q => kf q H locs ls hR hS hL)
theorem qx_icmp_lt (C : qw_C l G b own nm cc nL ret tb R post X) {x y : Int32} {off : Int} {tgt : Nat} (hd : decode cc pc = .ok (.if_icmp .lt off, 3)) (ht : (pc : Int) + off = (tgt : Int)) (kt : x < y → X tgt lo st h k n) (kf : ¬ x < y → X (pc + 3) lo st h k n) : X pc lo (.int y :: .int x :: st) h k n := by
  obtain ⟨p, e, s, m, args, below, meth, c, rfl, hx, hb, hml, htb, hown, hts, hK, hlk, hr, hnm, hbs, hE, hZ⟩ := C
  intro H locs ls hR hS hL
  exact lv_icmp_lt hx hb hd ht (fun q => kt q H locs ls hR hS hL) (fun q => kf q H locs ls hR hS hL)
theorem qx_icmp_ge (C : qw_C l G b own nm cc nL ret tb R post X) {x y : Int32} {off : Int} {tgt : Nat} (hd : decode cc pc = .ok (.if_icmp .ge off, 3)) (ht : (pc : Int) + off = (tgt : Int)) (kt : y ≤ x → X tgt lo st h k n) (kf : ¬ y ≤ x → X (pc + 3) lo st h k n) : X pc lo (.int y :: .int x :: st) h k n := by
  obtain ⟨p, e, s, m, args, below, meth, c, rfl, hx, hb, hml, htb, hown, hts, hK, hlk, hr, hnm, hbs, hE, hZ⟩ := C
  intro H locs ls hR hS hL
  exact lv_icmp_ge hx hb hd ht (fun q => kt q H locs ls hR hS hL) (fun q => kf q H locs ls hR hS hL)
theorem qx_icmp_gt (C : qw_C l G b own nm cc nL ret tb R post X) {x y : Int32} {off : Int} {tgt : Nat} (hd : decode cc pc = .ok (.if_icmp .gt off, 3)) (ht : (pc : Int) + off = (tgt : Int)) (kt : y < x → X tgt lo st h k n) (kf : ¬ y < x → X (pc + 3) lo st h k n) : X pc lo (.int y :: .int x :: st) h k n := by
  obtain ⟨p, e, s, m, args, below, meth, c, rfl, hx, hb, hml, htb, hown, hts, hK, hlk, hr, hnm, hbs, hE, hZ⟩ := C
  intro H locs ls hR hS hL
  exact lv_icmp_gt hx hb hd ht (fun q => kt q H locs ls hR hS hL) (fun q => kf q H locs ls hR hS hL)
theorem qx_icmp_le (C : qw_C l G b own nm cc nL ret tb R post X) {x y : Int32} {off : Int} {tgt : Nat} (hd : decode cc pc = .ok (.if_icmp .le off, 3)) (ht : (pc : Int) + off = (tgt : Int)) (kt : x ≤ y → X tgt lo st h k n) (kf : ¬ x ≤ y → X (pc + 3) lo st h k n) : X pc lo (.int y :: .int x :: st) h k n := by
  obtain ⟨p, e, s, m, args, below, meth, c, rfl, hx, hb, hml, htb, hown, hts, hK, hlk, hr, hnm, hbs, hE, hZ⟩ := C
  intro H locs ls hR hS hL
  exact lv_icmp_le hx hb hd ht (fun q => kt q H locs ls hR hS hL) (fun q => kf q H locs ls hR hS hL)
theorem qx_ifnonnull (C : qw_C l G b own nm cc nL ret tb R post X) {x : Nat} {off : Int} {tgt : Nat} (hd : decode cc pc = .ok (.ifnonnull off, 3)) (ht : (pc : Int) + off = (tgt : Int)) (kk : X tgt lo st h k n) : X pc lo (.ref x :: st) h k n := by
  obtain ⟨p, e, s, m, args, below, meth, c, rfl, hx, hb, hml, htb, hown, hts, hK, hlk, hr, hnm, hbs, hE, hZ⟩ := C
  intro H locs ls hR hS hL
  exact lv_ifnonnull hx hb hd ht (kk H locs ls hR hS hL)
theorem qx_ifnonnullN (C : qw_C l G b own nm cc nL ret tb R post X) {off : Int} (hd : decode cc pc = .ok (.ifnonnull off, 3)) (kk : X (pc + 3) lo st h k n) : X pc lo (.null :: st) h k n := by
  obtain ⟨p, e, s, m, args, below, meth, c, rfl, hx, hb, hml, htb, hown, hts, hK, hlk, hr, hnm, hbs, hE, hZ⟩ := C
  intro H locs ls hR hS hL
  exact lv_ifnonnullN hx hb hd (kk H locs ls hR hS hL)
theorem qx_ifnull (C : qw_C l G b own nm cc nL ret tb R post X) {x : Nat} {off : Int} (hd : decode cc pc = .ok (.ifnull off, 3)) (kk : X (pc + 3) lo st h k n) : X pc lo (.ref x :: st) h k n := by
  obtain ⟨p, e, s, m, args, below, meth, c, rfl, hx, hb, hml, htb, hown, hts, hK, hlk, hr, hnm, hbs, hE, hZ⟩ := C
  intro H locs ls hR hS hL
  exact lv_ifnull hx hb hd (kk H locs ls hR hS hL)
theorem qx_ifnullN (C : qw_C l G b own nm cc nL ret tb R post X) {off : Int} {tgt : Nat} (hd : decode cc pc = .ok (.ifnull off, 3)) (ht : (pc : Int) + off = (tgt : Int)) (kk : X tgt lo st h k n) : X pc lo (.null :: st) h k n := by
  obtain ⟨p, e, s, m, args, below, meth, c, rfl, hx, hb, hml, htb, hown, hts, hK, hlk, hr, hnm, hbs, hE, hZ⟩ := C
  intro H locs ls hR hS hL
  exact lv_ifnullN hx hb hd ht (kk H locs ls hR hS hL)
theorem qx_tabIn (C : qw_C l G b own nm cc nL ret tb R post X) {x : Int32} {dflt lw hi : Int} {offs : Array Int} {len : Nat} {off : Int} {tgt : Nat} (hd : decode cc pc = .ok (.tableswitch dflt lw hi offs, len)) (h1 : ¬ x.toInt < lw) (h2 : ¬ hi < x.toInt) (ho : offs[(x.toInt - lw).toNat]? = some off) (ht : (pc : Int) + off = (tgt : Int)) (kk : X tgt lo st h k n) : X pc lo (.int x :: st) h k n := by
  obtain ⟨p, e, s, m, args, below, meth, c, rfl, hx, hb, hml, htb, hown, hts, hK, hlk, hr, hnm, hbs, hE, hZ⟩ := C
  intro H locs ls hR hS hL
  exact lv_tableIn hx hb hd h1 h2 ho ht (kk H locs ls hR hS hL)
theorem qx_tabOut (C : qw_C l G b own nm cc nL ret tb R post X) {x : Int32} {dflt lw hi : Int} {offs : Array Int} {len : Nat} {tgt : Nat} (hd : decode cc pc = .ok (.tableswitch dflt lw hi offs, len)) (h1 : x.toInt < lw ∨ hi < x.toInt) (ht : (pc : Int) + dflt = (tgt : Int)) (kk : X tgt lo st h k n) : X pc lo (.int x :: st) h k n := by
  obtain ⟨p, e, s, m, args, below, meth, c, rfl, hx, hb, hml, htb, hown, hts, hK, hlk, hr, hnm, hbs, hE, hZ⟩ := C
  intro H locs ls hR hS hL
  exact lv_tableOut hx hb hd h1 ht (kk H locs ls hR hS hL)
theorem qx_iinc (C : qw_C l G b own nm cc nL ret tb R post X) {i : Nat} {d : Int} {x : Int32} (hd : decode cc pc = .ok (.iinc i d, 3)) (hl : lo[i]? = some (some (.int x))) (kk : X (pc + 3) (lo.set i (some (.int (x + Int32.ofInt d)))) st h k n) : X pc lo st h k n := by
  obtain ⟨p, e, s, m, args, below, meth, c, rfl, hx, hb, hml, htb, hown, hts, hK, hlk, hr, hnm, hbs, hE, hZ⟩ := C
  intro H locs ls hR hS hL
  have hn : i < lo.length := (List.getElem?_eq_some_iff.mp hl).1
  obtain ⟨j, hj⟩ := List.getElem?_of_mem (qh_al_mem hl)
  exact lv_iinc hx hb hd hL.has hj rfl hn rfl (fun ls2 h2 => kk H locs ls2 hR hS (hL.set hn rfl h2))
theorem qh_R.one {G : qh_G} {b : Nat} {h : qh_H} {H : Heap} {a : Nat} {x : va_E} (hR : qh_R G b h H) (ha : h a = some x) : va_P G.1 qu_Cl [(a, x)] H := by
  intro j q hj
  cases j with
  | zero => cases hj; exact (hR.2.1 a x ha).2
  | succ j => cases hj
def qx_FL (own : String) (index ci j : Nat) : Prop := ∃ (C : String) (T : u_T) (N : Nat), qu_Cl[ci]? = some (C, T, N) ∧ j < N ∧ (∀ w ∈ u_ws C T N, w ∈ qu_W) ∧ Cond.fieldLink own index (T j).1 (T j).2.1 (T j).2.2.1 ∈ qu_W
def qx_FP (own : String) (index ci j : Nat) (ty : FieldType) (fin : Bool) : Prop := ∃ (C : String) (T : u_T) (N : Nat) (ty0 : Nat → FieldType), qu_Cl[ci]? = some (C, T, N) ∧ j < N ∧ (∀ w ∈ u_ws C T N, w ∈ qu_W) ∧ Cond.fieldLink own index (T j).1 (T j).2.1 (T j).2.2.1 ∈ qu_W ∧ (∀ i, i < N → parseFieldDescriptor (T i).2.2.1 = some (ty0 i)) ∧ (∀ x, x < N → ∀ y, y < N → x ≠ y → (T x).2.1 ≠ (T y).2.1) ∧ parseFieldDescriptor (T j).2.2.1 = some ty ∧ (T j).2.2.2 = fin ∧ (fin = true → (T j).1 = own)
def qx_NW (own : String) (index ci : Nat) (fs : List Value) (N : Nat) : Prop := ∃ (C : String) (T : u_T) (ty : Nat → FieldType), qu_Cl[ci]? = some (C, T, N) ∧ (∀ w ∈ u_ws C T N, w ∈ qu_W) ∧ (∀ j, j < N → parseFieldDescriptor (T j).2.2.1 = some (ty j)) ∧ (∀ j, j < N → defaultValue (ty j) = vp_V fs j) ∧ Cond.classLink own index C ∈ qu_W ∧ Cond.instantiable C N ∈ qu_W ∧ Cond.initialized C ∈ qu_W
theorem qx_get (C : qw_C l G b own nm cc nL ret tb R post X) {index ci j a : Nat} {fs : List Value} {v : Value} (hd : decode cc pc = .ok (.getfield index, 3)) (hf : qx_FL own index ci j) (ha : h a = some (.inr (ci, fs))) (hv : fs[j]? = some v) (kk : X (pc + 3) lo (v :: st) h k n) : X pc lo (.ref a :: st) h k n := by
  obtain ⟨p, e, s, m, args, below, meth, c, rfl, hx, hb, hml, htb, hown, hts, hK, hlk, hr, hnm, hbs, hE, hZ⟩ := C
  intro H locs ls hR hS hL
  obtain ⟨Cn, T, N, hc, hj, hin, hlink⟩ := hf
  exact va_get (D := G.1) (cl := qu_Cl) hx hb hts hin hown hK.1 (hR.one ha) 0 rfl hc j hj (hts _ hlink) (fun _ q => q) hv hd (kk H locs ls hR hS hL)
theorem qx_put (C : qw_C l G b own nm cc nL ret tb R post X) {index ci j a : Nat} {fs : List Value} {v : Value} {ty : FieldType} (hd : decode cc pc = .ok (.putfield index, 3)) (hf : qx_FP own index ci j ty false) (ha : h a = some (.inr (ci, fs))) (hl : j < fs.length) (hn : narrow ty v = v) (hfit : fits ty v = true) (kk : X (pc + 3) lo st (va_up h a (some (.inr (ci, fs.set j v)))) k n) : X pc lo (v :: .ref a :: st) h k n := by
  obtain ⟨p, e, s, m, args, below, meth, c, rfl, hx, hb, hml, htb, hown, hts, hK, hlk, hr, hnm, hbs, hE, hZ⟩ := C
  intro H locs ls hR hS hL
  obtain ⟨Cn, T, N, ty0, hc, hj, hin, hlink, hty, hnm2, hpd, hfin, hdecl⟩ := hf
  have hap := va_apart (own := own) hts hin ty0 hty hnm2 hK.1 hc
  obtain ⟨hba, r, h1, cell, q1, q2, q3, q4⟩ := hR.2.1 a _ ha
  have hr2 : r = (Cn, T, N) := Option.some.inj (h1.symm.trans hc)
  subst hr2
  obtain ⟨hSl, hfc, kC, hkC, hkind⟩ := hK.1.1 ci _ hc
  obtain ⟨cf, kf, fi, f, hi, hsl⟩ := hSl j hj
  have hlay := hts _ (hin _ (u_in_lay hj))
  unfold u_lay at hlay
  rw [if_neg (by rw [hfin]; decide)] at hlay
  have hst := (u_facts hfc hkC (u_lays hts hin hj) hi).1
  have h6 := u_store hfc hkC hkind hlay hi hpd hn hfit
  refine W.putK hx hb (f := f) ⟨hown, hts _ hlink, ⟨_, _, _, hi⟩, hst⟩ (by rw [q2]; exact h6) q1 q3 (by rw [hsl]; exact k2_hasslot (q4 j hj)) rfl rfl hd fun H' e1 e2 e3 => ?_
  rw [hsl] at e1 ⊢
  exact kk H' _ ls (hR.up hba (Nat.le_of_eq e2.symm) ⟨_, hc, t_OB.to (V := updV (vp_V fs) j v) ⟨_, e1, q2, q3, t_set q4 hap hj v⟩ (fun i _ => vp_updV_set hl v i)⟩ (fun q hq _ => e3 q hq) (fun q _ h9 => by omega)) (hS.put e2 e3 hba) hL
theorem qx_putF (C : qw_C l G b own nm cc nL ret tb R post X) {index ci j a : Nat} {fs : List Value} {v : Value} {ty : FieldType} (hd : decode cc pc = .ok (.putfield index, 3)) (hi0 : nm = "<init>") (hf : qx_FP own index ci j ty true) (ha : h a = some (.inr (ci, fs))) (hl : j < fs.length) (hn : narrow ty v = v) (hfit : fits ty v = true) (kk : X (pc + 3) lo st (va_up h a (some (.inr (ci, fs.set j v)))) k n) : X pc lo (v :: .ref a :: st) h k n := by
  obtain ⟨p, e, s, m, args, below, meth, c, rfl, hx, hb, hml, htb, hown, hts, hK, hlk, hr, hnm, hbs, hE, hZ⟩ := C
  intro H locs ls hR hS hL
  obtain ⟨Cn, T, N, ty0, hc, hj, hin, hlink, hty, hnm2, hpd, hfin, hdecl⟩ := hf
  have hap := va_apart (own := own) hts hin ty0 hty hnm2 hK.1 hc
  obtain ⟨hba, r, h1, cell, q1, q2, q3, q4⟩ := hR.2.1 a _ ha
  have hr2 : r = (Cn, T, N) := Option.some.inj (h1.symm.trans hc)
  subst hr2
  obtain ⟨hSl, hfc, kC, hkC, hkind⟩ := hK.1.1 ci _ hc
  obtain ⟨cf, kf, fi, f, hi, hsl⟩ := hSl j hj
  have hlay := hts _ (hin _ (u_in_lay hj))
  unfold u_lay at hlay
  rw [if_pos hfin] at hlay
  have hst := (u_facts hfc hkC (u_lays hts hin hj) hi).1
  have hcf : m.cls = cf := by
    obtain ⟨_, _, c', _, _, _, -, -, hf', -, -, -, hown2, -⟩ := Cond.laysFinal_spec hlay
    have e1 : c' = cf := by have := hi.symm.trans hf'; simp at this; exact this.1.symm
    rw [hdecl rfl] at hown2
    rw [← e1]; exact Option.some.inj (hown.symm.trans hown2)
  have h6 := u_fits hfc hkC hkind (Or.inr hlay) hi hpd hn hfit
  refine W.putFinK hx hb hown (hts _ hlink) hi hst hcf (hnm.trans hi0) (by rw [q2]; exact h6) q1 q3 (by rw [hsl]; exact k2_hasslot (q4 j hj)) rfl rfl hd fun H' e1 e2 e3 => ?_
  rw [hsl] at e1 ⊢
  exact kk H' _ ls (hR.up hba (Nat.le_of_eq e2.symm) ⟨_, hc, t_OB.to (V := updV (vp_V fs) j v) ⟨_, e1, q2, q3, t_set q4 hap hj v⟩ (fun i _ => vp_updV_set hl v i)⟩ (fun q hq _ => e3 q hq) (fun q _ h9 => by omega)) (hS.put e2 e3 hba) hL
theorem qx_new (C : qw_C l G b own nm cc nL ret tb R post X) {index ci N : Nat} {fs : List Value} (hd : decode cc pc = .ok (.new index, 3)) (hf : qx_NW own index ci fs N) (h1 : k + 1 ≤ R.cells) (h2 : n + N ≤ R.slots) (kk : ∀ q : Nat, h q = none → X (pc + 3) lo (.ref q :: st) (va_up h q (some (.inr (ci, fs)))) (k + 1) (n + N)) : X pc lo st h k n := by
  obtain ⟨p, e, s, m, args, below, meth, c, rfl, hx, hb, hml, htb, hown, hts, hK, hlk, hr, hnm, hbs, hE, hZ⟩ := C
  intro H locs ls hR hS hL
  obtain ⟨Cn, T, ty, hc, hin, hty, hfs, hcl, hinst, hini⟩ := hf
  have hKn := hK.1.1 ci _ hc
  refine W.newcK hx hb hown (hts _ hcl) (hts _ hinst) (hts _ hini) rfl hd h1 h2 hKn.2.1 rfl fun H1 kC hkC e1 z1 o1 => ?_
  exact kk H.size hR.fresh H1 locs ls (hR.up hR.1 (by omega) ⟨_, hc, (u_born ty hts hin hKn hkC e1 hty).to hfs⟩ (fun q _ hq => o1 q hq) (fun q g1 g2 => by omega)) ⟨Nat.le_trans hS.1 (by omega), fun x g1 g2 => (o1 x (Nat.lt_of_lt_of_le g1 hS.1)).trans (hS.2.1 x g1 g2), hS.2.2⟩ hL
theorem qx_iald (C : qw_C l G b own nm cc nL ret tb R post X) {a N : Nat} {f : Nat → Int32} {i : Int32} (hd : decode cc pc = .ok (.iaload, 1)) (ha : h a = some (.inl (G.2 0, N, .inl f))) (hin : vp_in i N) (kk : X (pc + 1) lo (.int (f i.toNatClampNeg) :: st) h k n) : X pc lo (.int i :: .ref a :: st) h k n := by
  obtain ⟨p, e, s, m, args, below, meth, c, rfl, hx, hb, hml, htb, hown, hts, hK, hlk, hr, hnm, hbs, hE, hZ⟩ := C
  intro H locs ls hR hS hL
  exact va_iald (D := G.1) (cl := qu_Cl) hx hb hK.1 (hR.one ha) 0 0 rfl rfl hin hd (kk H locs ls hR hS hL)
theorem qx_zald (C : qw_C l G b own nm cc nL ret tb R post X) {a N : Nat} {f : Nat → Int32} {i : Int32} (hd : decode cc pc = .ok (.baload, 1)) (ha : h a = some (.inl (G.2 1, N, .inl f))) (hin : vp_in i N) (kk : X (pc + 1) lo (.int (f i.toNatClampNeg) :: st) h k n) : X pc lo (.int i :: .ref a :: st) h k n := by
  obtain ⟨p, e, s, m, args, below, meth, c, rfl, hx, hb, hml, htb, hown, hts, hK, hlk, hr, hnm, hbs, hE, hZ⟩ := C
  intro H locs ls hR hS hL
  exact va_zald (D := G.1) (cl := qu_Cl) hx hb hK.1 (hR.one ha) 0 1 rfl rfl hin hd (kk H locs ls hR hS hL)
theorem qx_lald (C : qw_C l G b own nm cc nL ret tb R post X) {a N : Nat} {f : Nat → Int64} {i : Int32} (hd : decode cc pc = .ok (.laload, 1)) (ha : h a = some (.inl (G.2 2, N, .inr (.inl f)))) (hin : vp_in i N) (kk : X (pc + 1) lo (.long (f i.toNatClampNeg) :: st) h k n) : X pc lo (.int i :: .ref a :: st) h k n := by
  obtain ⟨p, e, s, m, args, below, meth, c, rfl, hx, hb, hml, htb, hown, hts, hK, hlk, hr, hnm, hbs, hE, hZ⟩ := C
  intro H locs ls hR hS hL
  exact va_lald (D := G.1) (cl := qu_Cl) hx hb hK.1 (hR.one ha) 0 2 rfl rfl hin hd (kk H locs ls hR hS hL)
theorem qx_iast (C : qw_C l G b own nm cc nL ret tb R post X) {a N : Nat} {f : Nat → Int32} {i : Int32} {x : Int32} (hd : decode cc pc = .ok (.iastore, 1)) (ha : h a = some (.inl (G.2 0, N, .inl f))) (hin : vp_in i N) (kk : X (pc + 1) lo st (va_up h a (some (.inl (G.2 0, N, .inl (upd f i.toNatClampNeg x))))) k n) : X pc lo (.int x :: .int i :: .ref a :: st) h k n := by
  obtain ⟨p, e, s, m, args, below, meth, c, rfl, hx, hb, hml, htb, hown, hts, hK, hlk, hr, hnm, hbs, hE, hZ⟩ := C
  intro H locs ls hR hS hL
  obtain ⟨hba, hca⟩ := hR.2.1 a _ ha
  refine W.iast hx hb hca ((hK.1.2 0 _ rfl).1 N (fun j => .int (f j))) (fun q => by cases q) (by show ¬ (i < 0 ∨ (arrV _ _ _).slots.size ≤ _); rw [arrV_size]; exact hin) rfl rfl hd fun H1 e z oq => ?_
  refine kk H1 _ ls (hR.up hba (Nat.le_of_eq z.symm) ?_ (fun q hq _ => oq q hq) (fun q _ h9 => by omega)) (hS.put z oq hba) hL
  show H1[a]? = some (vp_cell _ _)
  rw [e]
  rw [vp_cell_i, vp_cell_i, arrV_store]
  congr 2
  funext q
  by_cases hq : q = i.toNatClampNeg
  · subst hq
    simp [updV, upd, vp_nar, vp_updL]
    try rfl
  · simp [updV, upd, vp_updL, hq]
theorem qx_zast (C : qw_C l G b own nm cc nL ret tb R post X) {a N : Nat} {f : Nat → Int32} {i : Int32} {x : Int32} (hd : decode cc pc = .ok (.bastore, 1)) (ha : h a = some (.inl (G.2 1, N, .inl f))) (hin : vp_in i N) (kk : X (pc + 1) lo st (va_up h a (some (.inl (G.2 1, N, .inl (upd f i.toNatClampNeg (vp_nar .boolean x)))))) k n) : X pc lo (.int x :: .int i :: .ref a :: st) h k n := by
  obtain ⟨p, e, s, m, args, below, meth, c, rfl, hx, hb, hml, htb, hown, hts, hK, hlk, hr, hnm, hbs, hE, hZ⟩ := C
  intro H locs ls hR hS hL
  obtain ⟨hba, hca⟩ := hR.2.1 a _ ha
  refine W.zast hx hb hca ((hK.1.2 1 _ rfl).1 N (fun j => .int (f j))) (fun q => by cases q) (by show ¬ (i < 0 ∨ (arrV _ _ _).slots.size ≤ _); rw [arrV_size]; exact hin) rfl rfl hd fun H1 e z oq => ?_
  refine kk H1 _ ls (hR.up hba (Nat.le_of_eq z.symm) ?_ (fun q hq _ => oq q hq) (fun q _ h9 => by omega)) (hS.put z oq hba) hL
  show H1[a]? = some (vp_cell _ _)
  rw [e]
  rw [vp_cell_i, vp_cell_i, arrV_store]
  congr 2
  funext q
  by_cases hq : q = i.toNatClampNeg
  · subst hq
    simp [updV, upd, vp_nar, vp_updL]
    try rfl
  · simp [updV, upd, vp_updL, hq]
theorem qx_last (C : qw_C l G b own nm cc nL ret tb R post X) {a N : Nat} {f : Nat → Int64} {i : Int32} {x : Int64} (hd : decode cc pc = .ok (.lastore, 1)) (ha : h a = some (.inl (G.2 2, N, .inr (.inl f)))) (hin : vp_in i N) (kk : X (pc + 1) lo st (va_up h a (some (.inl (G.2 2, N, .inr (.inl (vp_updL f i.toNatClampNeg x)))))) k n) : X pc lo (.long x :: .int i :: .ref a :: st) h k n := by
  obtain ⟨p, e, s, m, args, below, meth, c, rfl, hx, hb, hml, htb, hown, hts, hK, hlk, hr, hnm, hbs, hE, hZ⟩ := C
  intro H locs ls hR hS hL
  obtain ⟨hba, hca⟩ := hR.2.1 a _ ha
  refine W.last hx hb hca ((hK.1.2 2 _ rfl).1 N (fun j => .long (f j))) (fun q => by cases q) (by show ¬ (i < 0 ∨ (arrV _ _ _).slots.size ≤ _); rw [arrV_size]; exact hin) rfl rfl hd fun H1 e z oq => ?_
  refine kk H1 _ ls (hR.up hba (Nat.le_of_eq z.symm) ?_ (fun q hq _ => oq q hq) (fun q _ h9 => by omega)) (hS.put z oq hba) hL
  show H1[a]? = some (vp_cell _ _)
  rw [e]
  rw [vp_cell_l, vp_cell_l, arrV_store]
  congr 2
  funext q
  by_cases hq : q = i.toNatClampNeg
  · subst hq
    simp [updV, upd, vp_nar, vp_updL]
    try rfl
  · simp [updV, upd, vp_updL, hq]
theorem qx_alen (C : qw_C l G b own nm cc nL ret tb R post X) {a t N : Nat} {x : vp_A} {ty : FieldType} (hd : decode cc pc = .ok (.arraylength, 1)) (ha : h a = some (.inl (G.2 t, x))) (ht : (qu_Ty G.2)[t]? = some (G.2 t, ty)) (hx1 : x.1 = N) (kk : X (pc + 1) lo (.int (nI N) :: st) h k n) : X pc lo (.ref a :: st) h k n := by
  obtain ⟨p, e, s, m, args, below, meth, c, rfl, hx, hb, hml, htb, hown, hts, hK, hlk, hr, hnm, hbs, hE, hZ⟩ := C
  intro H locs ls hR hS hL
  subst hx1
  exact va_alen (D := G.1) (cl := qu_Cl) hx hb hK.1 (hR.one ha) 0 t rfl ht rfl hd (kk H locs ls hR hS hL)
theorem qx_aald (C : qw_C l G b own nm cc nL ret tb R post X) {a t N y : Nat} {f : Nat → Option Nat} {E : String} {i : Int32} (hd : decode cc pc = .ok (.aaload, 1)) (ha : h a = some (.inl (G.2 t, N, .inr (.inr (.inr (.inr f)))))) (ht : (qu_Ty G.2)[t]? = some (G.2 t, .object E)) (hin : vp_in i N) (hv : f i.toNatClampNeg = some y) (kk : X (pc + 1) lo (.ref y :: st) h k n) : X pc lo (.int i :: .ref a :: st) h k n := by
  obtain ⟨p, e, s, m, args, below, meth, c, rfl, hx, hb, hml, htb, hown, hts, hK, hlk, hr, hnm, hbs, hE, hZ⟩ := C
  intro H locs ls hR hS hL
  have h9 := kk H locs ls hR hS hL
  refine va_aldq (D := G.1) (cl := qu_Cl) hx hb hK.1 (hR.one ha) 0 t rfl ht hin hd ?_
  rw [hv]
  exact h9
theorem qx_aaldN (C : qw_C l G b own nm cc nL ret tb R post X) {a t N : Nat} {f : Nat → Option Nat} {E : String} {i : Int32} (hd : decode cc pc = .ok (.aaload, 1)) (ha : h a = some (.inl (G.2 t, N, .inr (.inr (.inr (.inr f)))))) (ht : (qu_Ty G.2)[t]? = some (G.2 t, .object E)) (hin : vp_in i N) (hv : f i.toNatClampNeg = none) (kk : X (pc + 1) lo (.null :: st) h k n) : X pc lo (.int i :: .ref a :: st) h k n := by
  obtain ⟨p, e, s, m, args, below, meth, c, rfl, hx, hb, hml, htb, hown, hts, hK, hlk, hr, hnm, hbs, hE, hZ⟩ := C
  intro H locs ls hR hS hL
  have h9 := kk H locs ls hR hS hL
  refine va_aldq (D := G.1) (cl := qu_Cl) hx hb hK.1 (hR.one ha) 0 t rfl ht hin hd ?_
  rw [hv]
  exact h9
theorem qx_aast (C : qw_C l G b own nm cc nL ret tb R post X) {a t N v ci : Nat} {f : Nat → Option Nat} {r : vw_C} {vs : List Value} {i : Int32} (hd : decode cc pc = .ok (.aastore, 1)) (ha : h a = some (.inl (G.2 t, N, .inr (.inr (.inr (.inr f)))))) (ht : (qu_Ty G.2)[t]? = some (G.2 t, .object r.1)) (hv : h v = some (.inr (ci, vs))) (hc : qu_Cl[ci]? = some r) (hin : vp_in i N) (kk : X (pc + 1) lo st (va_up h a (some (.inl (G.2 t, N, .inr (.inr (.inr (.inr (va_up f i.toNatClampNeg (some v))))))))) k n) : X pc lo (.ref v :: .int i :: .ref a :: st) h k n := by
  obtain ⟨p, e, s, m, args, below, meth, c, rfl, hx, hb, hml, htb, hown, hts, hK, hlk, hr, hnm, hbs, hE, hZ⟩ := C
  intro H locs ls hR hS hL
  have hlt : i.toNatClampNeg < N := Nat.not_le.mp fun q => hin (Or.inr q)
  have h0 : ¬ i < 0 := fun q => hin (Or.inl q)
  obtain ⟨hba, hca⟩ := hR.2.1 a _ ha
  obtain ⟨-, r', hr', cellV, g1, g2, g3, -⟩ := hR.2.1 v _ hv
  have hcls := (hK.1.1 ci r hc).2
  obtain ⟨kA, comp, k1, k2, k3, -⟩ := (hK.1.2 t _ ht).2
  have hcomp : comp = G.1.1 ci := Option.some.inj (k3.symm.trans hcls.1)
  subst hcomp
  obtain ⟨kC, hkC, -⟩ := hcls.2
  refine W.aast hx hb hca (fun q h => by cases h) (fun h => by cases h) k1 k2 rfl hkC ⟨h0, by show _ < (arrV _ _ _).slots.size; rw [arrV_size]; exact hlt⟩ g1 (fun q h => by rw [g3] at h; cases h) (by rw [g2]; exact hkC) (by rw [g2]; exact va_assign hcls) rfl rfl hd fun H1 e z oq => ?_
  refine kk H1 _ ls (hR.up hba (Nat.le_of_eq z.symm) ?_ (fun q hq _ => oq q hq) (fun q _ h9 => by omega)) (hS.put z oq hba) hL
  show H1[a]? = some (vp_cell _ _)
  rw [e]
  rw [vp_cell_q, vp_cell_q, arrV_store]
  congr 2
  funext q
  by_cases hq : q = i.toNatClampNeg
  · subst hq
    simp [updV, va_up, va_rf]
  · simp [updV, va_up, hq]
theorem qx_newa (C : qw_C l G b own nm cc nL ret tb R post X) {t N : Nat} {atype : ArrayType} {ty : FieldType} {a0 : vp_A} {i : Int32} (hd : decode cc pc = .ok (.newarray atype, 2)) (hty : newarray.typeOf atype = ty) (ht : (qu_Ty G.2)[t]? = some (G.2 t, ty)) (hw : Cond.arrayClass ty ∈ qu_W) (ha0 : ∀ cA : ClassId, vp_cell cA a0 = arrV cA N (fun _ => defaultValue ty)) (hi : ¬ i < 0) (hN : i.toNatClampNeg = N) (hby : N * componentBytes ty ≤ 536870912) (h1 : k + 1 ≤ R.cells) (h2 : n + N ≤ R.slots) (kk : ∀ q : Nat, h q = none → X (pc + 2) lo (.ref q :: st) (va_up h q (some (.inl (G.2 t, a0)))) (k + 1) (n + N)) : X pc lo (.int i :: st) h k n := by
  obtain ⟨p, e, s, m, args, below, meth, c, rfl, hx, hb, hml, htb, hown, hts, hK, hlk, hr, hnm, hbs, hE, hZ⟩ := C
  intro H locs ls hR hS hL
  subst hty
  refine va_newaK hx hb (hts _ hw) rfl hd rfl hi hN hby h1 h2 rfl fun H1 cA e1 z1 o1 hAr hNm => ?_
  have hcA : cA = G.2 t := by
    have h9 := (hK.1.2 t _ ht).2
    have h8 : s.vm.findClass ("[" ++ (newarray.typeOf atype).toString) = some (G.2 t) := by
      revert h9
      cases atype <;> exact fun h9 => h9
    exact Option.some.inj (hNm.symm.trans h8)
  subst hcA
  exact kk H.size hR.fresh H1 locs ls (hR.up hR.1 (by omega) (show H1[H.size]? = some (vp_cell _ _) by rw [ha0]; exact e1) (fun q _ hq => o1 q hq) (fun q g1 g2 => by omega)) ⟨Nat.le_trans hS.1 (by omega), fun x g1 g2 => (o1 x (Nat.lt_of_lt_of_le g1 hS.1)).trans (hS.2.1 x g1 g2), hS.2.2⟩ hL
theorem qx_newq (C : qw_C l G b own nm cc nL ret tb R post X) {t N index : Nat} {E : String} {i : Int32} (hd : decode cc pc = .ok (.anewarray index, 3)) (ht : (qu_Ty G.2)[t]? = some (G.2 t, .object E)) (hw : Cond.classLink own index E ∈ qu_W) (ho : E ∈ qu_Ao) (hi : ¬ i < 0) (hN : i.toNatClampNeg = N) (hby : N * 4 ≤ 536870912) (h1 : k + 1 ≤ R.cells) (h2 : n + N ≤ R.slots) (kk : ∀ q : Nat, h q = none → X (pc + 3) lo (.ref q :: st) (va_up h q (some (.inl (G.2 t, N, .inr (.inr (.inr (.inr (fun _ => none)))))))) (k + 1) (n + N)) : X pc lo (.int i :: st) h k n := by
  obtain ⟨p, e, s, m, args, below, meth, c, rfl, hx, hb, hml, htb, hown, hts, hK, hlk, hr, hnm, hbs, hE, hZ⟩ := C
  intro H locs ls hR hS hL
  subst hN
  refine W.anew hx hb hown (hts _ hw) (va_AO.use (hK.2.2 E ho)) rfl hd rfl hi hby h1 h2 fun cA kA comp f1 f2 f3 f4 => ?_
  obtain ⟨kA2, comp2, k1, k2, k3, k4⟩ := (hK.1.2 t _ ht).2
  have hcA : cA = G.2 t := Option.some.inj (f1.symm.trans k4)
  subst hcA
  generalize hH1 : H.push ({ cls := G.2 t, slots := Array.replicate i.toNatClampNeg .null, vm := .none } : Cell) = H1
  have z1 : H1.size = H.size + 1 := by rw [← hH1, Array.size_push]
  have e1 : H1[H.size]? = some (arrV (G.2 t) i.toNatClampNeg (fun _ => .null)) := by rw [← hH1, Array.getElem?_push_size, ← arrV_new]
  have o1 : ∀ q : Nat, q < H.size → H1[q]? = H[q]? := fun q hq => by rw [← hH1, Array.getElem?_push, if_neg (Nat.ne_of_lt hq)]
  exact kk H.size hR.fresh H1 locs ls (hR.up hR.1 (by omega) (show H1[H.size]? = some (vp_cell _ _) by rw [vp_cell_q]; exact e1) (fun q _ hq => o1 q hq) (fun q g1 g2 => by omega)) ⟨Nat.le_trans hS.1 (by omega), fun x g1 g2 => (o1 x (Nat.lt_of_lt_of_le g1 hS.1)).trans (hS.2.1 x g1 g2), hS.2.2⟩ hL
theorem qw_mono {p : Program} {e : Env} {s : State} {m : MethodId} {args : Array Value} {below : List Frame} {meth : Method} {c : Code} {H : Heap} {locs : List Loc} {cells slots : Nat} {Q Q' : State → Prop} {g : JFrame} (hq : ∀ t, Q t → Q' t) (kk : W p l e R s m args below meth c H locs cells slots Q g) : W p l e R s m args below meth c H locs cells slots Q' g := fun T hT X => by
  obtain ⟨t, a1, b1⟩ := kk T hT X
  exact ⟨t, a1, hq t b1⟩
theorem qx_fin {s : State} {args : Array Value} {below : List Frame} {H : Heap} {locs : List Loc} {mc ms : Nat} {o0 : Outcome} (hbs : b ≤ s.heap.size) (hR : qh_R G b h H) (hS : va_S (fun q => b ≤ q) s.heap H locs) (hp : post o0 h) : ∀ t : State, MQ below (fun _ _ o t => o = o0 ∧ t.heap = H) args s mc ms (fun q => b ≤ q) t → qx_Q G b post below s mc ms t := by
  rintro t ⟨o, h1, h2, ⟨rfl, h4⟩, L, ⟨-, h5, h6⟩, h7⟩
  refine ⟨o, h, L, h1, h2, hp, by rw [h4]; exact hR, h5, ⟨by rw [h4]; exact hS.1, fun q hq => ?_⟩, h6, h7⟩
  rw [h4]
  exact hS.2.1 q (Nat.lt_of_lt_of_le hq hbs) (Nat.not_le.mpr hq)
theorem qx_iret (C : qw_C l G b own nm cc nL (some .int) tb R post X) {v : Int32} (hd : decode cc pc = .ok (.ireturn, 1)) (h1 : k ≤ R.cells) (h2 : n ≤ R.slots) (hp : post (.returned (some (.int v))) h) : X pc lo [.int v] h k n := by
  obtain ⟨p, e, s, m, args, below, meth, c, rfl, hx, hb, hml, htb, hown, hts, hK, hlk, hr, hnm, hbs, hE, hZ⟩ := C
  intro H locs ls hR hS hL
  refine W.widen h1 h2 (qw_mono (qx_fin (args := args) hbs hR hS hp) ?_)
  exact W.iret hx hb hr (fun t ht _ => ⟨rfl, ht⟩) hS.2.2 hd
theorem qx_zret (C : qw_C l G b own nm cc nL (some .boolean) tb R post X) {v : Int32} (hd : decode cc pc = .ok (.ireturn, 1)) (hv : narrow .boolean (.int v) = .int v) (h1 : k ≤ R.cells) (h2 : n ≤ R.slots) (hp : post (.returned (some (.int v))) h) : X pc lo [.int v] h k n := by
  obtain ⟨p, e, s, m, args, below, meth, c, rfl, hx, hb, hml, htb, hown, hts, hK, hlk, hr, hnm, hbs, hE, hZ⟩ := C
  intro H locs ls hR hS hL
  refine W.widen h1 h2 (qw_mono (qx_fin (args := args) hbs hR hS hp) ?_)
  exact W.zret hx hb hr hv (fun t ht _ => ⟨rfl, ht⟩) hS.2.2 hd
theorem qx_vret (C : qw_C l G b own nm cc nL none tb R post X) (hd : decode cc pc = .ok (.return_, 1)) (h1 : k ≤ R.cells) (h2 : n ≤ R.slots) (hp : post (.returned none) h) : X pc lo [] h k n := by
  obtain ⟨p, e, s, m, args, below, meth, c, rfl, hx, hb, hml, htb, hown, hts, hK, hlk, hr, hnm, hbs, hE, hZ⟩ := C
  intro H locs ls hR hS hL
  refine W.widen h1 h2 (qw_mono (qx_fin (args := args) hbs hR hS hp) ?_)
  exact W.vret hx hb hr (fun t ht _ => ⟨rfl, ht⟩) hS.2.2 hd
theorem qx_aret {E : String} (C : qw_C l G b own nm cc nL (some (.object E)) tb R post X) {v : Value} (hd : decode cc pc = .ok (.areturn, 1)) (hv : v = .null ∨ ∃ a, v = .ref a) (h1 : k ≤ R.cells) (h2 : n ≤ R.slots) (hp : post (.returned (some v)) h) : X pc lo [v] h k n := by
  obtain ⟨p, e, s, m, args, below, meth, c, rfl, hx, hb, hml, htb, hown, hts, hK, hlk, hr, hnm, hbs, hE, hZ⟩ := C
  intro H locs ls hR hS hL
  refine W.widen h1 h2 (qw_mono (qx_fin (args := args) hbs hR hS hp) ?_)
  exact W.aret hx hb hr (Or.inl ⟨_, rfl⟩) hv (fun t ht _ => ⟨rfl, ht⟩) hS.2.2 hd
theorem qx_objI (C : qw_C l G b own nm cc nL ret tb R post X) {a index : Nat} (hd : decode cc pc = .ok (.invokespecial index, 3)) (hw1 : Cond.methodLink own index Lib.objectInit ∈ qu_W) (hw2 : Cond.instanceMethod Lib.objectInit ∈ qu_W) (hw3 : Cond.code Lib.objectInit ⟨#[0xb1]⟩ 1 none ∈ qu_W) (hll : lo.length = nL) (h1 : 1 ≤ R.frames) (h2 : (st.map fun v => v.category).sum + 12 ≤ R.locals) (kk : X (pc + 3) lo st h k n) : X pc lo (.ref a :: st) h k n := by
  obtain ⟨p, e, s, m, args, below, meth, c, rfl, hx, hb, hml, htb, hown, hts, hK, hlk, hr, hnm, hbs, hE, hZ⟩ := C
  intro H locs ls hR hS hL
  refine W.objInit hx hb hown (hts _ hw1) (hts _ hw2) (hts _ hw3) rfl (by rw [hml]; exact hL.1.trans hll) rfl hd h1 (by show 2 * 0 + _ + 12 ≤ _; omega) ?_
  exact kk H locs ls hR hS hL
end QXR
