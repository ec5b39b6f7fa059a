/-! methods with handlers -/
theorem qx_ofW {hh : List (Nat × Nat × Nat × Nat)} {l : Launch} {y : MethodName} {ws' : List Cond} {rm : Room} {G : qh_G} {b : Nat} {av : List Value} {h : qh_H} {post : Outcome → qh_H → Prop} {cc : ByteArray} {nL : Nat} {ret : Option FieldType} {lo : List (Option Value)}
    (hy : plainName y.cls = true) (hw : ∀ w ∈ qu_W, w ∈ Cond.codeWith y cc nL ret hh :: ws') (hav : av.all (fun v => v.category == 1) = true) (hn : av.length ≤ nL) (hlo : lo = av.map some ++ List.replicate (nL - av.length) none)
    (body : ∀ X : qw_T, qw_C l G b y.cls y.name cc nL ret hh rm post X → X 0 lo [] h 0 0) : qx_M l y (Cond.codeWith y cc nL ret hh :: ws') rm G b av h post := by
  refine MetFree.of_bodyS (code := cc) (maxLocals := nL) (ret := ret) hy ?_ ?_
  · intro args s m hp hnm
    obtain ⟨m9, meth, c, hn9, h1, h2, h3, h4, -, h5, h6, -⟩ := Cond.codeWith_spec (atoms_spec (ws := Cond.codeWith y cc nL ret hh :: ws') hp _ List.mem_cons_self)
    cases hnm.symm.trans hn9
    exact ⟨meth, c, h1, h2, h3, h4, h5, h6⟩
  · intro p e s m args below meth c s₁ B hml hP _
    obtain ⟨rfl, hR, hK, hE0⟩ := hP
    have hts := atoms_spec (ws := Cond.codeWith y cc nL ret hh :: ws') B.pre
    have hown : s.vm.findClass y.cls = some m.cls := findClass_of_methodNamed B.named
    have hnm : meth.name = y.name := (name_of_methodNamed B.named B.method).1
    have htb : c.exceptionTable.toList.map (fun h => (h.startPc, h.endPc, h.handlerPc, h.catchType)) = hh := by
      obtain ⟨m9, meth9, c9, hn9, hm9, hc9, -, -, h9, -, -, -⟩ := Cond.codeWith_spec (hts _ List.mem_cons_self)
      cases B.named.symm.trans hn9
      cases B.method.symm.trans hm9
      cases (Stand.of_body B).code.symm.trans hc9
      exact h9
    have hh0 : s₁.heap = s.heap := by rw [B.state]; rfl
    have hsl : lg_sl av = av.map Slot.val := qx_sl av hav
    have hlen : (lg_sl av).length = av.length := by rw [hsl, List.length_map]
    have hl := lv_entry av (n := nL) (by rw [hlen]; exact hn)
    have hE := lg_entry_eq m av nL
    have hL : qh_L ((lg_sl av ++ List.replicate (nL - (lg_sl av).length) Slot.unset).toArray) lo := by
      refine ⟨?_, hl.2.1, fun i v hi => ?_⟩
      · rw [hl.1, hlo, List.length_append, List.length_map, List.length_replicate]; omega
      · rw [hlo] at hi
        by_cases hia : i < av.length
        · rw [List.getElem?_append_left (by rw [List.length_map]; exact hia), List.getElem?_map] at hi
          have hav2 : av[i]? = some v := by
            cases hx : av[i]? with
            | none => rw [hx] at hi; cases hi
            | some z => rw [hx] at hi; cases hi; rfl
          refine ⟨?_, ?_⟩
          · rw [List.getElem?_toArray, hsl, List.getElem?_append_left (by rw [List.length_map]; exact hia), List.getElem?_map, hav2]; rfl
          · have := List.all_eq_true.mp hav v (List.mem_of_getElem? hav2)
            simpa using this
        · rw [List.getElem?_append_right (by rw [List.length_map]; omega), List.getElem?_replicate] at hi
          split at hi <;> cases hi
    have hX := body _ ⟨p, e, s, m, av.toArray, below, meth, c, rfl, B.exec, B.bytes, hml, htb, hown, fun w hw' => hts w (hw w hw'), hK, B.notSynchronized, B.returns, hnm, hR.1, hE0, hR.2.2⟩
    have hW := hX s.heap [] _ hR va_S.rf hL
    rw [← hE] at hW
    obtain ⟨t, a1, o, h', L, b1, b2, b3, b4, b5, b6, b7, b8⟩ := hW s₁ hh0 (Stand.of_body B)
    exact ⟨t, o, a1, b1, b2, h', L, b3, b4, b5, b6, b7, b8⟩

section QXW
variable {l : Launch} {G : qh_G} {b : Nat}
theorem qx_callW {hh : List (Nat × Nat × Nat × Nat)} {y : MethodName} {cY : ByteArray} {nY : Nat} {rY : Option FieldType} {rm : Room} {av : List Value} {h : qh_H} {pq : Outcome → qh_H → Prop}
    {p : Program} {e : Env} {R : Room} {s : State} {m : MethodId} {args : Array Value} {below : List Frame} {meth : Method} {c : Code} {T : State} {locs : List Loc} {k n : Nat}
    (X : Stand p l e R s m args below meth c T locs k n) (hM : qx_M l y (Cond.codeWith y cY nY rY hh :: qu_W) rm G b av h pq)
    (hts : ∀ w ∈ qu_W, w.before args s = true) (hy : Cond.codeWith y cY nY rY hh ∈ qu_W ∧ Cond.initialized y.cls ∈ qu_W) (hK : qw_K G s) (hE : qw_E s) (hZ : qh_Z b s.heap) (hB : ∀ q : Nat, q < b → T.heap[q]? = s.heap[q]?) (hR : qh_R G b h T.heap)
    {mk : MethodId} (hn : s.methodNamed? y = some mk)
    {g : JFrame} (hg : g.method = m) (hsize : g.locals.size = c.maxLocals) {ig : Instr} {len : Nat} (hdg : decode c.code g.pc = .ok (ig, len))
    (hW : 2 * g.monitorRoom + (g.stack.map fun v => v.category).sum ≤ 8) (hfr : rm.frames + 1 ≤ R.frames ∧ 8 + (nY + 11) + rm.locals ≤ R.locals ∧ k + rm.cells ≤ R.cells ∧ n + rm.slots ≤ R.slots) :
    ∃ (o : Outcome) (h' : qh_H) (T' : State) (L : List Loc), Stand p l e R s m args below meth c T' (locs ++ L) (k + rm.cells) (n + rm.slots) ∧ pq o h' ∧ qh_R G b h' T'.heap ∧ (T.heap.size ≤ T'.heap.size ∧ ∀ q : Nat, q < b → T'.heap[q]? = T.heap[q]?) ∧ (∀ q ∈ L, b ≤ q.base) ∧
      (∀ v, o = .returned v → Steps p.tables e below (doInvoke e (T.setTop g) [] mk av.toArray).1 (T'.setTop { g with pc := g.pc + len, stack := v.toList ++ g.stack })) ∧
      (∀ x, o = .threw x → Steps p.tables e below (doInvoke e (T.setTop g) [] mk av.toArray).1 ((T'.setTop g).pushFrame (.throwing x))) := by
  have hG : ∀ w ∈ (Cond.codeWith y cY nY rY hh :: qu_W), w ∈ qu_W ∧ ((w.onTables && w.keeps) = true ∨ ∃ ty, w = .arrayClass ty) := by
    intro w hw
    rcases List.mem_cons.mp hw with rfl | hw
    · exact ⟨hy.1, qu_good _ hy.1⟩
    · exact ⟨hw, qu_good _ hw⟩
  have hws := pay_in hts hG
  have hnT : T.methodNamed? y = some mk := X.named hn
  obtain ⟨m9, methY, cdY, hn9, hmY, hcY, -, hlY, -⟩ := Cond.codeWith_spec (hws _ List.mem_cons_self args T X.warmed)
  cases hnT.symm.trans hn9
  obtain ⟨kY, hkY, -⟩ := className_of_methodNamed hnT
  have hinitY : kY.init = .initialized := Cond.initialized_spec (findClass_of_methodNamed hnT) hkY (hws _ (List.mem_cons_of_mem _ hy.2) args T X.warmed)
  have h0 : At T g.method c below := by rw [hg]; exact X.here
  have hr1 := hfr.2.1
  have happ : (headSpec (Cond.codeWith y cY nY rY hh :: qu_W) rm).appliesLoose y e.platform (T.calling g mk av.toArray) = true :=
    Spec.appliesLoose_calling (g := g) h0 hdg hnT hkY hinitY
      (X.room_calling (g := g) (R' := rm) hsize hmY hcY hfr.1 (by rw [hlY]; omega) hfr.2.2.1 hfr.2.2.2) (atoms_intro fun w hw => hws w hw _ _ X.warmed)
  obtain ⟨mid, hmid⟩ := h0.above
  have hfr' : (T.setTop g).frames = (.java g :: mid) ++ below := by rw [State.frames_setTop' g h0.top, hmid]; rfl
  obtain ⟨o, s₂, hsteps, -, hend, hq⟩ := Steps.callFree hM p X.admits X.cas X.clock (acts := []) hfr' happ ⟨rfl, hR, qw_K.same (s := T) (show T.vm = T.vm from rfl) (hK.warm X.warmed), hE.go (T := T.calling g mk av.toArray) X.warmed hZ hB⟩ trivial
  rw [State.frames_setTop' g h0.top, X.tail] at hend
  obtain ⟨h', L, hp, hR2, hW2, hz, hsame, hL⟩ := hq
  cases o with
  | returned v =>
    obtain ⟨T', X', -, -, ht⟩ := X.outOf hg hdg hend hW2 hsame
    have hh : T'.heap = s₂.heap := by rw [ht]; rfl
    exact ⟨_, h', T', L, X', hp, by rw [hh]; exact hR2, by rw [hh]; exact hz, hL, fun v' q => by cases q; rw [← ht]; exact hsteps, fun x q => by cases q⟩
  | threw x =>
    obtain ⟨T', X', -, -, ht⟩ := X.outOfThrown hg hend hW2 hsame
    have hh : T'.heap = s₂.heap := by rw [ht]; rfl
    exact ⟨_, h', T', L, X', hp, by rw [hh]; exact hR2, by rw [hh]; exact hz, hL, fun v' q => (by cases q), fun x' q => by cases q; rw [← ht]; exact hsteps⟩
variable {own nm : String} {cc : ByteArray} {nL : Nat} {ret : Option FieldType} {tb : List (Nat × Nat × Nat × Nat)} {R : Room} {post : Outcome → qh_H → Prop} {X : qw_T} {pc : Nat} {lo : List (Option Value)} {st : List Value} {h : qh_H} {k n : Nat}
theorem qx_runW {hh : List (Nat × Nat × Nat × Nat)} (C : qw_C l G b own nm cc nL ret tb R post X) {y : MethodName} {cY : ByteArray} {nY : Nat} {rY : Option FieldType} {rm : Room} {av rest : List Value} {pq : Outcome → qh_H → Prop}
    (hsite : qx_Site l G own cc pc y av rest h) (hM : qx_M l y (Cond.codeWith y cY nY rY hh :: qu_W) rm G b av h pq) (hy : Cond.codeWith y cY nY rY hh ∈ qu_W ∧ Cond.initialized y.cls ∈ qu_W)
    (hst : st = av.reverse ++ rest) (hll : lo.length = nL) (hro : (rest.map fun v => v.category).sum ≤ 8) (hfr : rm.frames + 1 ≤ R.frames ∧ 8 + (nY + 11) + rm.locals ≤ R.locals ∧ k + rm.cells ≤ R.cells ∧ n + rm.slots ≤ R.slots)
    (hno : ∀ (x : Addr) (h' : qh_H), pq (.threw x) h' → False) (kk : ∀ (v : Option Value) (h' : qh_H), pq (.returned v) h' → X (pc + 3) lo (v.toList ++ rest) h' (k + rm.cells) (n + rm.slots)) : X pc lo st h k n := by
  obtain ⟨p, e, s, m, args, below, meth, c, rfl, hx, hb, hml, htb, hown, hts, hK, hlk, hr, hnm, hbs, hE, hZ⟩ := C
  intro H locs ls hR hS hL T hT XS
  subst hT
  obtain ⟨vm₁, mk, ig, X₁, hnamed, hd, hgo⟩ := hsite XS hx hb hown hts hK (fun a x hax => (hR.2.1 a x hax).2) ls
  obtain ⟨o, h', T', L, X', hp, hR', hz, hLb, hret, hthr⟩ := qx_callW (g := F0 m pc ls rest) X₁ hM hts hy hK hE hZ (fun q hq => hS.2.1 q (Nat.lt_of_lt_of_le hq hbs) (Nat.not_le.mpr hq)) hR hnamed rfl (by show ls.size = _; rw [hml]; exact hL.1.trans hll) (by rw [hb]; exact hd) (lv_room hro) hfr
  have hS' : va_S (fun q => b ≤ q) s.heap T'.heap (locs ++ L) := ⟨Nat.le_trans hS.1 hz.1, fun q g1 g2 => (hz.2 q (Nat.not_le.mp g2)).trans (hS.2.1 q g1 g2), fun q hq => by
    rcases List.mem_append.mp hq with h9 | h9
    · exact hS.2.2 q h9
    · exact hLb q h9⟩
  cases o with
  | returned v =>
    obtain ⟨t, a1, b1⟩ := kk v h' hp T'.heap (locs ++ L) ls hR' hS' hL T' rfl X'
    subst hst
    exact ⟨t, hgo _ ((hret v rfl).trans a1), b1⟩
  | threw x => exact (hno x h' hp).elim
theorem qx_siteSW {hh : List (Nat × Nat × Nat × Nat)} {y : MethodName} {cY : ByteArray} {nY : Nat} {rY : Option FieldType} {index : Nat} {As rest : List Value} (hd : decode cc pc = .ok (.invokestatic index, 3)) (hw1 : Cond.methodLink own index y ∈ qu_W) (hw2 : Cond.static y ∈ qu_W) (hw3 : Cond.initialized y.cls ∈ qu_W) (hw4 : Cond.codeWith y cY nY rY hh ∈ qu_W) (hy : y.cls ≠ "java/lang/invoke/MethodHandle" ∧ y.cls ≠ "java/lang/invoke/VarHandle") (hn : (parseMethodDescriptor y.desc).map (fun d => d.parameters.length) = some As.length) : qx_Site l G own cc pc y As rest h := by
  intro p e R s m args below meth c T locs k n X hx hb hown hts hK hat ls
  obtain ⟨mk, methM, cM, hnamed, hmethM, -, -, -, -, -, -, hsigM⟩ := Cond.codeWith_spec (hts _ hw4)
  have hstatic : methM.isStatic = true := Cond.static_spec hnamed hmethM (hts _ hw2)
  obtain ⟨kP, hkP, -⟩ := className_of_methodNamed hnamed
  have hinitP : kP.init = .initialized := Cond.initialized_spec (findClass_of_methodNamed hnamed) hkP (hts _ hw3)
  have hlen : As.length = methM.sig.parameters.length := by rw [hsigM] at hn; exact (Option.some.inj hn).symm
  obtain ⟨vm₁, X₁, hstep₁⟩ := X.invokestatic hx hown (hts _ hw1) hnamed hmethM hstatic hkP hinitP hy (g := F0 m pc ls (As.reverse ++ rest)) rfl (argsL := As) (rest := rest) hlen rfl (by rw [hb]; exact hd)
  exact ⟨vm₁, mk, .invokestatic index, X₁, hnamed, hd, fun target q => hstep₁ _ fun acts => by rw [doInvoke_state]; exact q⟩
theorem qt_lA : Cond.classLink "QuorumLogLaw" 13 "java/lang/IllegalArgumentException" ∈ qu_W := qu_in 569 (by decide +kernel) (by decide +kernel)
theorem qt_lS : Cond.classLink "QuorumLogLaw" 15 "java/lang/IllegalStateException" ∈ qu_W := qu_in 570 (by decide +kernel) (by decide +kernel)
theorem qt_lU : Cond.classLink "QuorumLogLaw" 17 "java/lang/UnsupportedOperationException" ∈ qu_W := qu_in 571 (by decide +kernel) (by decide +kernel)
/-- a callee that may throw, the three handlers here -/
theorem qx_runh {e0 p1 p2 p3 : Nat} (C : qw_C l G b "QuorumLogLaw" nm cc nL ret [(0, e0, p1, 13), (0, e0, p2, 15), (0, e0, p3, 17)] R post X) {y : MethodName} {cY : ByteArray} {nY : Nat} {rY : Option FieldType} {rm : Room} {av rest : List Value} {pq : Outcome → qh_H → Prop}
    (hsite : qx_Site l G "QuorumLogLaw" cc pc y av rest h) (hM : qx_M l y (Cond.code y cY nY rY :: qu_W) rm G b av h pq) (hy : Cond.code y cY nY rY ∈ qu_W ∧ Cond.initialized y.cls ∈ qu_W)
    (hst : st = av.reverse ++ rest) (hll : lo.length = nL) (hro : (rest.map fun v => v.category).sum ≤ 8) (hfr : rm.frames + 1 ≤ R.frames ∧ 8 + (nY + 11) + rm.locals ≤ R.locals ∧ k + rm.cells ≤ R.cells ∧ n + rm.slots ≤ R.slots) (hpc : pc < e0)
    (hth : ∀ (x : Addr) (h' : qh_H), pq (.threw x) h' → ∃ q : Nat, (q = 1 ∨ q = 2 ∨ q = 3) ∧ h' x = some (.inr (8 + q, [])) ∧ X (if q = 1 then p1 else if q = 2 then p2 else p3) lo [.ref x] h' (k + rm.cells) (n + rm.slots))
    (kk : ∀ (v : Option Value) (h' : qh_H), pq (.returned v) h' → X (pc + 3) lo (v.toList ++ rest) h' (k + rm.cells) (n + rm.slots)) : X pc lo st h k n := by
  obtain ⟨p, e, s, m, args, below, meth, c, rfl, hx, hb, hml, htb, hown, hts, hK, hlk, hr, hnm, hbs, hE, hZ⟩ := C
  intro H locs ls hR hS hL T hT XS
  subst hT
  obtain ⟨vm₁, mk, ig, X₁, hnamed, hd, hgo⟩ := hsite XS hx hb hown hts hK (fun a x hax => (hR.2.1 a x hax).2) ls
  obtain ⟨o, h', T', L, X', hp, hR', hz, hLb, hret, hthr⟩ := qx_call (g := F0 m pc ls rest) X₁ hM hts hy hK hE hZ (fun q hq => hS.2.1 q (Nat.lt_of_lt_of_le hq hbs) (Nat.not_le.mpr hq)) hR hnamed rfl (by show ls.size = _; rw [hml]; exact hL.1.trans hll) (by rw [hb]; exact hd) (lv_room hro) hfr
  have hS' : va_S (fun q => b ≤ q) s.heap T'.heap (locs ++ L) := ⟨Nat.le_trans hS.1 hz.1, fun q g1 g2 => (hz.2 q (Nat.not_le.mp g2)).trans (hS.2.1 q g1 g2), fun q hq => by
    rcases List.mem_append.mp hq with h9 | h9
    · exact hS.2.2 q h9
    · exact hLb q h9⟩
  cases o with
  | returned v =>
    obtain ⟨t, a1, b1⟩ := kk v h' hp T'.heap (locs ++ L) ls hR' hS' hL T' rfl X'
    subst hst
    exact ⟨t, hgo _ ((hret v rfl).trans a1), b1⟩
  | threw x =>
    obtain ⟨q, hq, hcx, hkk⟩ := hth x h' hp
    obtain ⟨-, r, hr0, cell, c1, c2, c3, -⟩ := hR'.2.1 x _ hcx
    -- the table's three rows
    obtain ⟨e1, t1, htl⟩ : ∃ e1 t1, c.exceptionTable.toList = e1 :: t1 := by
      cases h9 : c.exceptionTable.toList with
      | nil => rw [h9] at htb; cases htb
      | cons e1 t1 => exact ⟨e1, t1, rfl⟩
    rw [htl, List.map_cons] at htb
    obtain ⟨f1, htb2⟩ := List.cons.inj htb
    obtain ⟨e2, t2, rfl⟩ : ∃ e2 t2, t1 = e2 :: t2 := by
      cases t1 with
      | nil => cases htb2
      | cons e2 t2 => exact ⟨e2, t2, rfl⟩
    rw [List.map_cons] at htb2
    obtain ⟨f2, htb3⟩ := List.cons.inj htb2
    obtain ⟨e3, t3, rfl⟩ : ∃ e3 t3, t2 = e3 :: t3 := by
      cases t2 with
      | nil => cases htb3
      | cons e3 t3 => exact ⟨e3, t3, rfl⟩
    rw [List.map_cons] at htb3
    obtain ⟨f3, htb4⟩ := List.cons.inj htb3
    have ht3 : t3 = [] := List.map_eq_nil_iff.mp htb4
    subst ht3
    simp only [Prod.mk.injEq] at f1 f2 f3
    have cov : ∀ z : ExceptionTableEntry, z.startPc = 0 → z.endPc = e0 → covers z (F0 m pc ls rest).pc = true := fun z z1 z2 => by
      show covers z pc = true
      unfold covers
      rw [z1, z2]
      simp
      omega
    have hpl : e.platform.magicAccessors = ({} : Platform).magicAccessors := by rw [XS.admits.platform]
    obtain ⟨cA, fA, lA⟩ := Cond.classLink_spec hown (hts _ qt_lA) e.platform hpl
    obtain ⟨cS, fS, lS⟩ := Cond.classLink_spec hown (hts _ qt_lS) e.platform hpl
    obtain ⟨cU, fU, lU⟩ := Cond.classLink_spec hown (hts _ qt_lU) e.platform hpl
    have fin : ∀ (pre : List ExceptionTableEntry) (z : ExceptionTableEntry) (rs : List ExceptionTableEntry), c.exceptionTable.toList = pre ++ z :: rs → (∀ w ∈ pre, RowPassed e.platform s m.cls pc cell.cls w) → covers z pc = true → RowCatches e.platform s m.cls cell.cls z → z.handlerPc = (if q = 1 then p1 else if q = 2 then p2 else p3) → (∃ kx, s.vm.classes[cell.cls]? = some kx) → ∃ t, Steps p.tables e below (T.setTop (F0 m pc ls st)) t ∧ qx_Q G b post below s R.cells R.slots t := by
      intro pre z rs a1 a2 a3 a4 a5 a6
      obtain ⟨vm', XV, stV⟩ := X'.thenCaughtThrough x (g := F0 m pc ls rest) rfl (hthr x rfl) c1 (by rw [c3]; rfl) a6 pre z rs a1 a2 a3 a4
      obtain ⟨t, d1, d2⟩ := hkk T'.heap (locs ++ L) ls hR' hS' hL (T'.setVm vm') rfl XV
      subst hst
      refine ⟨t, hgo _ (stV.trans ?_), d2⟩
      have : ({ method := (F0 m pc ls rest).method, pc := z.handlerPc, locals := (F0 m pc ls rest).locals, stack := [Value.ref x], locked := (F0 m pc ls rest).locked, entered := (F0 m pc ls rest).entered, monitorRoom := (F0 m pc ls rest).monitorRoom } : JFrame) = F0 m (if q = 1 then p1 else if q = 2 then p2 else p3) ls [.ref x] := by rw [a5]
      rw [this]
      exact d1
    have hcl := (hK.1.1 (8 + q) r hr0).2
    rw [c2] at fin
    obtain ⟨kC, hkC, -⟩ := hcl.2
    have hself := va_assign hcl
    rcases hq with rfl | rfl | rfl
    · have hrn : r.1 = "java/lang/IllegalArgumentException" := by cases hr0; rfl
      rw [hrn] at hcl
      have eA : cA = G.1.1 (8 + 1) := Option.some.inj (fA.symm.trans hcl.1)
      exact fin [] e1 [e2, e3] htl (fun w hw => absurd hw List.not_mem_nil) (cov e1 f1.1 f1.2.1) (Or.inr ⟨by rw [f1.2.2.2]; decide, cA, by rw [f1.2.2.2]; exact lA, by rw [eA]; exact hself⟩) f1.2.2.1 ⟨kC, hkC⟩
    · have hrn : r.1 = "java/lang/IllegalStateException" := by cases hr0; rfl
      rw [hrn] at hcl
      have eS : cS = G.1.1 (8 + 2) := Option.some.inj (fS.symm.trans hcl.1)
      obtain ⟨d1, d2, g1, g2, g3⟩ := hE.2.2 ("java/lang/IllegalStateException", "java/lang/IllegalArgumentException") (by decide)
      have h1 : d1 = G.1.1 (8 + 2) := Option.some.inj (g1.symm.trans hcl.1)
      have h2 : d2 = cA := Option.some.inj (g2.symm.trans fA)
      rw [h1, h2] at g3
      refine fin [e1] e2 [e3] htl (fun w hw => ?_) (cov e2 f2.1 f2.2.1) (Or.inr ⟨by rw [f2.2.2.2]; decide, cS, by rw [f2.2.2.2]; exact lS, by rw [eS]; exact hself⟩) f2.2.2.1 ⟨kC, hkC⟩
      rw [List.mem_singleton.mp hw]
      exact Or.inr ⟨by rw [f1.2.2.2]; decide, cA, by rw [f1.2.2.2]; exact lA, g3⟩
    · have hrn : r.1 = "java/lang/UnsupportedOperationException" := by cases hr0; rfl
      rw [hrn] at hcl
      have eU : cU = G.1.1 (8 + 3) := Option.some.inj (fU.symm.trans hcl.1)
      obtain ⟨d1, d2, g1, g2, g3⟩ := hE.2.2 ("java/lang/UnsupportedOperationException", "java/lang/IllegalArgumentException") (by decide)
      obtain ⟨d3, d4, g4, g5, g6⟩ := hE.2.2 ("java/lang/UnsupportedOperationException", "java/lang/IllegalStateException") (by decide)
      rw [Option.some.inj (g1.symm.trans hcl.1), Option.some.inj (g2.symm.trans fA)] at g3
      rw [Option.some.inj (g4.symm.trans hcl.1), Option.some.inj (g5.symm.trans fS)] at g6
      refine fin [e1, e2] e3 [] htl (fun w hw => ?_) (cov e3 f3.1 f3.2.1) (Or.inr ⟨by rw [f3.2.2.2]; decide, cU, by rw [f3.2.2.2]; exact lU, by rw [eU]; exact hself⟩) f3.2.2.1 ⟨kC, hkC⟩
      rcases List.mem_cons.mp hw with rfl | hw
      · exact Or.inr ⟨by rw [f1.2.2.2]; decide, cA, by rw [f1.2.2.2]; exact lA, g3⟩
      · rw [List.mem_singleton.mp hw]
        exact Or.inr ⟨by rw [f2.2.2.2]; decide, cS, by rw [f2.2.2.2]; exact lS, g6⟩
end QXW
