section QXC
variable {l : Launch} {G : qh_G} {b : Nat}
theorem qx_call {y : MethodName} {cY : ByteArray} {nY : Nat} {rY : Option FieldType} {rm : Room} {av : List Value} {h : qh_H} {pq : Outcome → qh_H → Prop}
    {p : Program} {e : Env} {R : Room} {s : State} {m : MethodId} {args : Array Value} {below : List Frame} {meth : Method} {c : Code} {T : State} {locs : List Loc} {k n : Nat}
    (X : Stand p l e R s m args below meth c T locs k n) (hM : qx_M l y (Cond.code y cY nY rY :: qu_W) rm G b av h pq)
    (hts : ∀ w ∈ qu_W, w.before args s = true) (hy : Cond.code y cY nY rY ∈ qu_W ∧ Cond.initialized y.cls ∈ qu_W) (hK : qw_K G s) (hE : qw_E s) (hZ : qh_Z b s.heap) (hB : ∀ q : Nat, q < b → T.heap[q]? = s.heap[q]?) (hR : qh_R G b h T.heap)
    {mk : MethodId} (hn : s.methodNamed? y = some mk)
    {g : JFrame} (hg : g.method = m) (hsize : g.locals.size = c.maxLocals) {ig : Instr} {len : Nat} (hdg : decode c.code g.pc = .ok (ig, len))
    (hW : 2 * g.monitorRoom + (g.stack.map fun v => v.category).sum ≤ 8) (hfr : rm.frames + 1 ≤ R.frames ∧ 8 + (nY + 11) + rm.locals ≤ R.locals ∧ k + rm.cells ≤ R.cells ∧ n + rm.slots ≤ R.slots) :
    ∃ (o : Outcome) (h' : qh_H) (T' : State) (L : List Loc), Stand p l e R s m args below meth c T' (locs ++ L) (k + rm.cells) (n + rm.slots) ∧ pq o h' ∧ qh_R G b h' T'.heap ∧ (T.heap.size ≤ T'.heap.size ∧ ∀ q : Nat, q < b → T'.heap[q]? = T.heap[q]?) ∧ (∀ q ∈ L, b ≤ q.base) ∧
      (∀ v, o = .returned v → Steps p.tables e below (doInvoke e (T.setTop g) [] mk av.toArray).1 (T'.setTop { g with pc := g.pc + len, stack := v.toList ++ g.stack })) ∧
      (∀ x, o = .threw x → Steps p.tables e below (doInvoke e (T.setTop g) [] mk av.toArray).1 ((T'.setTop g).pushFrame (.throwing x))) := by
  have hG : ∀ w ∈ (Cond.code y cY nY rY :: qu_W), w ∈ qu_W ∧ ((w.onTables && w.keeps) = true ∨ ∃ ty, w = .arrayClass ty) := by
    intro w hw
    rcases List.mem_cons.mp hw with rfl | hw
    · exact ⟨hy.1, qu_good _ hy.1⟩
    · exact ⟨hw, qu_good _ hw⟩
  have hws := pay_in hts hG
  have hnT : T.methodNamed? y = some mk := X.named hn
  obtain ⟨methY, cdY, hmY, hcY, -, hlY, -⟩ := Cond.code_spec hnT (hws _ List.mem_cons_self args T X.warmed)
  obtain ⟨kY, hkY, -⟩ := className_of_methodNamed hnT
  have hinitY : kY.init = .initialized := Cond.initialized_spec (findClass_of_methodNamed hnT) hkY (hws _ (List.mem_cons_of_mem _ hy.2) args T X.warmed)
  have h0 : At T g.method c below := by rw [hg]; exact X.here
  have hr1 := hfr.2.1
  have happ : (headSpec (Cond.code y cY nY rY :: qu_W) rm).appliesLoose y e.platform (T.calling g mk av.toArray) = true :=
    Spec.appliesLoose_calling (g := g) h0 hdg hnT hkY hinitY
      (X.room_calling (g := g) (R' := rm) hsize hmY hcY hfr.1 (by rw [hlY]; omega) hfr.2.2.1 hfr.2.2.2) (atoms_intro fun w hw => hws w hw _ _ X.warmed)
  obtain ⟨mid, hmid⟩ := h0.above
  have hfr' : (T.setTop g).frames = (.java g :: mid) ++ below := by rw [State.frames_setTop' g h0.top, hmid]; rfl
  obtain ⟨o, s₂, hsteps, -, hend, hq⟩ := Steps.callFree hM p X.admits X.cas X.clock (acts := []) hfr' happ ⟨rfl, hR, qw_K.same (s := T) (show T.vm = T.vm from rfl) (hK.warm X.warmed), hE.go (T := T.calling g mk av.toArray) X.warmed hZ hB⟩ trivial
  rw [State.frames_setTop' g h0.top, X.tail] at hend
  obtain ⟨h', L, hp, hR2, hW2, hz, hsame, hL⟩ := hq
  cases o with
  | returned v =>
    obtain ⟨T', X', -, -, ht⟩ := X.outOf hg hdg hend hW2 hsame
    have hh : T'.heap = s₂.heap := by rw [ht]; rfl
    exact ⟨_, h', T', L, X', hp, by rw [hh]; exact hR2, by rw [hh]; exact hz, hL, fun v' q => by cases q; rw [← ht]; exact hsteps, fun x q => by cases q⟩
  | threw x =>
    obtain ⟨T', X', -, -, ht⟩ := X.outOfThrown hg hend hW2 hsame
    have hh : T'.heap = s₂.heap := by rw [ht]; rfl
    exact ⟨_, h', T', L, X', hp, by rw [hh]; exact hR2, by rw [hh]; exact hz, hL, fun v' q => (by cases q), fun x' q => by cases q; rw [← ht]; exact hsteps⟩
/-- where a call stands: the step into the callee -/
def qx_Site (l : Launch) (G : qh_G) (own : String) (cc : ByteArray) (pc : Nat) (y : MethodName) (av rest : List Value) (h : qh_H) : Prop :=
  ∀ {p : Program} {e : Env} {R : Room} {s : State} {m : MethodId} {args : Array Value} {below : List Frame} {meth : Method} {c : Code} {T : State} {locs : List Loc} {k n : Nat}, Stand p l e R s m args below meth c T locs k n → p.tables.exec = Jvm.exec → c.code = cc → s.vm.findClass own = some m.cls → (∀ w ∈ qu_W, w.before args s = true) → qw_K G s → (∀ (a : Nat) (x : va_E), h a = some x → va_at G.1 qu_Cl (a, x) T.heap) → ∀ ls : Array Slot,
    ∃ (vm₁ : Vm) (mk : MethodId) (ig : Instr), Stand p l e R s m args below meth c (T.setVm vm₁) locs k n ∧ s.methodNamed? y = some mk ∧ decode cc pc = .ok (ig, 3) ∧ ∀ target, Steps p.tables e below (doInvoke e ((T.setVm vm₁).setTop (F0 m pc ls rest)) [] mk av.toArray).1 target → Steps p.tables e below (T.setTop (F0 m pc ls (av.reverse ++ rest))) target
variable {own nm : String} {cc : ByteArray} {nL : Nat} {ret : Option FieldType} {tb : List (Nat × Nat × Nat × Nat)} {R : Room} {post : Outcome → qh_H → Prop} {X : qw_T} {pc : Nat} {lo : List (Option Value)} {st : List Value} {h : qh_H} {k n : Nat}
theorem qx_run (C : qw_C l G b own nm cc nL ret tb R post X) {y : MethodName} {cY : ByteArray} {nY : Nat} {rY : Option FieldType} {rm : Room} {av rest : List Value} {pq : Outcome → qh_H → Prop}
    (hsite : qx_Site l G own cc pc y av rest h) (hM : qx_M l y (Cond.code y cY nY rY :: qu_W) rm G b av h pq) (hy : Cond.code y cY nY rY ∈ qu_W ∧ Cond.initialized y.cls ∈ qu_W)
    (hst : st = av.reverse ++ rest) (hll : lo.length = nL) (hro : (rest.map fun v => v.category).sum ≤ 8) (hfr : rm.frames + 1 ≤ R.frames ∧ 8 + (nY + 11) + rm.locals ≤ R.locals ∧ k + rm.cells ≤ R.cells ∧ n + rm.slots ≤ R.slots)
    (hno : ∀ (x : Addr) (h' : qh_H), pq (.threw x) h' → False) (kk : ∀ (v : Option Value) (h' : qh_H), pq (.returned v) h' → X (pc + 3) lo (v.toList ++ rest) h' (k + rm.cells) (n + rm.slots)) : X pc lo st h k n := by
  obtain ⟨p, e, s, m, args, below, meth, c, rfl, hx, hb, hml, htb, hown, hts, hK, hlk, hr, hnm, hbs, hE, hZ⟩ := C
  intro H locs ls hR hS hL T hT XS
  subst hT
  obtain ⟨vm₁, mk, ig, X₁, hnamed, hd, hgo⟩ := hsite XS hx hb hown hts hK (fun a x hax => (hR.2.1 a x hax).2) ls
  obtain ⟨o, h', T', L, X', hp, hR', hz, hLb, hret, hthr⟩ := qx_call (g := F0 m pc ls rest) X₁ hM hts hy hK hE hZ (fun q hq => hS.2.1 q (Nat.lt_of_lt_of_le hq hbs) (Nat.not_le.mpr hq)) hR hnamed rfl (by show ls.size = _; rw [hml]; exact hL.1.trans hll) (by rw [hb]; exact hd) (lv_room hro) hfr
  have hS' : va_S (fun q => b ≤ q) s.heap T'.heap (locs ++ L) := ⟨Nat.le_trans hS.1 hz.1, fun q g1 g2 => (hz.2 q (Nat.not_le.mp g2)).trans (hS.2.1 q g1 g2), fun q hq => by
    rcases List.mem_append.mp hq with h9 | h9
    · exact hS.2.2 q h9
    · exact hLb q h9⟩
  cases o with
  | returned v =>
    obtain ⟨t, a1, b1⟩ := kk v h' hp T'.heap (locs ++ L) ls hR' hS' hL T' rfl X'
    subst hst
    exact ⟨t, hgo _ ((hret v rfl).trans a1), b1⟩
  | threw x => exact (hno x h' hp).elim
/-- an int comes back -/
theorem qx_runi (C : qw_C l G b own nm cc nL ret tb R post X) {y : MethodName} {cY : ByteArray} {nY : Nat} {rY : Option FieldType} {rm : Room} {av rest : List Value} {pq : Int32 → qh_H → Prop}
    (hsite : qx_Site l G own cc pc y av rest h) (hM : qx_M l y (Cond.code y cY nY rY :: qu_W) rm G b av h (fun o h' => ∃ r : Int32, o = .returned (some (.int r)) ∧ pq r h')) (hy : Cond.code y cY nY rY ∈ qu_W ∧ Cond.initialized y.cls ∈ qu_W)
    (hst : st = av.reverse ++ rest) (hll : lo.length = nL) (hro : (rest.map fun v => v.category).sum ≤ 8) (hfr : rm.frames + 1 ≤ R.frames ∧ 8 + (nY + 11) + rm.locals ≤ R.locals ∧ k + rm.cells ≤ R.cells ∧ n + rm.slots ≤ R.slots)
    (kk : ∀ (r : Int32) (h' : qh_H), pq r h' → X (pc + 3) lo (.int r :: rest) h' (k + rm.cells) (n + rm.slots)) : X pc lo st h k n :=
  qx_run C hsite hM hy hst hll hro hfr (fun x h' q => by obtain ⟨r, q1, -⟩ := q; cases q1) (fun v h' q => by obtain ⟨r, q1, q2⟩ := q; cases q1; exact kk r h' q2)
/-- nothing comes back -/
theorem qx_runv (C : qw_C l G b own nm cc nL ret tb R post X) {y : MethodName} {cY : ByteArray} {nY : Nat} {rY : Option FieldType} {rm : Room} {av rest : List Value} {pq : qh_H → Prop}
    (hsite : qx_Site l G own cc pc y av rest h) (hM : qx_M l y (Cond.code y cY nY rY :: qu_W) rm G b av h (fun o h' => o = .returned none ∧ pq h')) (hy : Cond.code y cY nY rY ∈ qu_W ∧ Cond.initialized y.cls ∈ qu_W)
    (hst : st = av.reverse ++ rest) (hll : lo.length = nL) (hro : (rest.map fun v => v.category).sum ≤ 8) (hfr : rm.frames + 1 ≤ R.frames ∧ 8 + (nY + 11) + rm.locals ≤ R.locals ∧ k + rm.cells ≤ R.cells ∧ n + rm.slots ≤ R.slots)
    (kk : ∀ h' : qh_H, pq h' → X (pc + 3) lo rest h' (k + rm.cells) (n + rm.slots)) : X pc lo st h k n :=
  qx_run C hsite hM hy hst hll hro hfr (fun x h' q => by cases q.1) (fun v h' q => by obtain ⟨q1, q2⟩ := q; cases q1; exact kk h' q2)
/-- an object or null comes back -/
theorem qx_runq (C : qw_C l G b own nm cc nL ret tb R post X) {y : MethodName} {cY : ByteArray} {nY : Nat} {rY : Option FieldType} {rm : Room} {av rest : List Value} {pq : Option Nat → qh_H → Prop}
    (hsite : qx_Site l G own cc pc y av rest h) (hM : qx_M l y (Cond.code y cY nY rY :: qu_W) rm G b av h (fun o h' => ∃ r : Option Nat, o = .returned (some (va_rf r)) ∧ pq r h')) (hy : Cond.code y cY nY rY ∈ qu_W ∧ Cond.initialized y.cls ∈ qu_W)
    (hst : st = av.reverse ++ rest) (hll : lo.length = nL) (hro : (rest.map fun v => v.category).sum ≤ 8) (hfr : rm.frames + 1 ≤ R.frames ∧ 8 + (nY + 11) + rm.locals ≤ R.locals ∧ k + rm.cells ≤ R.cells ∧ n + rm.slots ≤ R.slots)
    (kk : ∀ (r : Option Nat) (h' : qh_H), pq r h' → X (pc + 3) lo (va_rf r :: rest) h' (k + rm.cells) (n + rm.slots)) : X pc lo st h k n :=
  qx_run C hsite hM hy hst hll hro hfr (fun x h' q => by obtain ⟨r, q1, -⟩ := q; cases q1) (fun v h' q => by obtain ⟨r, q1, q2⟩ := q; cases q1; exact kk r h' q2)
/-- a callee that may throw, and no handler here: the throw goes on -/
theorem qx_runt (C : qw_C l G b own nm cc nL ret [] R post X) {y : MethodName} {cY : ByteArray} {nY : Nat} {rY : Option FieldType} {rm : Room} {av rest : List Value} {pq : Outcome → qh_H → Prop}
    (hsite : qx_Site l G own cc pc y av rest h) (hM : qx_M l y (Cond.code y cY nY rY :: qu_W) rm G b av h pq) (hy : Cond.code y cY nY rY ∈ qu_W ∧ Cond.initialized y.cls ∈ qu_W)
    (hst : st = av.reverse ++ rest) (hll : lo.length = nL) (hro : (rest.map fun v => v.category).sum ≤ 8) (hfr : rm.frames + 1 ≤ R.frames ∧ 8 + (nY + 11) + rm.locals ≤ R.locals ∧ k + rm.cells ≤ R.cells ∧ n + rm.slots ≤ R.slots)
    (hth : ∀ (x : Addr) (h' : qh_H), pq (.threw x) h' → post (.threw x) h') (kk : ∀ (v : Option Value) (h' : qh_H), pq (.returned v) h' → X (pc + 3) lo (v.toList ++ rest) h' (k + rm.cells) (n + rm.slots)) : X pc lo st h k n := by
  obtain ⟨p, e, s, m, args, below, meth, c, rfl, hx, hb, hml, htb, hown, hts, hK, hlk, hr, hnm, hbs, hE, hZ⟩ := C
  intro H locs ls hR hS hL T hT XS
  subst hT
  obtain ⟨vm₁, mk, ig, X₁, hnamed, hd, hgo⟩ := hsite XS hx hb hown hts hK (fun a x hax => (hR.2.1 a x hax).2) ls
  obtain ⟨o, h', T', L, X', hp, hR', hz, hLb, hret, hthr⟩ := qx_call (g := F0 m pc ls rest) X₁ hM hts hy hK hE hZ (fun q hq => hS.2.1 q (Nat.lt_of_lt_of_le hq hbs) (Nat.not_le.mpr hq)) hR hnamed rfl (by show ls.size = _; rw [hml]; exact hL.1.trans hll) (by rw [hb]; exact hd) (lv_room hro) hfr
  have hS' : va_S (fun q => b ≤ q) s.heap T'.heap (locs ++ L) := ⟨Nat.le_trans hS.1 hz.1, fun q g1 g2 => (hz.2 q (Nat.not_le.mp g2)).trans (hS.2.1 q g1 g2), fun q hq => by
    rcases List.mem_append.mp hq with h9 | h9
    · exact hS.2.2 q h9
    · exact hLb q h9⟩
  cases o with
  | returned v =>
    obtain ⟨t, a1, b1⟩ := kk v h' hp T'.heap (locs ++ L) ls hR' hS' hL T' rfl X'
    subst hst
    exact ⟨t, hgo _ ((hret v rfl).trans a1), b1⟩
  | threw x =>
    have X2 := stand_widen X' hfr.2.2.1 hfr.2.2.2
    have htb0 : ∀ z ∈ c.exceptionTable.toList, covers z (F0 m pc ls rest).pc = false := by
      intro z hz9
      have h9 := List.map_eq_nil_iff.mp htb
      rw [h9] at hz9
      cases hz9
    obtain ⟨l1, l2, l3, l4, l5⟩ := X2.leaveThrown x (g := F0 m pc ls rest) rfl rfl rfl htb0 hlk
    subst hst
    refine ⟨_, hgo _ ((hthr x rfl).trans l1), .threw x, h', locs ++ L, l2, l3, hth x h' hp, hR', l4, ⟨Nat.le_trans hS.1 hz.1, fun q hq => ?_⟩, l5, hS'.2.2⟩
    exact (hz.2 q hq).trans (hS.2.1 q (Nat.lt_of_lt_of_le hq hbs) (Nat.not_le.mpr hq))
/-! the sites: virtual, static, constructor; plain or of a nest mate -/
theorem qx_siteV {y : MethodName} {cY : ByteArray} {nY : Nat} {rY : Option FieldType} {E : String} {T0 : u_T} {N0 index ci b0 : Nat} {fs As rest : List Value} (hd : decode cc pc = .ok (.invokevirtual index, 3)) (hw1 : Cond.methodLink own index y ∈ qu_W) (hw2 : Cond.instanceMethod y ∈ qu_W) (hw3 : Cond.selects E y y ∈ qu_W) (hw4 : Cond.code y cY nY rY ∈ qu_W) (hy : y.cls ≠ "java/lang/invoke/MethodHandle" ∧ y.cls ≠ "java/lang/invoke/VarHandle") (hcl : qu_Cl[ci]? = some (E, T0, N0)) (hn : (parseMethodDescriptor y.desc).map (fun d => d.parameters.length) = some As.length) (hb0 : h b0 = some (.inr (ci, fs))) : qx_Site l G own cc pc y (.ref b0 :: As) rest h := by
  intro p e R s m args below meth c T locs k n X hx hb hown hts hK hat ls
  obtain ⟨mk, methM, hnamed, hmethM, hstM, habM⟩ := Cond.instanceMethod_spec (hts _ hw2)
  obtain ⟨methM', cM, hmethM', -, -, -, -, -, -, hsigM⟩ := Cond.code_spec hnamed (hts _ hw4)
  cases hmethM.symm.trans hmethM'
  obtain ⟨c2, r2, m2, q1, q2, q3, q4, kP, hkP, hkPi⟩ := Cond.selects_spec (hts _ hw3)
  obtain ⟨r, g0, cellB, g1, g2, g3, -⟩ := hat b0 _ hb0
  have hcls : s.vm.findClass E = some cellB.cls := by rw [g2]; exact (hK.1.1 ci _ hcl).2.1
  cases hcls.symm.trans q1
  cases (State.methodFound?_of_named hnamed hy).symm.trans q2
  cases hnamed.symm.trans q3
  have hselP : selectMethod e.platform s.vm cellB.cls mk = .method mk := by rw [Launch.admits_selectMethod X.admits]; exact q4
  have hlen : As.length = methM.sig.parameters.length := by rw [hsigM] at hn; exact (Option.some.inj hn).symm
  obtain ⟨vm₁, X₁, hstep₁⟩ := X.invokevirtual hx hown (hts _ hw1) hnamed hmethM hstM hkP hkPi hy (a := b0) (cell := cellB) g1 (fun z q => by rw [g3] at q; cases q) hselP hmethM habM hkP hkPi (g := F0 m pc ls ((Value.ref b0 :: As).reverse ++ rest)) rfl (argsL := As) (rest := rest) hlen (by simp) (by rw [hb]; exact hd)
  exact ⟨vm₁, mk, .invokevirtual index, X₁, hnamed, hd, fun target q => hstep₁ _ fun acts => by rw [doInvoke_state]; exact q⟩
theorem qx_siteVN {y : MethodName} {cY : ByteArray} {nY : Nat} {rY : Option FieldType} {E : String} {T0 : u_T} {N0 index ci b0 : Nat} {fs As rest : List Value} {host : String} (hd : decode cc pc = .ok (.invokevirtual index, 3)) (hw1 : Cond.methodLinkNest own index y host ∈ qu_Mn) (hw2 : Cond.instanceMethod y ∈ qu_W) (hw3 : Cond.selects E y y ∈ qu_W) (hw4 : Cond.code y cY nY rY ∈ qu_W) (hy : y.cls ≠ "java/lang/invoke/MethodHandle" ∧ y.cls ≠ "java/lang/invoke/VarHandle") (hcl : qu_Cl[ci]? = some (E, T0, N0)) (hn : (parseMethodDescriptor y.desc).map (fun d => d.parameters.length) = some As.length) (hb0 : h b0 = some (.inr (ci, fs))) : qx_Site l G own cc pc y (.ref b0 :: As) rest h := by
  intro p e R s m args below meth c T locs k n X hx hb hown hts hK hat ls
  obtain ⟨_, _, _, _, hl0, hl1⟩ := hK.2.1 _ hw1
  cases hl0
  obtain ⟨mk, methM, hnamed, hmethM, hstM, habM⟩ := Cond.instanceMethod_spec (hts _ hw2)
  obtain ⟨methM', cM, hmethM', -, -, -, -, -, -, hsigM⟩ := Cond.code_spec hnamed (hts _ hw4)
  cases hmethM.symm.trans hmethM'
  obtain ⟨c2, r2, m2, q1, q2, q3, q4, kP, hkP, hkPi⟩ := Cond.selects_spec (hts _ hw3)
  obtain ⟨r, g0, cellB, g1, g2, g3, -⟩ := hat b0 _ hb0
  have hcls : s.vm.findClass E = some cellB.cls := by rw [g2]; exact (hK.1.1 ci _ hcl).2.1
  cases hcls.symm.trans q1
  cases (State.methodFound?_of_named hnamed hy).symm.trans q2
  cases hnamed.symm.trans q3
  have hselP : selectMethod e.platform s.vm cellB.cls mk = .method mk := by rw [Launch.admits_selectMethod X.admits]; exact q4
  have hlen : As.length = methM.sig.parameters.length := by rw [hsigM] at hn; exact (Option.some.inj hn).symm
  obtain ⟨vm₁, X₁, hstep₁⟩ := X.invokevirtualNest hx hown (va_Nw.use (A := args) rfl hl1) hnamed hmethM hstM hkP hkPi hy (a := b0) (cell := cellB) g1 (fun z q => by rw [g3] at q; cases q) hselP hmethM habM hkP hkPi (g := F0 m pc ls ((Value.ref b0 :: As).reverse ++ rest)) rfl (argsL := As) (rest := rest) hlen (by simp) (by rw [hb]; exact hd)
  exact ⟨vm₁, mk, .invokevirtual index, X₁, hnamed, hd, fun target q => hstep₁ _ fun acts => by rw [doInvoke_state]; exact q⟩
theorem qx_siteS {y : MethodName} {cY : ByteArray} {nY : Nat} {rY : Option FieldType} {index : Nat} {As rest : List Value} (hd : decode cc pc = .ok (.invokestatic index, 3)) (hw1 : Cond.methodLink own index y ∈ qu_W) (hw2 : Cond.static y ∈ qu_W) (hw3 : Cond.initialized y.cls ∈ qu_W) (hw4 : Cond.code y cY nY rY ∈ qu_W) (hy : y.cls ≠ "java/lang/invoke/MethodHandle" ∧ y.cls ≠ "java/lang/invoke/VarHandle") (hn : (parseMethodDescriptor y.desc).map (fun d => d.parameters.length) = some As.length) : qx_Site l G own cc pc y As rest h := by
  intro p e R s m args below meth c T locs k n X hx hb hown hts hK hat ls
  obtain ⟨mk, hnamed⟩ := Cond.code_named (hts _ hw4)
  obtain ⟨methM, cM, hmethM, -, -, -, -, -, -, hsigM⟩ := Cond.code_spec hnamed (hts _ hw4)
  have hstatic : methM.isStatic = true := Cond.static_spec hnamed hmethM (hts _ hw2)
  obtain ⟨kP, hkP, -⟩ := className_of_methodNamed hnamed
  have hinitP : kP.init = .initialized := Cond.initialized_spec (findClass_of_methodNamed hnamed) hkP (hts _ hw3)
  have hlen : As.length = methM.sig.parameters.length := by rw [hsigM] at hn; exact (Option.some.inj hn).symm
  obtain ⟨vm₁, X₁, hstep₁⟩ := X.invokestatic hx hown (hts _ hw1) hnamed hmethM hstatic hkP hinitP hy (g := F0 m pc ls (As.reverse ++ rest)) rfl (argsL := As) (rest := rest) hlen rfl (by rw [hb]; exact hd)
  exact ⟨vm₁, mk, .invokestatic index, X₁, hnamed, hd, fun target q => hstep₁ _ fun acts => by rw [doInvoke_state]; exact q⟩
theorem qx_siteSN {y : MethodName} {cY : ByteArray} {nY : Nat} {rY : Option FieldType} {index : Nat} {As rest : List Value} {host : String} (hd : decode cc pc = .ok (.invokestatic index, 3)) (hw1 : Cond.methodLinkNest own index y host ∈ qu_Mn) (hw2 : Cond.static y ∈ qu_W) (hw3 : Cond.initialized y.cls ∈ qu_W) (hw4 : Cond.code y cY nY rY ∈ qu_W) (hy : y.cls ≠ "java/lang/invoke/MethodHandle" ∧ y.cls ≠ "java/lang/invoke/VarHandle") (hn : (parseMethodDescriptor y.desc).map (fun d => d.parameters.length) = some As.length) : qx_Site l G own cc pc y As rest h := by
  intro p e R s m args below meth c T locs k n X hx hb hown hts hK hat ls
  obtain ⟨_, _, _, _, hl0, hl1⟩ := hK.2.1 _ hw1
  cases hl0
  obtain ⟨mk, hnamed⟩ := Cond.code_named (hts _ hw4)
  obtain ⟨methM, cM, hmethM, -, -, -, -, -, -, hsigM⟩ := Cond.code_spec hnamed (hts _ hw4)
  have hstatic : methM.isStatic = true := Cond.static_spec hnamed hmethM (hts _ hw2)
  obtain ⟨kP, hkP, -⟩ := className_of_methodNamed hnamed
  have hinitP : kP.init = .initialized := Cond.initialized_spec (findClass_of_methodNamed hnamed) hkP (hts _ hw3)
  have hlen : As.length = methM.sig.parameters.length := by rw [hsigM] at hn; exact (Option.some.inj hn).symm
  obtain ⟨vm₁, X₁, hstep₁⟩ := X.invokestaticNest hx hown (va_Nw.use (A := args) rfl hl1) hnamed hmethM hstatic hkP hinitP hy (g := F0 m pc ls (As.reverse ++ rest)) rfl (argsL := As) (rest := rest) hlen rfl (by rw [hb]; exact hd)
  exact ⟨vm₁, mk, .invokestatic index, X₁, hnamed, hd, fun target q => hstep₁ _ fun acts => by rw [doInvoke_state]; exact q⟩
theorem qx_siteI {y : MethodName} {cY : ByteArray} {nY : Nat} {index b0 : Nat} {As rest : List Value} (hd : decode cc pc = .ok (.invokespecial index, 3)) (hy1 : y.name = "<init>") (hw1 : Cond.methodLink own index y ∈ qu_W) (hw2 : Cond.instanceMethod y ∈ qu_W) (hw4 : Cond.code y cY nY none ∈ qu_W) (hy : y.cls ≠ "java/lang/invoke/MethodHandle" ∧ y.cls ≠ "java/lang/invoke/VarHandle") (hn : (parseMethodDescriptor y.desc).map (fun d => d.parameters.length) = some As.length) : qx_Site l G own cc pc y (.ref b0 :: As) rest h := by
  intro p e R s m args below meth c T locs k n X hx hb hown hts hK hat ls
  have hpl : e.platform.magicAccessors = ({} : Platform).magicAccessors := by rw [X.admits.platform]
  obtain ⟨mk, methM, cM, kP, vm₁, hnamed, hmethM, hcodeM, -, hlocalsM, -, hkP, -, hW₁, hstep₁⟩ := Steps.initColdArgs (e := e) X.here hx X.warmed hpl hown hy1 hy (hts _ hw1) (hts _ hw2) (hts _ hw4) (f := F0 m pc ls ((Value.ref b0 :: As).reverse ++ rest)) rfl (a := b0) (argsL := As) (rest := rest) (fun sig q => by rw [q] at hn; exact (Option.some.inj hn).symm) (by simp) (by rw [hb]; exact hd)
  exact ⟨vm₁, mk, .invokespecial index, X.noted hW₁, hnamed, hd, fun target q => hstep₁ _ fun acts => by rw [doInvoke_state]; exact q⟩
theorem qx_siteIN {y : MethodName} {cY : ByteArray} {nY : Nat} {index b0 : Nat} {As rest : List Value} {host : String} (hd : decode cc pc = .ok (.invokespecial index, 3)) (hy1 : y.name = "<init>") (hw1 : Cond.methodLinkNest own index y host ∈ qu_Mn) (hw2 : Cond.instanceMethod y ∈ qu_W) (hw4 : Cond.code y cY nY none ∈ qu_W) (hy : y.cls ≠ "java/lang/invoke/MethodHandle" ∧ y.cls ≠ "java/lang/invoke/VarHandle") (hn : (parseMethodDescriptor y.desc).map (fun d => d.parameters.length) = some As.length) : qx_Site l G own cc pc y (.ref b0 :: As) rest h := by
  intro p e R s m args below meth c T locs k n X hx hb hown hts hK hat ls
  obtain ⟨_, _, _, _, hl0, hl1⟩ := hK.2.1 _ hw1
  cases hl0
  have hpl : e.platform.magicAccessors = ({} : Platform).magicAccessors := by rw [X.admits.platform]
  obtain ⟨mk, methM, cM, kP, vm₁, hnamed, hmethM, hcodeM, -, hlocalsM, -, hkP, -, hW₁, hstep₁⟩ := Steps.initColdArgsNest (e := e) X.here hx X.warmed hpl hown hy1 hy (va_Nw.use (A := args) rfl hl1) (hts _ hw2) (hts _ hw4) (f := F0 m pc ls ((Value.ref b0 :: As).reverse ++ rest)) rfl (a := b0) (argsL := As) (rest := rest) (fun sig q => by rw [q] at hn; exact (Option.some.inj hn).symm) (by simp) (by rw [hb]; exact hd)
  exact ⟨vm₁, mk, .invokespecial index, X.noted hW₁, hnamed, hd, fun target q => hstep₁ _ fun acts => by rw [doInvoke_state]; exact q⟩
end QXC
