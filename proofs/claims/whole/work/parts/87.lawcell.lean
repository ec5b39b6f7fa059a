/-! the script, and the call that reads its first int -/
def lz_sl (cc : ByteArray) (X : qw_T) (sc L : Nat) : Prop := ∀ (pc : Nat) (lo : List (Option Value)) (st : List Value) (h : qh_H) (k n : Nat), decode cc pc = .ok (.arraylength, 1) → X (pc + 1) lo (.int (iI L) :: st) h k n → X pc lo (.ref sc :: st) h k n
def lz_sd (cc : ByteArray) (X : qw_T) (sc L : Nat) (xs : Nat → Int32) : Prop := ∀ (pc : Nat) (lo : List (Option Value)) (st : List Value) (h : qh_H) (k n : Nat) (j : Nat), j < L → decode cc pc = .ok (.iaload, 1) → X (pc + 1) lo (.int (iI (xs j).toInt) :: st) h k n → X pc lo (.int (iI j) :: .ref sc :: st) h k n
theorem lz_slX {p : Program} {l : Launch} {e : Env} {R : Room} {s : State} {m : MethodId} {args : Array Value} {below : List Frame} {meth : Method} {c : Code} {Q : State → Prop} {G : qh_G} {b : Nat} {cc : ByteArray} {sc L : Nat} {xs : Nat → Int32} (hx : p.tables.exec = Jvm.exec) (hb : c.code = cc) (hX : va_X sc L xs s s.heap) (hsc : sc < b) (hbs : b ≤ s.heap.size) : lz_sl cc (qw_J p l e R s m args below meth c Q G b) sc L := by
  intro pc lo st h k n hd kk H locs ls hR hS hL
  refine va_slen hx hb hX (Nat.lt_of_lt_of_le hsc hbs) (Nat.not_le.mpr hsc) hS hd ?_
  have h9 := kk H locs ls hR hS hL
  rw [← iI_nat] at h9
  exact h9
theorem lz_sdX {p : Program} {l : Launch} {e : Env} {R : Room} {s : State} {m : MethodId} {args : Array Value} {below : List Frame} {meth : Method} {c : Code} {Q : State → Prop} {G : qh_G} {b : Nat} {cc : ByteArray} {sc L : Nat} {xs : Nat → Int32} (hx : p.tables.exec = Jvm.exec) (hb : c.code = cc) (hX : va_X sc L xs s s.heap) (hsc : sc < b) (hbs : b ≤ s.heap.size) (hL0 : L ≤ 2049) : lz_sd cc (qw_J p l e R s m args below meth c Q G b) sc L xs := by
  intro pc lo st h k n j hj hd kk H locs ls hR hS hL
  refine va_sld hx hb hX (Nat.lt_of_lt_of_le hsc hbs) (Nat.not_le.mpr hsc) hS (iI_in (by omega) (by omega) (by omega)) hd ?_
  have h9 := kk H locs ls hR hS hL
  rw [iI_of] at h9
  rw [iI_clamp (by omega) (by omega), Int.toNat_natCast]
  exact h9
def qx_Mx (l : Launch) (y : MethodName) (ws : List Cond) (rm : Room) (G : qh_G) (b sc L : Nat) (xs : Nat → Int32) (av : List Value) (h : qh_H) (post : Outcome → qh_H → Prop) : Prop :=
  MetFree l y (headSpec ws rm) (fun v U => v = av.toArray ∧ qh_R G b h U.heap ∧ qw_K G U ∧ qw_E U ∧ va_X sc L xs U U.heap) (fun _ _ _ _ _ => True)
    (fun _ st o t => ∃ (h' : qh_H) (L : List Loc), post o h' ∧ qh_R G b h' t.heap ∧ st.WarmedH t.vm ∧ (st.heap.size ≤ t.heap.size ∧ ∀ q : Nat, q < b → t.heap[q]? = st.heap[q]?) ∧ st.sameButNew ({ t with vm := st.vm } : State) L rm.cells rm.slots ∧ ∀ q ∈ L, b ≤ q.base)
theorem qx_ofx {l : Launch} {y : MethodName} {ws' : List Cond} {rm : Room} {G : qh_G} {b : Nat} {av : List Value} {h : qh_H} {post : Outcome → qh_H → Prop} {cc : ByteArray} {nL : Nat} {ret : Option FieldType} {lo : List (Option Value)} {sc L : Nat} {xs : Nat → Int32} (hsc : sc < b) (hL0 : L ≤ 2049)
    (hy : plainName y.cls = true) (hw : ∀ w ∈ qu_W, w ∈ Cond.code y cc nL ret :: ws') (hav : av.all (fun v => v.category == 1) = true) (hn : av.length ≤ nL) (hlo : lo = av.map some ++ List.replicate (nL - av.length) none)
    (body : ∀ X : qw_T, qw_C l G b y.cls y.name cc nL ret [] rm post X → lz_sl cc X sc L → lz_sd cc X sc L xs → X 0 lo [] h 0 0) : qx_Mx l y (Cond.code y cc nL ret :: ws') rm G b sc L xs av h post := by
  refine MetFree.of_bodyS (code := cc) (maxLocals := nL) (ret := ret) hy ?_ ?_
  · intro args s m hp hnm
    obtain ⟨meth, c, h1, h2, h3, h4, h5, h6, -, -⟩ := Cond.code_spec hnm (atoms_spec (ws := Cond.code y cc nL ret :: ws') hp _ List.mem_cons_self)
    exact ⟨meth, c, h1, h2, h3, h4, h5, h6⟩
  · intro p e s m args below meth c s₁ B hml hP _
    obtain ⟨rfl, hR, hK, hE0, hX0⟩ := hP
    have hts := atoms_spec (ws := Cond.code y cc nL ret :: ws') B.pre
    have hown : s.vm.findClass y.cls = some m.cls := findClass_of_methodNamed B.named
    have hnm : meth.name = y.name := (name_of_methodNamed B.named B.method).1
    have htb : c.exceptionTable.toList.map (fun h => (h.startPc, h.endPc, h.handlerPc, h.catchType)) = [] := by
      have h9 := B.noHandlers (hts _ List.mem_cons_self)
      rw [Array.isEmpty_iff] at h9
      rw [h9]; rfl
    have hh0 : s₁.heap = s.heap := by rw [B.state]; rfl
    have hsl : lg_sl av = av.map Slot.val := qx_sl av hav
    have hlen : (lg_sl av).length = av.length := by rw [hsl, List.length_map]
    have hl := lv_entry av (n := nL) (by rw [hlen]; exact hn)
    have hE := lg_entry_eq m av nL
    have hL : qh_L ((lg_sl av ++ List.replicate (nL - (lg_sl av).length) Slot.unset).toArray) lo := by
      refine ⟨?_, hl.2.1, fun i v hi => ?_⟩
      · rw [hl.1, hlo, List.length_append, List.length_map, List.length_replicate]; omega
      · rw [hlo] at hi
        by_cases hia : i < av.length
        · rw [List.getElem?_append_left (by rw [List.length_map]; exact hia), List.getElem?_map] at hi
          have hav2 : av[i]? = some v := by
            cases hx : av[i]? with
            | none => rw [hx] at hi; cases hi
            | some z => rw [hx] at hi; cases hi; rfl
          refine ⟨?_, ?_⟩
          · rw [List.getElem?_toArray, hsl, List.getElem?_append_left (by rw [List.length_map]; exact hia), List.getElem?_map, hav2]; rfl
          · have := List.all_eq_true.mp hav v (List.mem_of_getElem? hav2)
            simpa using this
        · rw [List.getElem?_append_right (by rw [List.length_map]; omega), List.getElem?_replicate] at hi
          split at hi <;> cases hi
    have hX := body _ ⟨p, e, s, m, av.toArray, below, meth, c, rfl, B.exec, B.bytes, hml, htb, hown, fun w hw' => hts w (hw w hw'), hK, B.notSynchronized, B.returns, hnm, hR.1, hE0, hR.2.2⟩ (lz_slX B.exec B.bytes hX0 hsc hR.1) (lz_sdX B.exec B.bytes hX0 hsc hR.1 hL0)
    have hW := hX s.heap [] _ hR va_S.rf hL
    rw [← hE] at hW
    obtain ⟨t, a1, o, h', L, b1, b2, b3, b4, b5, b6, b7, b8⟩ := hW s₁ hh0 (Stand.of_body B)
    exact ⟨t, o, a1, b1, b2, h', L, b3, b4, b5, b6, b7, b8⟩

theorem z_cell (l : Launch) (G : qh_G) (b : Nat) {sc L : Nat} {xs : Nat → Int32} (hsc : sc < b) (hL0 : L ≤ 2049) (h : qh_H) : qx_Mx l y_Z_cell (Cond.code y_Z_cell c_Z_cell 2 (some .int) :: qu_W) (qr 1 0 0) G b sc L xs [.ref sc, .int (iI (0 : Nat))] h (fun o h' => o = .returned (some (.int (if 0 < L then xs 0 else 0))) ∧ h' = h) := by
  refine qx_ofx (lo := [some (.ref sc), some (.int (iI (0 : Nat)))]) hsc hL0 (by decide) (fun w hw => List.mem_cons_of_mem _ hw) rfl (Nat.le_of_ble_eq_true rfl) rfl ?_
  intro X C hsl hsd
  refine qx_iload_n C d_Z_cell_0 rfl rfl ?_
  refine qx_aload_n C d_Z_cell_1 rfl rfl ?_
  refine hsl 2 _ _ _ _ _ d_Z_cell_2 ?_
  refine qx_icmp_ge C d_Z_cell_3 (tgt := 12) rfl (fun hc => ?_) (fun hc => ?_)
  · have hl := (iI_le (a := (L : Int)) (b := ((0 : Nat) : Int)) (by omega) (by omega)).mp hc
    refine qx_iconst C d_Z_cell_12 (v := 0) rfl ?_
    refine qx_iret C d_Z_cell_13 (Nat.zero_le _) (Nat.zero_le _) ⟨?_, rfl⟩
    rw [if_neg (by omega)]
  · have hl : ¬ (L : Int) ≤ ((0 : Nat) : Int) := fun q => hc ((iI_le (a := (L : Int)) (b := ((0 : Nat) : Int)) (by omega) (by omega)).mpr q)
    refine qx_aload_n C d_Z_cell_6 rfl rfl ?_
    refine qx_iload_n C d_Z_cell_7 rfl rfl ?_
    refine hsd 8 _ _ _ _ _ 0 (by omega) d_Z_cell_8 ?_
    refine qx_goto C d_Z_cell_9 (tgt := 13) rfl ?_
    refine qx_iret C d_Z_cell_13 (Nat.zero_le _) (Nat.zero_le _) ⟨?_, rfl⟩
    rw [if_pos (by omega), iI_of]
section LZC
variable {l : Launch} {G : qh_G} {b : Nat}
theorem qx_callx {sc L : Nat} {xs : Nat → Int32} {y : MethodName} {cY : ByteArray} {nY : Nat} {rY : Option FieldType} {rm : Room} {av : List Value} {h : qh_H} {pq : Outcome → qh_H → Prop}
    {p : Program} {e : Env} {R : Room} {s : State} {m : MethodId} {args : Array Value} {below : List Frame} {meth : Method} {c : Code} {T : State} {locs : List Loc} {k n : Nat}
    (X : Stand p l e R s m args below meth c T locs k n) (hM : qx_Mx l y (Cond.code y cY nY rY :: qu_W) rm G b sc L xs av h pq)
    (hts : ∀ w ∈ qu_W, w.before args s = true) (hy : Cond.code y cY nY rY ∈ qu_W ∧ Cond.initialized y.cls ∈ qu_W) (hK : qw_K G s) (hE : qw_E s) (hZ : qh_Z b s.heap) (hX0 : va_X sc L xs s s.heap) (hsc : sc < b) (hB : ∀ q : Nat, q < b → T.heap[q]? = s.heap[q]?) (hR : qh_R G b h T.heap)
    {mk : MethodId} (hn : s.methodNamed? y = some mk)
    {g : JFrame} (hg : g.method = m) (hsize : g.locals.size = c.maxLocals) {ig : Instr} {len : Nat} (hdg : decode c.code g.pc = .ok (ig, len))
    (hW : 2 * g.monitorRoom + (g.stack.map fun v => v.category).sum ≤ 8) (hfr : rm.frames + 1 ≤ R.frames ∧ 8 + (nY + 11) + rm.locals ≤ R.locals ∧ k + rm.cells ≤ R.cells ∧ n + rm.slots ≤ R.slots) :
    ∃ (o : Outcome) (h' : qh_H) (T' : State) (L : List Loc), Stand p l e R s m args below meth c T' (locs ++ L) (k + rm.cells) (n + rm.slots) ∧ pq o h' ∧ qh_R G b h' T'.heap ∧ (T.heap.size ≤ T'.heap.size ∧ ∀ q : Nat, q < b → T'.heap[q]? = T.heap[q]?) ∧ (∀ q ∈ L, b ≤ q.base) ∧
      (∀ v, o = .returned v → Steps p.tables e below (doInvoke e (T.setTop g) [] mk av.toArray).1 (T'.setTop { g with pc := g.pc + len, stack := v.toList ++ g.stack })) ∧
      (∀ x, o = .threw x → Steps p.tables e below (doInvoke e (T.setTop g) [] mk av.toArray).1 ((T'.setTop g).pushFrame (.throwing x))) := by
  have hG : ∀ w ∈ (Cond.code y cY nY rY :: qu_W), w ∈ qu_W ∧ ((w.onTables && w.keeps) = true ∨ ∃ ty, w = .arrayClass ty) := by
    intro w hw
    rcases List.mem_cons.mp hw with rfl | hw
    · exact ⟨hy.1, qu_good _ hy.1⟩
    · exact ⟨hw, qu_good _ hw⟩
  have hws := pay_in hts hG
  have hnT : T.methodNamed? y = some mk := X.named hn
  obtain ⟨methY, cdY, hmY, hcY, -, hlY, -⟩ := Cond.code_spec hnT (hws _ List.mem_cons_self args T X.warmed)
  obtain ⟨kY, hkY, -⟩ := className_of_methodNamed hnT
  have hinitY : kY.init = .initialized := Cond.initialized_spec (findClass_of_methodNamed hnT) hkY (hws _ (List.mem_cons_of_mem _ hy.2) args T X.warmed)
  have h0 : At T g.method c below := by rw [hg]; exact X.here
  have hr1 := hfr.2.1
  have happ : (headSpec (Cond.code y cY nY rY :: qu_W) rm).appliesLoose y e.platform (T.calling g mk av.toArray) = true :=
    Spec.appliesLoose_calling (g := g) h0 hdg hnT hkY hinitY
      (X.room_calling (g := g) (R' := rm) hsize hmY hcY hfr.1 (by rw [hlY]; omega) hfr.2.2.1 hfr.2.2.2) (atoms_intro fun w hw => hws w hw _ _ X.warmed)
  obtain ⟨mid, hmid⟩ := h0.above
  have hfr' : (T.setTop g).frames = (.java g :: mid) ++ below := by rw [State.frames_setTop' g h0.top, hmid]; rfl
  obtain ⟨o, s₂, hsteps, -, hend, hq⟩ := Steps.callFree hM p X.admits X.cas X.clock (acts := []) hfr' happ ⟨rfl, hR, qw_K.same (s := T) (show T.vm = T.vm from rfl) (hK.warm X.warmed), hE.go (T := T.calling g mk av.toArray) X.warmed hZ hB, (hX0.kept (hB sc hsc)).moved (U := T.calling g mk av.toArray) X.warmed.alike⟩ trivial
  rw [State.frames_setTop' g h0.top, X.tail] at hend
  obtain ⟨h', L, hp, hR2, hW2, hz, hsame, hL⟩ := hq
  cases o with
  | returned v =>
    obtain ⟨T', X', -, -, ht⟩ := X.outOf hg hdg hend hW2 hsame
    have hh : T'.heap = s₂.heap := by rw [ht]; rfl
    exact ⟨_, h', T', L, X', hp, by rw [hh]; exact hR2, by rw [hh]; exact hz, hL, fun v' q => by cases q; rw [← ht]; exact hsteps, fun x q => by cases q⟩
  | threw x =>
    obtain ⟨T', X', -, -, ht⟩ := X.outOfThrown hg hend hW2 hsame
    have hh : T'.heap = s₂.heap := by rw [ht]; rfl
    exact ⟨_, h', T', L, X', hp, by rw [hh]; exact hR2, by rw [hh]; exact hz, hL, fun v' q => (by cases q), fun x' q => by cases q; rw [← ht]; exact hsteps⟩

variable {own nm : String} {cc : ByteArray} {nL : Nat} {ret : Option FieldType} {tb : List (Nat × Nat × Nat × Nat)} {R : Room} {post : Outcome → qh_H → Prop} {X : qw_T} {pc : Nat} {lo : List (Option Value)} {st : List Value} {h : qh_H} {k n : Nat}
theorem qx_runx {sc L : Nat} {xs : Nat → Int32} {p : Program} {e : Env} {s : State} {m : MethodId} {args : Array Value} {below : List Frame} {meth : Method} {c : Code} {Q : State → Prop} (hx : p.tables.exec = Jvm.exec) (hb : c.code = cc) (hml : c.maxLocals = nL) (hown : s.vm.findClass own = some m.cls) (hts : ∀ w ∈ qu_W, w.before args s = true) (hK : qw_K G s) (hbs : b ≤ s.heap.size) (hE : qw_E s) (hZ : qh_Z b s.heap) (hX0 : va_X sc L xs s s.heap) (hsc : sc < b) {y : MethodName} {cY : ByteArray} {nY : Nat} {rY : Option FieldType} {rm : Room} {av rest : List Value} {pq : Outcome → qh_H → Prop}
    (hsite : qx_Site l G own cc pc y av rest h) (hM : qx_Mx l y (Cond.code y cY nY rY :: qu_W) rm G b sc L xs av h pq) (hy : Cond.code y cY nY rY ∈ qu_W ∧ Cond.initialized y.cls ∈ qu_W)
    (hst : st = av.reverse ++ rest) (hll : lo.length = nL) (hro : (rest.map fun v => v.category).sum ≤ 8) (hfr : rm.frames + 1 ≤ R.frames ∧ 8 + (nY + 11) + rm.locals ≤ R.locals ∧ k + rm.cells ≤ R.cells ∧ n + rm.slots ≤ R.slots)
    (hno : ∀ (x : Addr) (h' : qh_H), pq (.threw x) h' → False) (kk : ∀ (v : Option Value) (h' : qh_H), pq (.returned v) h' → qw_J p l e R s m args below meth c Q G b (pc + 3) lo (v.toList ++ rest) h' (k + rm.cells) (n + rm.slots)) : qw_J p l e R s m args below meth c Q G b pc lo st h k n := by
  intro H locs ls hR hS hL T hT XS
  subst hT
  obtain ⟨vm₁, mk, ig, X₁, hnamed, hd, hgo⟩ := hsite XS hx hb hown hts hK (fun a x hax => (hR.2.1 a x hax).2) ls
  obtain ⟨o, h', T', L, X', hp, hR', hz, hLb, hret, hthr⟩ := qx_callx (g := F0 m pc ls rest) X₁ hM hts hy hK hE hZ hX0 hsc (fun q hq => hS.2.1 q (Nat.lt_of_lt_of_le hq hbs) (Nat.not_le.mpr hq)) hR hnamed rfl (by show ls.size = _; rw [hml]; exact hL.1.trans hll) (by rw [hb]; exact hd) (lv_room hro) hfr
  have hS' : va_S (fun q => b ≤ q) s.heap T'.heap (locs ++ L) := ⟨Nat.le_trans hS.1 hz.1, fun q g1 g2 => (hz.2 q (Nat.not_le.mp g2)).trans (hS.2.1 q g1 g2), fun q hq => by
    rcases List.mem_append.mp hq with h9 | h9
    · exact hS.2.2 q h9
    · exact hLb q h9⟩
  cases o with
  | returned v =>
    obtain ⟨t, a1, b1⟩ := kk v h' hp T'.heap (locs ++ L) ls hR' hS' hL T' rfl X'
    subst hst
    exact ⟨t, hgo _ ((hret v rfl).trans a1), b1⟩
  | threw x => exact (hno x h' hp).elim

end LZC
