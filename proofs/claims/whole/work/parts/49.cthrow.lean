/-! a new exception, thrown -/
theorem qt_push {H H1 : Heap} {x : Cell} (e1 : H1[H.size]? = some x) (z1 : H1.size = H.size + 1) (o1 : ∀ q : Nat, q < H.size → H1[q]? = H[q]?) : H1 = H.push x := by
  apply Array.ext_getElem?
  intro i
  by_cases h1 : i < H.size
  · rw [o1 i h1, Array.getElem?_push, if_neg (Nat.ne_of_lt h1)]
  · by_cases h2 : i = H.size
    · subst h2
      rw [e1, Array.getElem?_push_size]
    · rw [Array.getElem?_eq_none (by omega), Array.getElem?_eq_none (by rw [Array.size_push]; omega)]
def qt_sum (H : Heap) : Nat := H.foldl (fun n c => n + c.slots.size) 0
theorem qt_sum_push (H : Heap) (x : Cell) : qt_sum (H.push x) = qt_sum H + x.slots.size := by
  unfold qt_sum
  rw [Array.foldl_push]
theorem qt_drop (H : Heap) (x : Cell) : (((H.push x).toList.drop H.size).map (·.slots.size)).sum = x.slots.size := by
  rw [Array.toList_push]
  have : (H.toList ++ [x]).drop H.size = [x] := by
    have h9 : H.size = H.toList.length := by simp
    rw [h9, List.drop_left]
  rw [this]
  simp
/-- the state before the last cell was made, at the invocation -/
def qt_s (T : State) (H : Heap) (m : MethodId) (args : Array Value) (below : List Frame) : State := ({ T with heap := H, slotsUsed := qt_sum H } : State).setFrames (.invoking m args :: below)
theorem qt_stand {p : Program} {l : Launch} {e : Env} {R : Room} {s : State} {m : MethodId} {args : Array Value} {below : List Frame} {meth : Method} {c : Code} {T : State} {locs : List Loc} {k n : Nat}
    (X : Stand p l e R s m args below meth c T locs k n) (h1 : k ≤ R.cells) (h2 : n ≤ R.slots) {H : Heap} {x : Cell} (hT : T.heap = H.push x) :
    Stand p l e { R with cells := 0, slots := 0 } (qt_s T H m args below) m args below meth c T [] 1 x.slots.size := by
  obtain ⟨g₀, hr⟩ := X.frames_eq
  obtain ⟨th, hth, -⟩ := State.frames_cons hr
  have hcur : T.cur < T.threads.size := (Array.getElem?_eq_some_iff.mp hth).1
  have hal := X.warmed.alike
  have hfr : (qt_s T H m args below).frames = .invoking m args :: below := State.frames_setFrames _ hcur
  have hme : (qt_s T H m args below).vm.method? m = some meth := by
    show T.vm.method? m = some meth
    rw [hal.method?]
    exact X.method
  have hlim : e.platform.stackLimits (qt_s T H m args below).me = e.platform.stackLimits s.me := (State.stackLimits_setFrames _ _ _).trans X.limits
  have hby : (qt_s T H m args below).me.stackBytes = s.me.stackBytes := (State.stackBytes_setFrames _ _).trans X.bytes
  have hbk := X.book
  have hsu : T.slotsUsed = qt_sum H + x.slots.size := by
    rw [← qt_sum_push, ← hT]
    simpa [State.slotsTrue, qt_sum] using hbk
  refine ⟨X.admits, X.cas, X.clock, hfr, ?_, ?_, hme, X.code, X.here, X.tail, State.WarmedH.refl (qt_s T H m args below), X.limits.trans hlim.symm, X.bytes.trans hby.symm, ?_⟩
  · have r0 := X.room
    have r1 := State.localsInUse_invoking X.frames X.method X.code
    have r2 := State.localsInUse_invoking hfr hme X.code
    have hsz := X.heapSize
    have hus := X.used
    rw [hT, Array.size_push] at hsz
    simp only [State.hasRoom, Bool.and_eq_true, decide_eq_true_eq] at r0 ⊢
    rw [X.frames, r1] at r0
    rw [hfr, r2, hlim, hby]
    obtain ⟨⟨⟨⟨a1, a2, a3, a4, a5, a6⟩, a7⟩, a8⟩, a9⟩ := r0
    refine ⟨⟨⟨⟨a1, a2, a3, a4, a5, a6⟩, ?_⟩, ?_⟩, ?_⟩
    · show H.size + 0 ≤ _
      omega
    · show qt_sum H + 0 ≤ _
      omega
    · show (qt_sum H == _) = true
      exact beq_self_eq_true _
  · have hh := X.hears
    have hvm : ∀ mm : MethodId, (qt_s T H m args below).code? mm = s.code? mm := fun mm => by
      rw [State.code?_eq, State.code?_eq]
      show (T.vm.method? mm).bind _ = _
      rw [hal.method?]
    rcases below with _ | ⟨y, r⟩
    · simp only [State.hears, X.method, hme] at hh ⊢
      exact hh
    · cases y <;> simp only [State.hears, X.method, hme, hvm] at hh ⊢ <;> exact hh
  · refine ⟨?_, ?_, ?_, ?_, ?_, ?_⟩
    · show T = { (qt_s T H m args below).setFrames T.frames with heap := T.heap, slotsUsed := T.slotsUsed }
      unfold qt_s
      rw [State.setFrames_setFrames]
      have h9 : ({ T with heap := H, slotsUsed := qt_sum H } : State).setFrames T.frames = ({ T with heap := H, slotsUsed := qt_sum H } : State) := State.setFrames_self (s := ({ T with heap := H, slotsUsed := qt_sum H } : State)) hth
      rw [h9]
    · show H.size ≤ T.heap.size
      rw [hT, Array.size_push]; omega
    · show T.heap.size ≤ H.size + 1
      rw [hT, Array.size_push]; omega
    · show T.slotsUsed = qt_sum H + ((T.heap.toList.drop H.size).map (·.slots.size)).sum
      rw [hT, qt_drop]
      exact hsu
    · show ((T.heap.toList.drop H.size).map (·.slots.size)).sum ≤ _
      rw [hT, qt_drop]
      exact Nat.le_refl _
    · intro a cc hc
      have hc' : H[a]? = some cc := hc
      refine ⟨cc, ?_, rfl, rfl, fun i _ => rfl⟩
      show T.heap[a]? = some cc
      rw [hT, Array.getElem?_push, if_neg (Nat.ne_of_lt (Array.getElem?_eq_some_iff.mp hc').1)]
      exact hc'
theorem qt_keep {T : State} {H : Heap} {m : MethodId} {args : Array Value} {below : List Frame} {U : State} {n : Nat} (h : (qt_s T H m args below).sameButNew U [] 1 n) {a : Nat} (ha : a < H.size) : U.heap[a]? = H[a]? := by
  obtain ⟨-, -, -, -, -, q6⟩ := h
  have h1 : H[a]? = some H[a] := Array.getElem?_eq_getElem ha
  obtain ⟨c', e1, e2, e3, e4⟩ := q6 a H[a] h1
  rw [e1, h1]
  congr 1
  rw [e2]
  have h9 : c'.slots = H[a].slots := Array.ext_getElem? fun i => e4 i (List.not_mem_nil)
  rw [h9]
theorem qt_same {T U : State} {H : Heap} {m : MethodId} {args : Array Value} {below : List Frame} {x ce : Cell} (hT : T.heap = H.push x) (hb : T.slotsTrue = true) (hU : U.heap = H.push ce)
    (h : (qt_s T H m args below).sameButNew ({ U with vm := T.vm } : State) [] 1 x.slots.size) (hs : ce.slots.size = x.slots.size) (hce : ce = { x with slots := ce.slots }) :
    T.sameButNew ({ U with vm := T.vm } : State) ((List.range x.slots.size).map (fun i => (⟨H.size, i⟩ : Loc))) 0 0 := by
  have hsu : T.slotsUsed = qt_sum H + x.slots.size := by
    rw [← qt_sum_push, ← hT]
    simpa [State.slotsTrue, qt_sum] using hb
  have hz : U.heap.size = T.heap.size := by rw [hU, hT, Array.size_push, Array.size_push]
  have hk := fun a (ha : a < H.size) => qt_keep h ha
  obtain ⟨q1, q2, q3, q4, q5, q6⟩ := h
  have q4' : U.slotsUsed = qt_sum H + ((U.heap.toList.drop H.size).map (·.slots.size)).sum := q4
  rw [hU, qt_drop, hs] at q4'
  have hd : U.heap.toList.drop T.heap.size = [] := by rw [← hz]; simp
  refine ⟨?_, Nat.le_of_eq hz.symm, Nat.le_of_eq hz, ?_, ?_, ?_⟩
  · refine q1.trans ?_
    unfold qt_s
    rw [State.setFrames_setFrames]
    rfl
  · show U.slotsUsed = T.slotsUsed + ((U.heap.toList.drop T.heap.size).map (·.slots.size)).sum
    rw [hd, hsu, q4']
    rfl
  · show ((U.heap.toList.drop T.heap.size).map (·.slots.size)).sum ≤ 0
    rw [hd]
    exact Nat.le_refl _
  · intro a c hc
    by_cases ha : a < H.size
    · refine ⟨c, ?_, rfl, rfl, fun _ _ => rfl⟩
      have := hk a ha
      rw [hT, Array.getElem?_push, if_neg (Nat.ne_of_lt ha)] at hc
      exact this.trans hc
    · have ha2 : a = H.size := by
        have h8 := (Array.getElem?_eq_some_iff.mp hc).1
        have h7 : T.heap.size = H.size + 1 := by rw [hT, Array.size_push]
        have h6 : a < H.size + 1 := h7 ▸ h8
        exact Nat.le_antisymm (Nat.le_of_lt_succ h6) (Nat.not_lt.mp ha)
      subst ha2
      rw [hT, Array.getElem?_push_size] at hc
      cases hc
      refine ⟨ce, ?_, hce, hs, fun i hi => ?_⟩
      · show U.heap[H.size]? = some ce
        rw [hU, Array.getElem?_push_size]
      · have : x.slots.size ≤ i := by
          apply Nat.not_lt.mp
          intro hlt
          exact hi (List.mem_map.mpr ⟨i, List.mem_range.mpr hlt, rfl⟩)
        rw [Array.getElem?_eq_none (by omega), Array.getElem?_eq_none this]
theorem qw_E.word {args : Array Value} {U : State} (h : qw_E U) {x : String × String} (hx : x ∈ qu_St) : (Cond.isRef (.static Bundle.tN x.1 x.2)).before args U = true := by
  obtain ⟨u, hu⟩ := h.1 x hx
  have h2 : (Term.static Bundle.tN x.1 x.2).eval args U none [] U = some u.v := hu
  obtain ⟨v, hv⟩ := u
  cases v <;> first | (cases hv; done) | simp_all [Cond.before, Cond.holds, Cond.value, Value.isRef]
theorem qx_throwS {l : Launch} {G : qh_G} {b : Nat} {own nm : String} {cc : ByteArray} {nL : Nat} {ret : Option FieldType} {R : Room} {post : Outcome → qh_H → Prop} {X : qw_T} {pc : Nat} {lo : List (Option Value)} {st : List Value} {h : qh_H} {k n : Nat} (C : qw_C l G b own nm cc nL ret [] R post X) {ix ic ik ci : Nat} {cls tx : String} {T0 : u_T} {names : List String}
    (hf : l.flags = pinnedFlags ++ [noTraceFlag]) (hd0 : decode cc pc = .ok (.new ix, 3)) (hd1 : decode cc (pc + 3) = .ok (.dup, 1)) (hd2 : decode cc (pc + 4) = .ok (.ldc ik, 2)) (hd3 : decode cc (pc + 6) = .ok (.invokespecial ic, 3)) (hd4 : decode cc (pc + 9) = .ok (.athrow, 1))
    (hcl : Cond.classLink own ix cls ∈ qu_W) (hinst : Cond.instantiable cls 6 ∈ qu_W) (hini : Cond.initialized cls ∈ qu_W) (hstr : Cond.stringRef own ik tx ∈ tables_1) (hat : ∀ a ∈ Bundle.ownAtoms own ic cls names, a ∈ qu_W ∨ (a ∈ tables_1 ∧ qu_xw a = true) ∨ ∃ x ∈ qu_St, a = .isRef (.static Bundle.tN x.1 x.2)) (hfc : Bundle.fit cls = true) (hfn : ∀ x ∈ names, Bundle.fit x = true) (hci : qu_Cl[ci]? = some (cls, T0, 0))
    (hll : lo.length = nL) (h1 : k + 1 ≤ R.cells) (h2 : n + 6 ≤ R.slots) (h3 : names.length + 3 < R.frames) (h4 : (st.map fun v => v.category).sum + 1 + (13 * (names.length + 1) + 42) ≤ R.locals)
    (kk : ∀ a : Nat, h a = none → post (.threw a) (va_up h a (some (.inr (ci, []))))) : X pc lo st h k n := by
  obtain ⟨p, e, s, m, args, below, meth, c, rfl, hx, hb, hml, htb, hown, hts, hK, hlk, hr, hnm, hbs, hE, hZ⟩ := C
  intro H locs ls hR hS hL
  have hKn := hK.1.1 ci _ hci
  obtain ⟨kS, cfS, iS, aS, -, -, -, -, -, hS2⟩ := Cond.stringRef_spec hown (hE.2.1 _ hstr rfl)
  refine W.newcK hx hb hown (hts _ hcl) (hts _ hinst) (hts _ hini) rfl hd0 h1 h2 hKn.2.1 rfl fun H1 kC hkC e1 z1 o1 => ?_
  refine lv_dup hx hb hd1 rfl ?_
  refine va_ldcS hx hb hown (vk_R.of (A := #[]) (hE.2.1 _ hstr rfl) hS2) hd2 ?_
  intro T hT XS
  have htr := Launch.traces_off hf XS.admits
  have hex : c.exceptionTable.toList = [] := List.map_eq_nil_iff.mp htb
  have hTH : T.heap = H.push (blank (G.1.1 ci) kC) := hT.trans (qt_push e1 z1 o1)
  have hn6 : (blank (G.1.1 ci) kC).slots.size = 6 := by
    obtain ⟨c1, k1, hc1, hk1, -, -, -, hk6⟩ := Cond.instantiable_spec (hts _ hinst)
    cases Option.some.inj (hc1.symm.trans hKn.2.1)
    cases Option.some.inj (hk1.symm.trans hkC)
    simp [blank, hk6]
  have hal := XS.warmed.alike
  have XN := qt_stand XS h1 h2 hTH
  have hG : ∀ w ∈ qu_W, w ∈ qu_W ∧ ((w.onTables && w.keeps) = true ∨ ∃ ty, w = .arrayClass ty) := fun w hw => ⟨hw, qu_good _ hw⟩
  have hws := pay_in hts hG
  have hEs : qw_E (qt_s T H m args below) := hE.go (s := s) XS.warmed hZ (fun q hq => hS.2.1 q (Nat.lt_of_lt_of_le hq hbs) (Nat.not_le.mpr hq))
  have hfcT : (qt_s T H m args below).vm.findClass cls = some (G.1.1 ci) := by
    show T.vm.findClass cls = _
    rw [hal.findClass]
    exact hKn.2.1
  obtain ⟨kT, hkT, ekT⟩ := hal.2.2 _ _ hkC
  obtain ⟨U, u1, u2, u3, u4, u5, ce, u6, u7⟩ := XN.ctorThrowS hx htr (by show T.vm.findClass own = _; rw [hal.findClass]; exact hown) hfc hfn (fun a ha => by
      rcases hat a ha with q | ⟨q3, q4⟩ | ⟨x, q1, q2⟩
      rotate_left
      · have q5 := hEs.2.1 a q3 q4
        cases a with
        | declares x => exact q5
        | castable a c => exact q5
        | laysStatic a n d => exact q5
        | stringRef a i t => exact q5
        | _ => cases q4
      rotate_left
      · exact hws a q args (qt_s T H m args below) XS.warmed
      · rw [q2]
        exact hEs.word q1) (fun x hx1 => by cases hx1) hfcT hkT (a := H.size) (by rw [hT, e1, ekT]; rfl) (Nat.le_refl _) (msg := .ref aS) rfl (g := F0 m (pc + 3 + 1 + 2) ls (.ref aS :: .ref H.size :: .ref H.size :: st)) rfl (by show ls.size = _; rw [hml, ← hll]; exact hL.1) rfl rfl rfl (by rw [hb]; exact hd3) (by rw [hb]; exact hd4) (by rw [hex]; intro x hx; cases hx) h3 (by show 2 * 0 + (1 + (st.map fun v => v.category).sum) + (13 * (names.length + 1) + 42) ≤ R.locals; omega) hlk
  have hcls : G.1.1 ci = ce.cls := Option.some.inj (hfcT.symm.trans u7.cls)
  have hsz : U.heap.size = H.size + 1 := by
    have h5 := u5.2.2.1
    have h6 := (Array.getElem?_eq_some_iff.mp u6).1
    have h7 : U.heap.size ≤ H.size + 1 := h5
    omega
  have hUk : ∀ q : Nat, q < H.size → U.heap[q]? = H[q]? := fun q hq => qt_keep u5 hq
  have hU : U.heap = H.push ce := qt_push u6 hsz hUk
  have hsm := qt_same hTH XS.book hU u5 (by rw [u7.size, hn6]) (by
    have a1 := u7.monitor
    have a2 := u7.hash
    have a3 := u7.vm
    obtain ⟨y1, y2, y3, y4, y5⟩ := ce
    simp only at hcls a1 a2 a3
    subst hcls
    subst a1
    subst a2
    subst a3
    rfl)
  have hwT : T.WarmedH U.vm := State.WarmedH.of_rootvm (s := qt_s T H m args below) rfl u4
  refine ⟨U, u1, .threw H.size, _, locs ++ ((List.range (blank (G.1.1 ci) kC).slots.size).map (fun i => (⟨H.size, i⟩ : Loc))), u2, u3, kk H.size hR.fresh, ?_, State.WarmedH.trans XS.warmed hwT, ?_, ?_, ?_⟩
  · exact hR.up hR.1 (by omega) ⟨_, hci, _, u6, hcls.symm, u7.vm, fun q hq => absurd hq (Nat.not_lt_zero _)⟩ (fun q _ hq => hUk q hq) (fun q g1 g2 => by omega)
  · refine ⟨Nat.le_trans hS.1 (by omega), fun q hq => ?_⟩
    rw [hUk q (Nat.lt_of_lt_of_le (Nat.lt_of_lt_of_le hq hbs) hS.1)]
    exact hS.2.1 q (Nat.lt_of_lt_of_le hq hbs) (Nat.not_le.mpr hq)
  · exact ((XS.same).trans (hsm.setVm s.vm)).weaken (fun x hx1 _ => hx1) (by omega) (by omega)
  · intro q hq
    rcases List.mem_append.mp hq with h9 | h9
    · exact hS.2.2 q h9
    · obtain ⟨i, -, rfl⟩ := List.mem_map.mp h9
      exact hR.1
def qt_L : List Cond := tables_1.take 30 ++ (tables_1.drop 560).take 130
theorem qt_L_in {w : Cond} (h : w ∈ qt_L) : w ∈ tables_1 := by
  rcases List.mem_append.mp h with q | q
  · exact List.mem_of_mem_take q
  · exact List.mem_of_mem_drop (List.mem_of_mem_take q)
theorem qt_hat {xs : List Cond} (h : xs.all (fun a => (decide (a ∈ qt_L) && (goodWord a || qu_xw a)) || qu_St.any (fun x => decide (a = .isRef (.static Bundle.tN x.1 x.2)))) = true) : ∀ a ∈ xs, a ∈ qu_W ∨ (a ∈ tables_1 ∧ qu_xw a = true) ∨ ∃ x ∈ qu_St, a = .isRef (.static Bundle.tN x.1 x.2) := by
  intro a ha
  have h1 := List.all_eq_true.mp h a ha
  rcases Bool.or_eq_true _ _ |>.mp h1 with q | q
  · simp only [Bool.and_eq_true, decide_eq_true_eq, Bool.or_eq_true] at q
    rcases q with ⟨q1, q2 | q2⟩
    · exact Or.inl (List.mem_filter.mpr ⟨List.mem_append_right _ (qt_L_in q1), q2⟩)
    · exact Or.inr (Or.inl ⟨qt_L_in q1, q2⟩)
  · obtain ⟨x, hx, he⟩ := List.any_eq_true.mp q
    exact Or.inr (Or.inr ⟨x, hx, by simpa using he⟩)
def qt_N : List String := ["java/lang/RuntimeException", "java/lang/Exception"]
theorem ha_A : ∀ a ∈ Bundle.ownAtoms "QuorumLog" 114 "java/lang/IllegalArgumentException" qt_N, a ∈ qu_W ∨ (a ∈ tables_1 ∧ qu_xw a = true) ∨ ∃ x ∈ qu_St, a = .isRef (.static Bundle.tN x.1 x.2) := qt_hat (by decide +kernel)
theorem ha_S : ∀ a ∈ Bundle.ownAtoms "QuorumLog" 125 "java/lang/IllegalStateException" qt_N, a ∈ qu_W ∨ (a ∈ tables_1 ∧ qu_xw a = true) ∨ ∃ x ∈ qu_St, a = .isRef (.static Bundle.tN x.1 x.2) := qt_hat (by decide +kernel)
theorem ha_U : ∀ a ∈ Bundle.ownAtoms "QuorumLog" 98 "java/lang/UnsupportedOperationException" qt_N, a ∈ qu_W ∨ (a ∈ tables_1 ∧ qu_xw a = true) ∨ ∃ x ∈ qu_St, a = .isRef (.static Bundle.tN x.1 x.2) := qt_hat (by decide +kernel)
