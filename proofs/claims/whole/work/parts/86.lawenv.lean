/-! what is known when the law begins -/
theorem lz_w {s : State} {args : Array Value} (hts : ∀ w ∈ lw_tbl, w.before args s = true) {w : Cond} (i : Nat) (h : tables_1[i]? = some w) : w.before args s = true := hts w (List.mem_append_right _ (List.mem_of_getElem? h))
theorem lz_q {s : State} {args : Array Value} (hts : ∀ w ∈ lw_tbl, w.before args s = true) : ∀ w ∈ qu_W, w.before args s = true := fun w hw => hts w (List.mem_filter.mp hw).1
theorem lz_k {s : State} {args : Array Value} (hts : ∀ w ∈ lw_tbl, w.before args s = true) {C : String} {T : u_T} {N n : Nat} (hin : ∀ w ∈ u_ws C T N, w ∈ qu_W) (i : Nat) (h : tables_1[i]? = some (Cond.instantiable C n)) : ∃ (cC : ClassId) (iS : Nat → Nat), u_Kn s C T N cC iS :=
  u_known (lz_q hts) hin (lz_w hts i h)
theorem lz_kn {s : State} {args : Array Value} (hts : ∀ w ∈ lw_tbl, w.before args s = true) (c : Nat) : ∃ (cC : ClassId) (iS : Nat → Nat), ∀ q : vw_C, qu_Cl[c]? = some q → u_Kn s q.1 q.2.1 q.2.2 cC iS := by
  have k : ∀ {C : String} {T : u_T} {N n : Nat} (hin : ∀ w ∈ u_ws C T N, w ∈ qu_W) (i : Nat) (h : tables_1[i]? = some (Cond.instantiable C n)), ∃ (cC : ClassId) (iS : Nat → Nat), ∀ q : vw_C, some (C, T, N) = some q → u_Kn s q.1 q.2.1 q.2.2 cC iS := fun hin i h => by
    obtain ⟨cC, iS, hk⟩ := lz_k hts hin i h
    exact ⟨cC, iS, fun q hq => by cases hq; exact hk⟩
  match c with
  | 0 => exact k (n := 3) uw_Q 19 (by decide +kernel)
  | 1 => exact k (n := 4) uw_E 323 (by decide +kernel)
  | 2 => exact k (n := 3) uw_L 89 (by decide +kernel)
  | 3 => exact k (n := 12) uw_M 167 (by decide +kernel)
  | 4 => exact k (n := 6) uw_R 29 (by decide +kernel)
  | 5 => exact k (n := 3) uw_W 160 (by decide +kernel)
  | 6 => exact k (n := 13) uw_S 83 (by decide +kernel)
  | 7 => exact k (n := 4) uw_N 60 (by decide +kernel)
  | 8 => exact k (n := 30) uw_D 712 (by decide +kernel)
  | 9 => exact k (T := T_E) (N := 0) (n := 6) (fun w hw => by cases hw) 581 (by decide +kernel)
  | 10 => exact k (T := T_E) (N := 0) (n := 6) (fun w hw => by cases hw) 649 (by decide +kernel)
  | 11 => exact k (T := T_E) (N := 0) (n := 6) (fun w hw => by cases hw) 665 (by decide +kernel)
  | c + 12 => exact ⟨0, fun _ => 0, fun q hq => by cases hq⟩
theorem lz_ac {s : State} {args : Array Value} (hts : ∀ w ∈ lw_tbl, w.before args s = true) {ty : FieldType} (hne : ∀ C, ty ≠ .object C) (hw : Cond.arrayClass ty ∈ qu_W) : ∃ cA : ClassId, ArrOfT s cA ty ∧ va_RA s cA ty := by
  obtain ⟨cA, kA, comp, h1, h2, h3⟩ := Cond.arrayClass_spec (lz_q hts _ hw)
  refine ⟨cA, fun n z => ⟨fun k h => (by cases h), kA, h2, comp, h3⟩, ?_⟩
  cases ty with
  | object C => exact absurd rfl (hne C)
  | _ => exact h1
theorem lz_ao {s : State} {args : Array Value} (hts : ∀ w ∈ lw_tbl, w.before args s = true) {C : String} (i : Nat) (h : tables_1[i]? = some (Cond.arrayOver (.object C))) : ∃ cA : ClassId, ArrOfT s cA (.object C) ∧ va_RA s cA (.object C) := by
  obtain ⟨comp, cA, kA, h1, -, h2, h3, h4⟩ := Cond.arrayOver_spec (lz_w hts i h)
  exact ⟨cA, fun n z => ⟨fun k h => (by cases h), kA, h2, comp, h3⟩, kA, comp, h2, h3, h1, h4⟩
theorem lz_K {s : State} {args : Array Value} (hts : ∀ w ∈ lw_tbl, w.before args s = true) : ∃ G : qh_G, qw_K G s := by
  obtain ⟨t0, a0⟩ := lz_ac hts (fun C h => by cases h) ac_int
  obtain ⟨t1, a1⟩ := lz_ac hts (fun C h => by cases h) ac_boolean
  obtain ⟨t2, a2⟩ := lz_ac hts (fun C h => by cases h) ac_long
  obtain ⟨t3, a3⟩ := lz_ao hts (C := "QuorumLog$Server") 27 (by decide +kernel)
  obtain ⟨t4, a4⟩ := lz_ao hts (C := "QuorumLog$Entry") 95 (by decide +kernel)
  obtain ⟨t5, a5⟩ := lz_ao hts (C := "QuorumLog$Message") 166 (by decide +kernel)
  have hk := lz_kn hts
  refine ⟨((fun c => (hk c).choose, fun c => (hk c).choose_spec.choose), fun t => if t = 0 then t0 else if t = 1 then t1 else if t = 2 then t2 else if t = 3 then t3 else if t = 4 then t4 else t5), ⟨fun c q hq => (hk c).choose_spec.choose_spec q hq, fun k q hq => ?_⟩, fun w hw => ?_, fun C hC => ?_⟩
  · match k with
    | 0 => cases hq; exact a0
    | 1 => cases hq; exact a1
    | 2 => cases hq; exact a2
    | 3 => cases hq; exact a3
    | 4 => cases hq; exact a4
    | 5 => cases hq; exact a5
    | k + 6 => cases hq
  · rcases List.mem_cons.mp hw with rfl | hw
    · exact ⟨_, _, _, _, rfl, va_Nw.of rfl (lz_w hts 30 (by decide +kernel))⟩
    · rcases List.mem_cons.mp hw with rfl | hw
      · exact ⟨_, _, _, _, rfl, va_Nw.of rfl (lz_w hts 279 (by decide +kernel))⟩
      · cases hw
  · rcases List.mem_cons.mp hC with rfl | hC
    · exact va_AO.of (lz_w hts 27 (by decide +kernel))
    · rcases List.mem_cons.mp hC with rfl | hC
      · exact va_AO.of (lz_w hts 95 (by decide +kernel))
      · rcases List.mem_cons.mp hC with rfl | hC
        · exact va_AO.of (lz_w hts 166 (by decide +kernel))
        · cases hC
theorem lz_nc {s : State} {args : Array Value} {x y : String} (h : (Cond.not (Cond.castable x y)).before args s = true) : ∃ c1 c2 : ClassId, s.vm.findClass x = some c1 ∧ s.vm.findClass y = some c2 ∧ s.vm.assignable c1 c2 = false := by
  have h1 := Cond.holds_not_iff.mp h
  simp only [Cond.value] at h1
  cases hc : s.vm.findClass x with
  | none => simp [hc] at h1
  | some c =>
    cases ht : s.vm.findClass y with
    | none => simp [hc, ht] at h1
    | some t => exact ⟨c, t, rfl, rfl, by simpa [hc, ht] using h1⟩
theorem lz_st {s : State} {args : Array Value} {a n d : String} (h : (Cond.isRef (Term.static a n d)).before args s = true) : ∃ u : RefV, (Term.static a n d).eval #[] s none [] s = some u.v := by
  obtain ⟨v, h1, h2⟩ := Cond.isRef_spec h
  exact ⟨⟨v, h2⟩, h1⟩
theorem lz_E {s : State} {args : Array Value} (hts : ∀ w ∈ lw_tbl, w.before args s = true) (hg : (Jvm.Cond.and given_1 narrow_1).before args s = true) : qw_E s := by
  have hs := flat_of_before _ hg
  refine ⟨fun x hx => ?_, fun w hw hq => ?_, fun x hx => ?_⟩
  · rcases List.mem_cons.mp hx with rfl | hx
    · exact lz_st (hs (Cond.isRef (Term.static "java/lang/Throwable" "UNASSIGNED_STACK" "[Ljava/lang/StackTraceElement;")) (by decide +kernel))
    · rcases List.mem_cons.mp hx with rfl | hx
      · exact lz_st (hs (Cond.isRef (Term.static "java/lang/Throwable" "SUPPRESSED_SENTINEL" "Ljava/util/List;")) (by decide +kernel))
      · cases hx
  · have h := hts w (List.mem_append_right _ hw)
    cases w with
    | declares x => exact h
    | castable a c => exact h
    | laysStatic a n d => exact h
    | stringRef a i t => exact h
    | _ => cases hq
  · rcases List.mem_cons.mp hx with rfl | hx
    · exact lz_nc (hs (Cond.not (Cond.castable "java/lang/IllegalStateException" "java/lang/IllegalArgumentException")) (by decide +kernel))
    · rcases List.mem_cons.mp hx with rfl | hx
      · exact lz_nc (hs (Cond.not (Cond.castable "java/lang/UnsupportedOperationException" "java/lang/IllegalArgumentException")) (by decide +kernel))
      · rcases List.mem_cons.mp hx with rfl | hx
        · exact lz_nc (hs (Cond.not (Cond.castable "java/lang/UnsupportedOperationException" "java/lang/IllegalStateException")) (by decide +kernel))
        · cases hx
