/-! the law: put, change, read of the class, with their handlers -/
/-- cells that count for the relation -/
def lw_ok (G : qh_G) (x : va_E) : Prop := (∃ v, x = .inr (1, v)) ∨ (∃ v, x = .inr (7, v)) ∨ ∃ f, x = .inl (G.2 0, 4, .inl f)
section LP
variable {G : qh_G} {ad : Nat → Nat} {iv : Nat → Option Nat} {g g' : qh_H} {I : md_A} {m : Nat → Nat} {E : cl_E} {N : Nat → Nat} {A A' : md_A}
theorem cr.gx (hg : ∀ a x, g a = some x → lw_ok G x → g' a = some x) (h : cr G iv g I m E N A) : cr G iv g' I m E N A := by
  have hE : ∀ {r : Option Nat} {t so su va : Int}, cr_E iv g r t so su va → cr_E iv g' r t so su va := fun h => by
    obtain ⟨a, h1, h2, h3⟩ := h
    exact ⟨a, h1, h2, hg a _ h3 (Or.inl ⟨_, rfl⟩)⟩
  have hN : ∀ {a : Nat} {ix t me : Int} {V : Int → Int}, cr_N G iv g a ix t me V → cr_N G iv g' a ix t me V := fun h => by
    obtain ⟨h1, va, h2, h3, f, h4, h5⟩ := h
    exact ⟨h1, va, h2, hg _ _ h3 (Or.inr (Or.inl ⟨_, rfl⟩)), f, hg _ _ h4 (Or.inr (Or.inr ⟨_, rfl⟩)), h5⟩
  obtain ⟨h1, h2, h3, h4, h5, h6⟩ := h
  refine ⟨h1, fun s hs => ⟨(h2 s hs).1, hN (h2 s hs).2.1, fun i hi => hE ((h2 s hs).2.2 i hi)⟩, h3, h4, fun w hw => ?_, h6⟩
  obtain ⟨a1, a2, a3, a4⟩ := h5 w hw
  exact ⟨a1, a2, fun z => ⟨(a3 z).1, fun y => hE ((a3 z).2.1 y), fun y => hE ((a3 z).2.2 y)⟩, fun z => hN (a4 z)⟩
theorem cr.c (h : cr G iv g I m E N A) (v : Int) : cr G iv g I m E N (md_u A 0 0 v) := by
  obtain ⟨h1, h2, h3, h4, h5, h6⟩ := h
  refine ⟨fun s' hs' => ?_, fun s' hs' => ?_, ?_, h4, fun w hw => ?_, ?_, fun i' h0 h60 => ?_⟩
  · exact (h1 s' hs').cg rfl rfl rfl rfl (fun k' hk' => md_uk (by omega)) (fun k' hk' o _ _ => md_uk (by omega))
  · exact (h2 s' hs').cg rfl rfl rfl ((md_lg.rf A).u (by omega))
  · rw [md_uk (by omega)]; exact h3
  · rw [md_uk (by omega)] at hw
    exact (h5 w hw).cg rfl rfl rfl (fun k _ _ => md_uk (by omega))
  · rw [md_uk (by omega)]; exact h6.1
  · obtain ⟨r1, r2, r3, r4, r5⟩ := h6.2 i' h0 h60
    refine ⟨?_, ?_, ?_, ?_, ?_⟩ <;> rw [md_uk (by omega)] <;> assumption
end LP
abbrev lw_out (G : qh_G) (f : Nat → Int64) : va_E := .inl (G.2 2, 1, .inr (.inl f))
/-- behind put, change or read in the law -/
def lw_E (G : qh_G) (ad : Nat → Nat) (iv : Nat → Option Nat) (g : qh_H) (out : Nat) (A : md_A) (c r : Int) (A2 : md_A) (h' : qh_H) : Prop := ∃ g' I' m' E' N' f', h' = ch G ad iv g' I' m' E' N' ∧ (∀ a y, a ≠ out → g a = some y → g' a = some y) ∧ g' out = some (lw_out G f') ∧ ((c = 0 ∧ cr G iv g' I' m' E' N' A2 ∧ f' 0 = (iI r).toInt64) ∨ (c ≠ 0 ∧ cr G iv g' I' m' E' N' A))
theorem lw_fin {G : qh_G} {ad : Nat → Nat} {iv : Nat → Option Nat} (J : cl_I ad iv) {g : qh_H} {out : Nat} {f : Nat → Int64} (hio : iv out = none) (hgo : g out = some (lw_out G f)) {A A2 : md_A} {c r : Int} {h' : qh_H} (hc : c = 0) (hT : cr_T G ad iv g A2 h') : h' out = some (lw_out G f) ∧ lw_E G ad iv g out A c r A2 (va_up h' out (some (lw_out G (vp_updL f 0 (iI r).toInt64)))) := by
  obtain ⟨g', I', m', E', N', rfl, hg, hcr⟩ := hT
  have h1 : g' out = some (lw_out G f) := hg _ _ hgo
  refine ⟨(ch_g J hio).trans h1, va_up g' out (some (lw_out G (vp_updL f 0 (iI r).toInt64))), I', m', E', N', vp_updL f 0 (iI r).toInt64, ch_newq hio, fun a y ha hy => ?_, va_up_self _ _ _, Or.inl ⟨hc, hcr.gx (fun a x hx hk => ?_), ?_⟩⟩
  · rw [va_up_o _ _ ha]; exact hg a y hy
  · rw [va_up_o _ _ (fun e => ?_)]
    · exact hx
    · rw [e, h1] at hx
      cases hx
      rcases hk with ⟨v, hv⟩ | ⟨v, hv⟩ | ⟨v, hv⟩
      · cases hv
      · cases hv
      · have h9 : (1 : Nat) = 4 := congrArg (fun z => z.2.1) (Sum.inl.inj hv)
        cases h9
  · simp [vp_updL]
theorem lw_thr {G : qh_G} {ad : Nat → Nat} {iv : Nat → Option Nat} {g : qh_H} {out : Nat} {f : Nat → Int64} (hgo : g out = some (lw_out G f)) {A A2 : md_A} {c r : Int} {h' : qh_H} (hc : c ≠ 0) (hT : cr_T G ad iv g A h') : lw_E G ad iv g out A c r A2 h' := by
  obtain ⟨g', I', m', E', N', rfl, hg, hcr⟩ := hT
  exact ⟨g', I', m', E', N', f, rfl, fun a y _ hy => hg a y hy, hg _ _ hgo, Or.inr ⟨hc, hcr⟩⟩
theorem w_Z_put : Cond.codeWith y_Z_put c_Z_put 6 (some .int) [(0, 12, 15, 13), (0, 12, 19, 15), (0, 12, 23, 17)] ∈ qu_W ∧ Cond.initialized y_Z_put.cls ∈ qu_W := ⟨qu_in 568 (by decide +kernel) (by decide +kernel), qm_0⟩
theorem w_Z_change : Cond.codeWith y_Z_change c_Z_change 6 (some .int) [(0, 12, 15, 13), (0, 12, 19, 15), (0, 12, 23, 17)] ∈ qu_W ∧ Cond.initialized y_Z_change.cls ∈ qu_W := ⟨qu_in 682 (by decide +kernel) (by decide +kernel), qm_0⟩
theorem w_Z_read : Cond.codeWith y_Z_read c_Z_read 5 (some .int) [(0, 10, 13, 13), (0, 10, 17, 15), (0, 10, 21, 17)] ∈ qu_W ∧ Cond.initialized y_Z_read.cls ∈ qu_W := ⟨qu_in 697 (by decide +kernel) (by decide +kernel), qm_0⟩
def lw_q (oc : Outcome) (c : Int) (P : qh_H → Prop) (h' : qh_H) : Prop := oc = .returned (some (.int (iI c))) ∧ P h'
theorem putE_r (A : md_A) (x key : Int) : md_putE A x key = 0 ∨ md_putE A x key = 1 ∨ md_putE A x key = 2 ∨ md_putE A x key = 3 := by
  unfold md_putE
  repeat' split
  all_goals omega
theorem changeE_r (A : md_A) (x on j : Int) : md_changeE A x on j = 0 ∨ md_changeE A x on j = 1 ∨ md_changeE A x on j = 2 ∨ md_changeE A x on j = 3 := by
  unfold md_changeE
  repeat' split
  all_goals omega
theorem readE_r (A : md_A) (x key : Int) : md_readE A x key = 0 ∨ md_readE A x key = 1 ∨ md_readE A x key = 2 ∨ md_readE A x key = 3 := by
  unfold md_readE
  repeat' split
  all_goals omega
set_option maxRecDepth 100000 in
theorem z_put (l : Launch) (G : qh_G) (b : Nat) {ad : Nat → Nat} {iv : Nat → Option Nat} (J : cl_I ad iv) {g : qh_H} {I : md_A} {m : Nat → Nat} {E : cl_E} {N : Nat → Nat} (hf : qt_f l) {A : md_A} (h : cr G iv g I m E N A) (hS : md_S A) {x key val : Int} (hx : rng x) (hk : rng key) (hva : rng val) {out : Nat} {f : Nat → Int64} (hio : iv out = none) (hgo : g out = some (lw_out G f)) (d : Nat) : qx_M l y_Z_put (Cond.codeWith y_Z_put c_Z_put 6 (some .int) [(0, 12, 15, 13), (0, 12, 19, 15), (0, 12, 23, 17)] :: qu_W) (qr (d + 8) 2 12) G b [.ref (ad 0), .int (iI x), .int (iI key), .int (iI val), .ref out] (ch G ad iv g I m E N) (fun oc h' => lw_q oc (md_putE A x key) (lw_E G ad iv g out A (md_putE A x key) (md_last A x + 1) (md_append A x 1 key val)) h') := by
  refine qx_ofW (lo := [some (.ref (ad 0)), some (.int (iI x)), some (.int (iI key)), some (.int (iI val)), some (.ref out), none]) (by decide) (fun w hw => List.mem_cons_of_mem _ hw) rfl (Nat.le_of_ble_eq_true rfl) rfl ?_
  intro X C
  refine qx_aload C d_Z_put_0 rfl ?_
  refine qx_iconst C d_Z_put_2 (v := iI (0)) rfl ?_
  refine qx_aload_n C d_Z_put_3 rfl rfl ?_
  refine qx_iload_n C d_Z_put_4 rfl rfl ?_
  refine qx_iload_n C d_Z_put_5 rfl rfl ?_
  refine qx_iload_n C d_Z_put_6 rfl rfl ?_
  refine qx_runh C (s_Z_put_7 (ch_Q J)) (c_put l G b J hf h hS hx hk hva d) w_Q_put rfl rfl (Nat.le_of_ble_eq_true rfl) (qr_ok (by omega) (by decide) (by decide) (by decide)) (by decide) (fun a h' q => ?_) (fun v h' q => ?_)
  · rcases q with ⟨-, q, -⟩ | ⟨c, a', e1, e2, e3, e4, e5⟩
    · cases q
    · cases e3
      have hr := putE_r A x key
      have hT := lw_thr (A2 := md_append A x 1 key val) (r := md_last A x + 1) (c := md_putE A x key) hgo (by omega) e5
      refine ⟨c, by omega, e4, ?_⟩
      have h3 : c = 1 ∨ c = 2 ∨ c = 3 := by omega
      rcases h3 with rfl | rfl | rfl
      · show X 15 _ _ _ _ _
        refine nx_astore C d_Z_put_15 (Nat.le_of_ble_eq_true rfl) (lo' := [_, _, _, _, _, some (.ref _)]) rfl ?_
        refine qx_iconst C d_Z_put_17 (v := iI (1)) rfl ?_
        refine qx_iret C d_Z_put_18 (Nat.le_of_ble_eq_true rfl) (Nat.le_of_ble_eq_true rfl) ⟨by rw [e1]; rfl, hT⟩
      · show X 19 _ _ _ _ _
        refine nx_astore C d_Z_put_19 (Nat.le_of_ble_eq_true rfl) (lo' := [_, _, _, _, _, some (.ref _)]) rfl ?_
        refine qx_iconst C d_Z_put_21 (v := iI (2)) rfl ?_
        refine qx_iret C d_Z_put_22 (Nat.le_of_ble_eq_true rfl) (Nat.le_of_ble_eq_true rfl) ⟨by rw [e1]; rfl, hT⟩
      · show X 23 _ _ _ _ _
        refine nx_astore C d_Z_put_23 (Nat.le_of_ble_eq_true rfl) (lo' := [_, _, _, _, _, some (.ref _)]) rfl ?_
        refine qx_iconst C d_Z_put_25 (v := iI (3)) rfl ?_
        refine qx_iret C d_Z_put_26 (Nat.le_of_ble_eq_true rfl) (Nat.le_of_ble_eq_true rfl) ⟨by rw [e1]; rfl, hT⟩
  · rcases q with ⟨q0, q1, q2⟩ | ⟨c, a', e1, e2, e3, e4, e5⟩
    rotate_left
    · cases e3
    cases q1
    obtain ⟨f1, f2⟩ := lw_fin (A := A) (r := md_last A x + 1) J hio hgo q0 q2
    show X 10 _ (.int (iI (md_last A x + 1)) :: .int (iI 0) :: .ref out :: []) _ _ _
    refine qx_i2l C d_Z_put_10 ?_
    refine qx_last C d_Z_put_11 f1 (iI_in (by decide) (by decide) (by decide)) ?_
    refine qx_goto C d_Z_put_12 (tgt := 27) (by decide) ?_
    refine qx_iconst C d_Z_put_27 (v := iI (0)) rfl ?_
    refine qx_iret C d_Z_put_28 (Nat.le_of_ble_eq_true rfl) (Nat.le_of_ble_eq_true rfl) ⟨by rw [q0], f2⟩
set_option maxRecDepth 100000 in
theorem z_change (l : Launch) (G : qh_G) (b : Nat) {ad : Nat → Nat} {iv : Nat → Option Nat} (J : cl_I ad iv) {g : qh_H} {I : md_A} {m : Nat → Nat} {E : cl_E} {N : Nat → Nat} (hf : qt_f l) {A : md_A} (h : cr G iv g I m E N A) (hS : md_S A) {x on j : Int} (hx : rng x) (hon : rng on) (hj : j = 0 ∨ j = 1) {out : Nat} {f : Nat → Int64} (hio : iv out = none) (hgo : g out = some (lw_out G f)) (d : Nat) : qx_M l y_Z_change (Cond.codeWith y_Z_change c_Z_change 6 (some .int) [(0, 12, 15, 13), (0, 12, 19, 15), (0, 12, 23, 17)] :: qu_W) (qr (d + 8) 1 6) G b [.ref (ad 0), .int (iI x), .int (iI on), .int (iI j), .ref out] (ch G ad iv g I m E N) (fun oc h' => lw_q oc (md_changeE A x on j) (lw_E G ad iv g out A (md_changeE A x on j) (md_last A x + 1) (md_append A x 2 (ix (md_config A x) (one on)) 0)) h') := by
  refine qx_ofW (lo := [some (.ref (ad 0)), some (.int (iI x)), some (.int (iI on)), some (.int (iI j)), some (.ref out), none]) (by decide) (fun w hw => List.mem_cons_of_mem _ hw) rfl (Nat.le_of_ble_eq_true rfl) rfl ?_
  intro X C
  refine qx_aload C d_Z_change_0 rfl ?_
  refine qx_iconst C d_Z_change_2 (v := iI (0)) rfl ?_
  refine qx_aload_n C d_Z_change_3 rfl rfl ?_
  refine qx_iload_n C d_Z_change_4 rfl rfl ?_
  refine qx_iload_n C d_Z_change_5 rfl rfl ?_
  refine qx_iload_n C d_Z_change_6 rfl rfl ?_
  refine qx_runh C (s_Z_change_7 (ch_Q J)) (c_change l G b J hf h hS hx hon hj d) w_Q_change rfl rfl (Nat.le_of_ble_eq_true rfl) (qr_ok (by omega) (by decide) (by decide) (by decide)) (by decide) (fun a h' q => ?_) (fun v h' q => ?_)
  · rcases q with ⟨-, q, -⟩ | ⟨c, a', e1, e2, e3, e4, e5⟩
    · cases q
    · cases e3
      have hr := changeE_r A x on j
      have hT := lw_thr (A2 := md_append A x 2 (ix (md_config A x) (one on)) 0) (r := md_last A x + 1) (c := md_changeE A x on j) hgo (by omega) e5
      refine ⟨c, by omega, e4, ?_⟩
      have h3 : c = 1 ∨ c = 2 ∨ c = 3 := by omega
      rcases h3 with rfl | rfl | rfl
      · show X 15 _ _ _ _ _
        refine nx_astore C d_Z_change_15 (Nat.le_of_ble_eq_true rfl) (lo' := [_, _, _, _, _, some (.ref _)]) rfl ?_
        refine qx_iconst C d_Z_change_17 (v := iI (1)) rfl ?_
        refine qx_iret C d_Z_change_18 (Nat.le_of_ble_eq_true rfl) (Nat.le_of_ble_eq_true rfl) ⟨by rw [e1]; rfl, hT⟩
      · show X 19 _ _ _ _ _
        refine nx_astore C d_Z_change_19 (Nat.le_of_ble_eq_true rfl) (lo' := [_, _, _, _, _, some (.ref _)]) rfl ?_
        refine qx_iconst C d_Z_change_21 (v := iI (2)) rfl ?_
        refine qx_iret C d_Z_change_22 (Nat.le_of_ble_eq_true rfl) (Nat.le_of_ble_eq_true rfl) ⟨by rw [e1]; rfl, hT⟩
      · show X 23 _ _ _ _ _
        refine nx_astore C d_Z_change_23 (Nat.le_of_ble_eq_true rfl) (lo' := [_, _, _, _, _, some (.ref _)]) rfl ?_
        refine qx_iconst C d_Z_change_25 (v := iI (3)) rfl ?_
        refine qx_iret C d_Z_change_26 (Nat.le_of_ble_eq_true rfl) (Nat.le_of_ble_eq_true rfl) ⟨by rw [e1]; rfl, hT⟩
  · rcases q with ⟨q0, q1, q2⟩ | ⟨c, a', e1, e2, e3, e4, e5⟩
    rotate_left
    · cases e3
    cases q1
    obtain ⟨f1, f2⟩ := lw_fin (A := A) (r := md_last A x + 1) J hio hgo q0 q2
    show X 10 _ (.int (iI (md_last A x + 1)) :: .int (iI 0) :: .ref out :: []) _ _ _
    refine qx_i2l C d_Z_change_10 ?_
    refine qx_last C d_Z_change_11 f1 (iI_in (by decide) (by decide) (by decide)) ?_
    refine qx_goto C d_Z_change_12 (tgt := 27) (by decide) ?_
    refine qx_iconst C d_Z_change_27 (v := iI (0)) rfl ?_
    refine qx_iret C d_Z_change_28 (Nat.le_of_ble_eq_true rfl) (Nat.le_of_ble_eq_true rfl) ⟨by rw [q0], f2⟩
set_option maxRecDepth 100000 in
theorem z_read (l : Launch) (G : qh_G) (b : Nat) {ad : Nat → Nat} {iv : Nat → Option Nat} (J : cl_I ad iv) {g : qh_H} {I : md_A} {m : Nat → Nat} {E : cl_E} {N : Nat → Nat} (hf : qt_f l) {A : md_A} (h : cr G iv g I m E N A) (hS : md_S A) (hkk : md_Hk A) (hk4 : ∀ s : Nat, s < 5 → md_kept A s (A 21 0).toNat ≤ 4 ∧ rng (A 20 s + 1)) {x key : Int} (hx : rng x) (hk : rng key) {out : Nat} {f : Nat → Int64} (hio : iv out = none) (hgo : g out = some (lw_out G f)) (d : Nat) : qx_M l y_Z_read (Cond.codeWith y_Z_read c_Z_read 5 (some .int) [(0, 10, 13, 13), (0, 10, 17, 15), (0, 10, 21, 17)] :: qu_W) (qr (d + 8) 2 12) G b [.ref (ad 0), .int (iI x), .int (iI key), .ref out] (ch G ad iv g I m E N) (fun oc h' => lw_q oc (md_readE A x key) (lw_E G ad iv g out A (md_readE A x key) (A 21 0) (md_read A x key)) h') := by
  refine qx_ofW (lo := [some (.ref (ad 0)), some (.int (iI x)), some (.int (iI key)), some (.ref out), none]) (by decide) (fun w hw => List.mem_cons_of_mem _ hw) rfl (Nat.le_of_ble_eq_true rfl) rfl ?_
  intro X C
  refine qx_aload_n C d_Z_read_0 rfl rfl ?_
  refine qx_iconst C d_Z_read_1 (v := iI (0)) rfl ?_
  refine qx_aload_n C d_Z_read_2 rfl rfl ?_
  refine qx_iload_n C d_Z_read_3 rfl rfl ?_
  refine qx_iload_n C d_Z_read_4 rfl rfl ?_
  refine qx_runh C (s_Z_read_5 (ch_Q J)) (c_read l G b J hf h hS hkk hk4 hx hk d) w_Q_read rfl rfl (Nat.le_of_ble_eq_true rfl) (qr_ok (by omega) (by decide) (by decide) (by decide)) (by decide) (fun a h' q => ?_) (fun v h' q => ?_)
  · rcases q with ⟨-, q, -⟩ | ⟨c, a', e1, e2, e3, e4, e5⟩
    · cases q
    · cases e3
      have hr := readE_r A x key
      have hT := lw_thr (A2 := md_read A x key) (r := A 21 0) (c := md_readE A x key) hgo (by omega) e5
      refine ⟨c, by omega, e4, ?_⟩
      have h3 : c = 1 ∨ c = 2 ∨ c = 3 := by omega
      rcases h3 with rfl | rfl | rfl
      · show X 13 _ _ _ _ _
        refine nx_astore C d_Z_read_13 (Nat.le_of_ble_eq_true rfl) (lo' := [_, _, _, _, some (.ref _)]) rfl ?_
        refine qx_iconst C d_Z_read_15 (v := iI (1)) rfl ?_
        refine qx_iret C d_Z_read_16 (Nat.le_of_ble_eq_true rfl) (Nat.le_of_ble_eq_true rfl) ⟨by rw [e1]; rfl, hT⟩
      · show X 17 _ _ _ _ _
        refine nx_astore C d_Z_read_17 (Nat.le_of_ble_eq_true rfl) (lo' := [_, _, _, _, some (.ref _)]) rfl ?_
        refine qx_iconst C d_Z_read_19 (v := iI (2)) rfl ?_
        refine qx_iret C d_Z_read_20 (Nat.le_of_ble_eq_true rfl) (Nat.le_of_ble_eq_true rfl) ⟨by rw [e1]; rfl, hT⟩
      · show X 21 _ _ _ _ _
        refine nx_astore C d_Z_read_21 (Nat.le_of_ble_eq_true rfl) (lo' := [_, _, _, _, some (.ref _)]) rfl ?_
        refine qx_iconst C d_Z_read_23 (v := iI (3)) rfl ?_
        refine qx_iret C d_Z_read_24 (Nat.le_of_ble_eq_true rfl) (Nat.le_of_ble_eq_true rfl) ⟨by rw [e1]; rfl, hT⟩
  · rcases q with ⟨q0, q1, q2⟩ | ⟨c, a', e1, e2, e3, e4, e5⟩
    rotate_left
    · cases e3
    cases q1
    obtain ⟨f1, f2⟩ := lw_fin (A := A) (r := A 21 0) J hio hgo q0 q2
    show X 8 _ (.int (iI (A 21 0)) :: .int (iI 0) :: .ref out :: []) _ _ _
    refine qx_i2l C d_Z_read_8 ?_
    refine qx_last C d_Z_read_9 f1 (iI_in (by decide) (by decide) (by decide)) ?_
    refine qx_goto C d_Z_read_10 (tgt := 25) (by decide) ?_
    refine qx_iconst C d_Z_read_25 (v := iI (0)) rfl ?_
    refine qx_iret C d_Z_read_26 (Nat.le_of_ble_eq_true rfl) (Nat.le_of_ble_eq_true rfl) ⟨by rw [q0], f2⟩
