/-! the class: new entries and snapshots, a log cut behind a snapshot, entries copied into a message -/
theorem va_up_up {α : Type} (f : Nat → α) (k : Nat) (v w : α) : va_up (va_up f k v) k w = va_up f k w := by
  funext x
  unfold va_up
  by_cases h : x = k
  · rw [if_pos h, if_pos h]
  · rw [if_neg h, if_neg h, if_neg h]
theorem va_up_o {α : Type} (f : Nat → α) {k x : Nat} (v : α) (h : x ≠ k) : va_up f k v x = f x := if_neg h
set_option maxRecDepth 100000 in
theorem c_Einit (l : Launch) (G : qh_G) (b : Nat) {h : qh_H} {q : Nat} {w0 w1 w2 w3 : Value} (hq : h q = some (.inr (1, [w0, w1, w2, w3]))) {t so su va : Int} (d : Nat) : qv l y_E_init c_E_init 5 none (d + 1) 0 0 G b [.ref q, .int (iI t), .int (iI so), .int (iI su), .int (iI va)] h (va_up h q (some (.inr (1, [.int (iI t), .int (iI so), .int (iI su), .int (iI va)])))) := by
  refine qx_of (lo := [some (.ref q), some (.int (iI t)), some (.int (iI so)), some (.int (iI su)), some (.int (iI va))]) (by decide) (fun w hw => List.mem_cons_of_mem _ hw) rfl (Nat.le_of_ble_eq_true rfl) rfl ?_
  intro X C
  refine qx_aload_n C d_E_init_0 rfl rfl ?_
  refine qx_objI C d_E_init_1 oi_E_1 oi_1 oi_2 rfl (Nat.le_add_left 1 d) (by show 0 + 12 ≤ 32 * (d + 1); omega) ?_
  refine qx_aload_n C d_E_init_4 rfl rfl ?_
  refine qx_iload_n C d_E_init_5 rfl rfl ?_
  refine qx_putF C d_E_init_6 rfl fp_E_7 hq (Nat.le_of_ble_eq_true rfl) rfl rfl ?_
  refine qx_aload_n C d_E_init_9 rfl rfl ?_
  refine qx_iload_n C d_E_init_10 rfl rfl ?_
  refine qx_putF C d_E_init_11 rfl fp_E_13 (va_up_self _ _ _) (Nat.le_of_ble_eq_true rfl) rfl rfl ?_
  refine qx_aload_n C d_E_init_14 rfl rfl ?_
  refine qx_iload_n C d_E_init_15 rfl rfl ?_
  refine qx_putF C d_E_init_16 rfl fp_E_16 (va_up_self _ _ _) (Nat.le_of_ble_eq_true rfl) rfl rfl ?_
  refine qx_aload_n C d_E_init_19 rfl rfl ?_
  refine qx_iload C d_E_init_20 rfl ?_
  refine qx_putF C d_E_init_22 rfl fp_E_19 (va_up_self _ _ _) (Nat.le_of_ble_eq_true rfl) rfl rfl ?_
  rw [va_up_up, va_up_up, va_up_up]
  exact qx_vret C d_E_init_25 (Nat.zero_le _) (Nat.zero_le _) ⟨rfl, rfl⟩
set_option maxRecDepth 100000 in
theorem c_Ninit (l : Launch) (G : qh_G) (b : Nat) {h : qh_H} {q va : Nat} {w0 w1 w2 w3 : Value} (hq : h q = some (.inr (7, [w0, w1, w2, w3]))) {ix t me : Int} (d : Nat) : qv l y_N_init c_N_init 5 none (d + 1) 0 0 G b [.ref q, .int (iI ix), .int (iI t), .int (iI me), .ref va] h (va_up h q (some (.inr (7, [.int (iI ix), .int (iI t), .int (iI me), .ref va])))) := by
  refine qx_of (lo := [some (.ref q), some (.int (iI ix)), some (.int (iI t)), some (.int (iI me)), some (.ref va)]) (by decide) (fun w hw => List.mem_cons_of_mem _ hw) rfl (Nat.le_of_ble_eq_true rfl) rfl ?_
  intro X C
  refine qx_aload_n C d_N_init_0 rfl rfl ?_
  refine qx_objI C d_N_init_1 oi_N_1 oi_1 oi_2 rfl (Nat.le_add_left 1 d) (by show 0 + 12 ≤ 32 * (d + 1); omega) ?_
  refine qx_aload_n C d_N_init_4 rfl rfl ?_
  refine qx_iload_n C d_N_init_5 rfl rfl ?_
  refine qx_putF C d_N_init_6 rfl fp_N_7 hq (Nat.le_of_ble_eq_true rfl) rfl rfl ?_
  refine qx_aload_n C d_N_init_9 rfl rfl ?_
  refine qx_iload_n C d_N_init_10 rfl rfl ?_
  refine qx_putF C d_N_init_11 rfl fp_N_13 (va_up_self _ _ _) (Nat.le_of_ble_eq_true rfl) rfl rfl ?_
  refine qx_aload_n C d_N_init_14 rfl rfl ?_
  refine qx_iload_n C d_N_init_15 rfl rfl ?_
  refine qx_putF C d_N_init_16 rfl fp_N_16 (va_up_self _ _ _) (Nat.le_of_ble_eq_true rfl) rfl rfl ?_
  refine qx_aload_n C d_N_init_19 rfl rfl ?_
  refine qx_aload C d_N_init_20 rfl ?_
  refine qx_putF C d_N_init_22 rfl fp_N_19 (va_up_self _ _ _) (Nat.le_of_ble_eq_true rfl) rfl rfl ?_
  rw [va_up_up, va_up_up, va_up_up]
  exact qx_vret C d_N_init_25 (Nat.zero_le _) (Nat.zero_le _) ⟨rfl, rfl⟩
/-- the heap below has grown -/
def cr_g (g g' : qh_H) : Prop := ∀ a x, g a = some x → g' a = some x
theorem cr_g.rf (g : qh_H) : cr_g g g := fun _ _ h => h
theorem cr_g.tr {g g' g'' : qh_H} (h1 : cr_g g g') (h2 : cr_g g' g'') : cr_g g g'' := fun a x h => h2 a x (h1 a x h)
theorem cr_g.new {g g' : qh_H} (h : cr_g g g') {q : Nat} (hq : g q = none) {y : Option va_E} : cr_g g (va_up g' q y) := fun a x ha => by
  rw [va_up_o _ _ (fun e => by rw [e, hq] at ha; cases ha)]
  exact h a x ha
theorem cr_E.g {iv : Nat → Option Nat} {g g' : qh_H} (hg : cr_g g g') {r : Option Nat} {t so su va : Int} (h : cr_E iv g r t so su va) : cr_E iv g' r t so su va := by
  obtain ⟨a, h1, h2, h3⟩ := h
  exact ⟨a, h1, h2, hg _ _ h3⟩
theorem cr_N.g {G : qh_G} {iv : Nat → Option Nat} {g g' : qh_H} (hg : cr_g g g') {a : Nat} {ix t me : Int} {V : Int → Int} (h : cr_N G iv g a ix t me V) : cr_N G iv g' a ix t me V := by
  obtain ⟨h1, va, h2, h3, f, h4, h5⟩ := h
  exact ⟨h1, va, h2, hg _ _ h3, f, hg _ _ h4, h5⟩
theorem cr_L.g {G : qh_G} {iv : Nat → Option Nat} {g g' : qh_H} (hg : cr_g g g') {I : md_A} {E : cl_E} {N : Nat → Nat} {A : md_A} {s : Nat} (h : cr_L G iv g I E N A s) : cr_L G iv g' I E N A s := ⟨h.1, h.2.1.g hg, fun i hi => (h.2.2 i hi).g hg⟩
/-- a log depends on its own cells alone -/
theorem cr_L.cg {G : qh_G} {iv : Nat → Option Nat} {g : qh_H} {I I' : md_A} {E E' : cl_E} {N N' : Nat → Nat} {A A' : md_A} {s : Nat} (h : cr_L G iv g I E N A s) (hI : I' (20 + s) 2 = I (20 + s) 2) (hE : E' (30 + s) = E (30 + s)) (hN : N' (20 + s) = N (20 + s)) (hA : md_lg A A') : cr_L G iv g I' E' N' A' s := by
  obtain ⟨h1, h2, h3⟩ := h
  refine ⟨?_, ?_, fun i hi => ?_⟩
  · rw [hI, h1, hA 8 (by omega) (by omega)]
  · rw [hN, hA 4 (by omega) (by omega), hA 5 (by omega) (by omega), hA 6 (by omega) (by omega), hA 7 (by omega) (by omega)]
    exact h2
  · rw [hA 8 (by omega) (by omega)] at hi
    rw [hE, hA 9 (by omega) (by omega), hA 10 (by omega) (by omega), hA 11 (by omega) (by omega), hA 12 (by omega) (by omega)]
    exact h3 i hi
def cl_cp (E : cl_E) (s x k : Nat) : Nat → cl_E
  | 0 => E
  | j + 1 => cl_uE (cl_cp E s x k j) (200 + x) j (E (30 + s) (k + j))
theorem cl_cp_o (E : cl_E) (s x k : Nat) {a : Nat} (h : a ≠ 200 + x) : ∀ j, cl_cp E s x k j a = E a
  | 0 => rfl
  | j + 1 => (cl_uEk _ _ _ h).trans (cl_cp_o E s x k h j)
set_option maxRecDepth 100000 in
theorem c_copy (l : Launch) (G : qh_G) (b : Nat) {ad : Nat → Nat} {iv : Nat → Option Nat} (J : cl_I ad iv) {g : qh_H} {I : md_A} {m : Nat → Nat} {E : cl_E} {N : Nat → Nat} {A : md_A} {s : Nat} (hs : s < 5) (hL : cr_L G iv g I E N A s) (hB : md_B A s) {x : Nat} (hx : x < 50) {bf : Int} (hbf : A 4 s ≤ bf ∧ bf ≤ 2000000) {n : Nat} (hn : (n : Int) = if md_last A s < bf + 1 then 0 else if md_last A s < bf + 2 then 1 else 2) {kk : Nat} (hk : kk = (bf - A 4 s).toNat) (d : Nat) : qj l y_L_copyBehind c_L_copyBehind 5 (some .int) (d + 1) 0 0 G b [.ref (ad (20 + s)), .int (iI bf), .ref (ad (200 + x))] (ch G ad iv g I m E N) n (ch G ad iv g I m (cl_cp E s x kk n) N) := by
  have hl : md_last A s = A 4 s + A 8 s := rfl
  refine qx_of (lo := [some (.ref (ad (20 + s))), some (.int (iI bf)), some (.ref (ad (200 + x))), none, none]) (by decide) (fun w hw => List.mem_cons_of_mem _ hw) rfl (Nat.le_of_ble_eq_true rfl) rfl ?_
  intro X C
  have Lp : ∀ (f j : Nat) (l4 : Option Value), j + f = n → X 2 [some (.ref (ad (20 + s))), some (.int (iI bf)), some (.ref (ad (200 + x))), some (.int (iI j)), l4] [] (ch G ad iv g I m (cl_cp E s x kk j) N) 0 0 := by
    intro f
    induction f with
    | zero =>
      intro j l4 hj
      have hjn : j = n := by omega
      subst hjn
      have hL1 : cr_L G iv g I (cl_cp E s x kk j) N A s := hL.cg rfl (cl_cp_o E s x kk (by omega) j) rfl (md_lg.rf A)
      refine qx_iload_n C d_L_copyBehind_2 rfl rfl ?_
      refine qx_aload_n C d_L_copyBehind_3 rfl rfl ?_
      refine qx_alen C d_L_copyBehind_4 (ch_me J hx) rfl rfl ?_
      show X _ _ (.int (iI 2) :: _) _ _ _
      refine nx_icmp_ge C 37 d_L_copyBehind_5 (by decide) (by omega) (by omega) (fun z1 => ?_) (fun z1 => ?_)
      · refine qx_aload_n C d_L_copyBehind_37 rfl rfl ?_
        refine qx_alen C d_L_copyBehind_38 (ch_me J hx) rfl rfl ?_
        show X _ _ (.int (iI 2) :: _) _ _ _
        refine qx_iret C d_L_copyBehind_39 (Nat.zero_le _) (Nat.zero_le _) ⟨_, rfl, ?_, rfl⟩
        congr 1
        split at hn <;> (try split at hn) <;> omega
      · refine qx_aload_n C d_L_copyBehind_8 rfl rfl ?_
        refine qx_iload_n C d_L_copyBehind_9 rfl rfl ?_
        refine qx_iconst C d_L_copyBehind_10 (v := iI (1)) rfl ?_
        refine nx_iadd C d_L_copyBehind_11 ?_
        refine qx_iload_n C d_L_copyBehind_12 rfl rfl ?_
        refine nx_iadd C d_L_copyBehind_13 ?_
        refine nx_callq C (s_L_copyBehind_14 (ch_L J hs)) (c_find l G b J hs hL1 hB (by omega) (r := none) (by rw [if_neg (by split at hn <;> (try split at hn) <;> omega)]) d) w_L_find rfl rfl (Nat.le_of_ble_eq_true rfl) (by omega) (by decide) ?_
        show X _ _ (.null :: []) _ _ _
        refine nx_astoreN C d_L_copyBehind_17 (Nat.le_of_ble_eq_true rfl) (lo' := [_, _, _, _, some (.null)]) rfl ?_
        refine qx_aloadN C d_L_copyBehind_19 rfl ?_
        refine qx_ifnonnullN C d_L_copyBehind_21 ?_
        refine qx_iload_n C d_L_copyBehind_24 rfl rfl ?_
        refine qx_iret C d_L_copyBehind_25 (Nat.zero_le _) (Nat.zero_le _) ⟨_, rfl, ?_, rfl⟩
        rfl
    | succ f ih =>
      intro j l4 hj
      have hL1 : cr_L G iv g I (cl_cp E s x kk j) N A s := hL.cg rfl (cl_cp_o E s x kk (by omega) j) rfl (md_lg.rf A)
      have hjn : (j : Int) < n := by omega
      have hj2 : j < 2 ∧ bf + 1 + j ≤ md_last A s := by split at hn <;> (try split at hn) <;> omega
      obtain ⟨a, ha, hae⟩ := cr_he (G := G) (I := I) (m := m) (E := cl_cp E s x kk j) (N := N) J (hL.2.2 (kk + j) (by omega))
      refine qx_iload_n C d_L_copyBehind_2 rfl rfl ?_
      refine qx_aload_n C d_L_copyBehind_3 rfl rfl ?_
      refine qx_alen C d_L_copyBehind_4 (ch_me J hx) rfl rfl ?_
      show X _ _ (.int (iI 2) :: _) _ _ _
      refine nx_icmp_ge C 37 d_L_copyBehind_5 (by decide) (by omega) (by omega) (fun z1 => ?_) (fun z1 => ?_)
      · exact absurd z1 (by omega)
      · refine qx_aload_n C d_L_copyBehind_8 rfl rfl ?_
        refine qx_iload_n C d_L_copyBehind_9 rfl rfl ?_
        refine qx_iconst C d_L_copyBehind_10 (v := iI (1)) rfl ?_
        refine nx_iadd C d_L_copyBehind_11 ?_
        refine qx_iload_n C d_L_copyBehind_12 rfl rfl ?_
        refine nx_iadd C d_L_copyBehind_13 ?_
        refine nx_callq C (s_L_copyBehind_14 (ch_L J hs)) (c_find l G b J hs hL1 hB (by omega) (r := some a) (by rw [if_pos (by omega), cl_cp_o E s x kk (by omega) j, ← ha]; congr 1; omega) d) w_L_find rfl rfl (Nat.le_of_ble_eq_true rfl) (by omega) (by decide) ?_
        show X _ _ (.ref a :: []) _ _ _
        refine nx_astore C d_L_copyBehind_17 (Nat.le_of_ble_eq_true rfl) (lo' := [_, _, _, _, some (.ref _)]) rfl ?_
        refine qx_aload C d_L_copyBehind_19 rfl ?_
        refine qx_ifnonnull C d_L_copyBehind_21 (tgt := 26) (by decide) ?_
        refine qx_aload_n C d_L_copyBehind_26 rfl rfl ?_
        refine qx_iload_n C d_L_copyBehind_27 rfl rfl ?_
        refine qx_aload C d_L_copyBehind_28 rfl ?_
        refine cx_sm C J hx d_L_copyBehind_30 (by omega) (by omega) hae ?_
        refine nx_iinc C d_L_copyBehind_31 rfl (lo' := [_, _, _, some (.int _), _]) rfl ?_
        refine qx_goto C d_L_copyBehind_34 (tgt := 2) (by decide) ?_
        have e : cl_uE (cl_cp E s x kk j) (200 + x) (j : Int).toNat (some a) = cl_cp E s x kk (j + 1) := by
          rw [← ha]
          rfl
        rw [e]
        exact ih (j + 1) _ (by omega)
  refine qx_iconst C d_L_copyBehind_0 (v := iI (0)) rfl ?_
  refine nx_istore_n C d_L_copyBehind_1 rfl (Nat.le_of_ble_eq_true rfl) (lo' := [_, _, _, some (.int _), _]) rfl ?_
  exact Lp n 0 _ (by omega)
