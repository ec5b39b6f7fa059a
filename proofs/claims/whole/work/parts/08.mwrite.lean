/-! the reference: what it writes -/
/-- the places from lo to hi of one array anew -/
def md_w (A : md_A) (k : Nat) (lo hi : Int) (f : Int → Int) : md_A := fun j x => if j = k ∧ lo ≤ x ∧ x < hi then f x else A j x
theorem md_w_0 (A : md_A) (k : Nat) (lo : Int) (f : Int → Int) : md_w A k lo lo f = A := by
  funext j x
  exact if_neg (by omega)
theorem md_w_s (A : md_A) (k : Nat) {lo hi : Int} (f : Int → Int) {v : Int} (h : lo ≤ hi) (hv : v = f hi) : md_u (md_w A k lo hi f) k hi v = md_w A k lo (hi + 1) f := by
  funext j x
  unfold md_u md_w
  by_cases h1 : j = k ∧ x = hi
  · obtain ⟨rfl, rfl⟩ := h1
    rw [if_pos ⟨rfl, rfl⟩, if_pos (by omega), hv]
  · rw [if_neg h1]
    by_cases h2 : j = k ∧ lo ≤ x ∧ x < hi
    · rw [if_pos h2, if_pos (by omega)]
    · rw [if_neg h2, if_neg (by omega)]
theorem md_w_k (A : md_A) (k : Nat) {lo hi : Int} (f : Int → Int) (hf : f hi = A k hi) : md_w A k lo (hi + 1) f = md_w A k lo hi f := by
  funext j x
  unfold md_w
  by_cases h2 : j = k ∧ lo ≤ x ∧ x < hi
  · rw [if_pos h2, if_pos (by omega)]
  · rw [if_neg h2]
    by_cases h1 : j = k ∧ lo ≤ x ∧ x < hi + 1
    · rw [if_pos h1]
      obtain ⟨rfl, h3, h4⟩ := h1
      rw [show x = hi by omega, hf]
    · rw [if_neg h1]
theorem md_wk {A : md_A} {k j : Nat} {lo hi x : Int} {f : Int → Int} (h : j ≠ k) : md_w A k lo hi f j x = A j x := if_neg (fun q => h q.1)
theorem md_wo {A : md_A} {k j : Nat} {lo hi x : Int} {f : Int → Int} (h : x < lo ∨ hi ≤ x) : md_w A k lo hi f j x = A j x := if_neg (fun q => by omega)
theorem md_wi {A : md_A} {k : Nat} {lo hi x : Int} {f : Int → Int} (h : lo ≤ x ∧ x < hi) : md_w A k lo hi f k x = f x := if_pos ⟨rfl, h⟩
def md_push (A : md_A) (s t so ke va : Int) : md_A := md_u (md_u (md_u (md_u (md_u A 9 (48 * s + A 8 s) t) 10 (48 * s + A 8 s) so) 11 (48 * s + A 8 s) ke) 12 (48 * s + A 8 s) va) 8 s (A 8 s + 1)
def md_begin (A : md_A) (kind fr to t : Int) : md_A := md_u (md_u (md_u (md_u (md_w A 29 0 20 (fun _ => 0)) 29 0 kind) 29 1 fr) 29 2 to) 29 3 t
def md_post (A : md_A) : md_A := if A 27 0 = 48 then A else md_u (md_w A 28 (20 * A 27 0) (20 * A 27 0 + 20) (fun x => A 29 (x - 20 * A 27 0))) 27 0 (A 27 0 + 1)
def md_reply (A : md_A) (kind fr to good t : Int) : md_A := md_post (md_u (md_begin A kind fr to t) 29 6 (if good = 0 then 0 else 1))
def md_result (A : md_A) (fr to good i r : Int) : md_A := md_post (md_u (md_u (md_u (md_begin A 5 fr to (A 2 fr)) 29 4 i) 29 6 (if good = 0 then 0 else 1)) 29 9 r)
def md_follow (A : md_A) (s : Int) : md_A := if A 13 s = 3 then md_w (md_u A 13 s 0) 25 0 (A 21 0) (fun x => if A 22 x = s ∧ A 25 x = 0 then 2 else A 25 x) else md_u A 13 s 0
def md_newTerm (A : md_A) (s t : Int) : md_A := md_follow (md_u (md_u A 2 s t) 3 s (-1)) s
def md_take (A : md_A) (k : Int) : md_A := md_u (md_w A 28 (20 * k) (20 * A 27 0 - 20) (fun x => A 28 (x + 20))) 27 0 (A 27 0 - 1)
def md_sh (A : md_A) (lo : Int) (n : Nat) (gone : Int) : md_A := fun j x => if (j = 9 ∨ j = 10 ∨ j = 11 ∨ j = 12) ∧ lo ≤ x ∧ x < lo + n then A j (x + gone) else A j x
def md_shift (A : md_A) (s i : Int) : md_A := md_u (md_sh A (48 * s) (A 8 s - (i - A 4 s)).toNat (i - A 4 s)) 8 s (A 8 s - (i - A 4 s))
def md_lies (A : md_A) (i t s : Int) : Int := if t < md_termAt A s (md_last A s) ∨ (t = md_termAt A s (md_last A s) ∧ i < md_last A s) then 1 else 0
theorem md_sh_0 (A : md_A) (lo gone : Int) : md_sh A lo 0 gone = A := by
  funext j x
  exact if_neg (by omega)
theorem md_sh_r {A : md_A} {lo gone : Int} {n : Nat} {j : Nat} {x : Int} (h : lo + n ≤ x) : md_sh A lo n gone j x = A j x := if_neg (by omega)
theorem md_sh_s (A : md_A) (lo gone : Int) (n : Nat) {p : Int} (hp : p = lo + n) : md_u (md_u (md_u (md_u (md_sh A lo n gone) 9 p (A 9 (p + gone))) 10 p (A 10 (p + gone))) 11 p (A 11 (p + gone))) 12 p (A 12 (p + gone)) = md_sh A lo (n + 1) gone := by
  subst hp
  funext j x
  by_cases hx : x = lo + n
  · subst hx
    by_cases h9 : j = 9
    · subst h9; rw [md_uk (by decide), md_uk (by decide), md_uk (by decide), md_us]; exact (if_pos (by omega)).symm
    by_cases h10 : j = 10
    · subst h10; rw [md_uk (by decide), md_uk (by decide), md_us]; exact (if_pos (by omega)).symm
    by_cases h11 : j = 11
    · subst h11; rw [md_uk (by decide), md_us]; exact (if_pos (by omega)).symm
    by_cases h12 : j = 12
    · subst h12; rw [md_us]; exact (if_pos (by omega)).symm
    rw [md_uk h12, md_uk h11, md_uk h10, md_uk h9]
    unfold md_sh
    rw [if_neg (by omega), if_neg (by omega)]
  · rw [md_ui hx, md_ui hx, md_ui hx, md_ui hx]
    unfold md_sh
    by_cases h2 : (j = 9 ∨ j = 10 ∨ j = 11 ∨ j = 12) ∧ lo ≤ x ∧ x < lo + n
    · rw [if_pos h2, if_pos (by omega)]
    · rw [if_neg h2, if_neg (by omega)]
set_option maxRecDepth 100000 in
theorem m_push (l : Launch) (G : qh_G) (b : Nat) {o : Nat} {ad : Nat → Nat} {iv : Nat → Option Nat} (I : md_I o ad iv) (g : qh_H) {A : md_A} {s t so ke va : Int} (hs : 0 ≤ s ∧ s < 5) (hz : 0 ≤ A 8 s ∧ A 8 s < 48) (d : Nat) : qv l y_D_push c_D_push 7 none d 0 0 G b [.ref o, .int (iI s), .int (iI t), .int (iI so), .int (iI ke), .int (iI va)] (md_h G o ad iv g A) (md_h G o ad iv g (md_push A s t so ke va)) := by
  refine qx_of (lo := [some (.ref o), some (.int (iI s)), some (.int (iI t)), some (.int (iI so)), some (.int (iI ke)), some (.int (iI va)), none]) (by decide) (fun w hw => List.mem_cons_of_mem _ hw) rfl (Nat.le_of_ble_eq_true rfl) rfl ?_
  intro X C
  refine qx_bipush C d_D_push_0 (v := iI (48)) (by decide) ?_
  refine qx_iload_n C d_D_push_2 rfl rfl ?_
  refine nx_imul C d_D_push_3 ?_
  refine qx_aload_n C d_D_push_4 rfl rfl ?_
  refine mx_gi C d_D_push_5 fl_D_32 rfl ?_
  refine qx_iload_n C d_D_push_8 rfl rfl ?_
  refine mx_ia C I 8 5 d_D_push_9 (by unfold md_a; omega) rfl rfl (by omega) (by omega) ?_
  refine nx_iadd C d_D_push_10 ?_
  refine nx_istore C d_D_push_11 (Nat.le_of_ble_eq_true rfl) (lo' := [_, _, _, _, _, _, some (.int _)]) rfl ?_
  refine qx_aload_n C d_D_push_13 rfl rfl ?_
  refine mx_gi C d_D_push_14 fl_D_35 rfl ?_
  refine qx_iload C d_D_push_17 rfl ?_
  refine qx_iload_n C d_D_push_19 rfl rfl ?_
  refine mx_is C I 9 240 d_D_push_20 (by unfold md_a; omega) rfl rfl (by omega) (by omega) ?_
  refine qx_aload_n C d_D_push_21 rfl rfl ?_
  refine mx_gi C d_D_push_22 fl_D_38 rfl ?_
  refine qx_iload C d_D_push_25 rfl ?_
  refine qx_iload_n C d_D_push_27 rfl rfl ?_
  refine mx_is C I 10 240 d_D_push_28 (by unfold md_a; omega) rfl rfl (by omega) (by omega) ?_
  refine qx_aload_n C d_D_push_29 rfl rfl ?_
  refine mx_gi C d_D_push_30 fl_D_41 rfl ?_
  refine qx_iload C d_D_push_33 rfl ?_
  refine qx_iload C d_D_push_35 rfl ?_
  refine mx_is C I 11 240 d_D_push_37 (by unfold md_a; omega) rfl rfl (by omega) (by omega) ?_
  refine qx_aload_n C d_D_push_38 rfl rfl ?_
  refine mx_gi C d_D_push_39 fl_D_44 rfl ?_
  refine qx_iload C d_D_push_42 rfl ?_
  refine qx_iload C d_D_push_44 rfl ?_
  refine mx_is C I 12 240 d_D_push_46 (by unfold md_a; omega) rfl rfl (by omega) (by omega) ?_
  refine qx_aload_n C d_D_push_47 rfl rfl ?_
  refine mx_gi C d_D_push_48 fl_D_32 rfl ?_
  refine qx_iload_n C d_D_push_51 rfl rfl ?_
  refine qx_dup2 C d_D_push_52 rfl rfl ?_
  refine mx_ia C I 8 5 d_D_push_53 (by unfold md_a; omega) rfl rfl (by omega) (by omega) ?_
  refine qx_iconst C d_D_push_54 (v := iI (1)) rfl ?_
  refine nx_iadd C d_D_push_55 ?_
  refine mx_is C I 8 5 d_D_push_56 (by unfold md_a; omega) rfl rfl (by omega) (by omega) ?_
  exact qx_vret C d_D_push_57 (Nat.zero_le _) (Nat.zero_le _) ⟨rfl, rfl⟩
set_option maxRecDepth 100000 in
theorem m_begin (l : Launch) (G : qh_G) (b : Nat) {o : Nat} {ad : Nat → Nat} {iv : Nat → Option Nat} (I : md_I o ad iv) (g : qh_H) (A : md_A) {kind fr to t : Int} (d : Nat) : qv l y_D_begin c_D_begin 6 none d 0 0 G b [.ref o, .int (iI kind), .int (iI fr), .int (iI to), .int (iI t)] (md_h G o ad iv g A) (md_h G o ad iv g (md_begin A kind fr to t)) := by
  refine qx_of (lo := [some (.ref o), some (.int (iI kind)), some (.int (iI fr)), some (.int (iI to)), some (.int (iI t)), none]) (by decide) (fun w hw => List.mem_cons_of_mem _ hw) rfl (Nat.le_of_ble_eq_true rfl) rfl ?_
  intro X C
  have L : ∀ (r : Nat) (q : Int) (B : md_A), q + r = 20 → 0 ≤ q → B = md_w A 29 0 q (fun _ => 0) → X 3 [some (.ref o), some (.int (iI kind)), some (.int (iI fr)), some (.int (iI to)), some (.int (iI t)), some (.int (iI q))] [] (md_h G o ad iv g B) 0 0 := by
    intro r
    induction r with
    | zero =>
      intro q B hq h0 hB
      refine qx_iload C d_D_begin_3 rfl ?_
      refine qx_bipush C d_D_begin_5 (v := iI (20)) (by decide) ?_
      refine nx_icmp_ge C 24 d_D_begin_7 (by decide) (by omega) (by omega) (fun hc => ?_) (fun hc => ?_)
      · refine qx_aload_n C d_D_begin_24 rfl rfl ?_
        refine mx_gi C d_D_begin_25 fl_D_89 rfl ?_
        refine qx_iconst C d_D_begin_28 (v := iI (0)) rfl ?_
        refine qx_iload_n C d_D_begin_29 rfl rfl ?_
        refine mx_is C I 29 20 d_D_begin_30 (by unfold md_a; omega) rfl rfl (by omega) (by omega) ?_
        refine qx_aload_n C d_D_begin_31 rfl rfl ?_
        refine mx_gi C d_D_begin_32 fl_D_89 rfl ?_
        refine qx_iconst C d_D_begin_35 (v := iI (1)) rfl ?_
        refine qx_iload_n C d_D_begin_36 rfl rfl ?_
        refine mx_is C I 29 20 d_D_begin_37 (by unfold md_a; omega) rfl rfl (by omega) (by omega) ?_
        refine qx_aload_n C d_D_begin_38 rfl rfl ?_
        refine mx_gi C d_D_begin_39 fl_D_89 rfl ?_
        refine qx_iconst C d_D_begin_42 (v := iI (2)) rfl ?_
        refine qx_iload_n C d_D_begin_43 rfl rfl ?_
        refine mx_is C I 29 20 d_D_begin_44 (by unfold md_a; omega) rfl rfl (by omega) (by omega) ?_
        refine qx_aload_n C d_D_begin_45 rfl rfl ?_
        refine mx_gi C d_D_begin_46 fl_D_89 rfl ?_
        refine qx_iconst C d_D_begin_49 (v := iI (3)) rfl ?_
        refine qx_iload C d_D_begin_50 rfl ?_
        refine mx_is C I 29 20 d_D_begin_52 (by unfold md_a; omega) rfl rfl (by omega) (by omega) ?_
        refine qx_vret C d_D_begin_53 (Nat.zero_le _) (Nat.zero_le _) ⟨rfl, ?_⟩
        rw [hB, show q = 20 by omega]
        rfl
      · exact absurd hc (by omega)
    | succ r ih =>
      intro q B hq h0 hB
      refine qx_iload C d_D_begin_3 rfl ?_
      refine qx_bipush C d_D_begin_5 (v := iI (20)) (by decide) ?_
      refine nx_icmp_ge C 24 d_D_begin_7 (by decide) (by omega) (by omega) (fun hc => ?_) (fun hc => ?_)
      · exact absurd hc (by omega)
      · refine qx_aload_n C d_D_begin_10 rfl rfl ?_
        refine mx_gi C d_D_begin_11 fl_D_89 rfl ?_
        refine qx_iload C d_D_begin_14 rfl ?_
        refine qx_iconst C d_D_begin_16 (v := iI (0)) rfl ?_
        refine mx_is C I 29 20 d_D_begin_17 (by unfold md_a; omega) rfl rfl (by omega) (by omega) ?_
        refine nx_iinc C d_D_begin_18 rfl (lo' := [_, _, _, _, _, some (.int _)]) rfl ?_
        refine qx_goto C d_D_begin_21 (tgt := 3) (by decide) ?_
        exact ih _ _ (by omega) (by omega) (by rw [hB]; exact md_w_s A 29 _ h0 rfl)
  refine qx_iconst C d_D_begin_0 (v := iI (0)) rfl ?_
  refine nx_istore C d_D_begin_1 (Nat.le_of_ble_eq_true rfl) (lo' := [_, _, _, _, _, some (.int _)]) rfl ?_
  exact L 20 0 _ (by omega) (by omega) (md_w_0 A 29 0 _).symm
set_option maxRecDepth 100000 in
theorem m_post (l : Launch) (G : qh_G) (b : Nat) {o : Nat} {ad : Nat → Nat} {iv : Nat → Option Nat} (I : md_I o ad iv) (g : qh_H) {A : md_A} (hw : 0 ≤ A 27 0 ∧ A 27 0 ≤ 48) (d : Nat) : qv l y_D_post c_D_post 2 none d 0 0 G b [.ref o] (md_h G o ad iv g A) (md_h G o ad iv g (md_post A)) := by
  refine qx_of (lo := [some (.ref o), none]) (by decide) (fun w hw => List.mem_cons_of_mem _ hw) rfl (Nat.le_of_ble_eq_true rfl) rfl ?_
  intro X C
  refine qx_aload_n C d_D_post_0 rfl rfl ?_
  refine mx_gi C d_D_post_1 fl_D_119 rfl ?_
  refine qx_bipush C d_D_post_4 (v := iI (48)) (by decide) ?_
  refine nx_icmp_ne C 10 d_D_post_6 (by decide) (by omega) (by omega) (fun hc => ?_) (fun hc => ?_)
  · have L : ∀ (r : Nat) (q : Int) (B : md_A), q + r = 20 → 0 ≤ q → B = md_w A 28 (20 * A 27 0) (20 * A 27 0 + q) (fun x => A 29 (x - 20 * A 27 0)) → X 12 [some (.ref o), some (.int (iI q))] [] (md_h G o ad iv g B) 0 0 := by
      intro r
      induction r with
      | zero =>
        intro q B hq h0 hB
        have e1 : B 27 0 = A 27 0 := by rw [hB]; exact md_wk (by decide)
        refine qx_iload_n C d_D_post_12 rfl rfl ?_
        refine qx_bipush C d_D_post_13 (v := iI (20)) (by decide) ?_
        refine nx_icmp_ge C 44 d_D_post_15 (by decide) (by omega) (by omega) (fun h1 => ?_) (fun h1 => ?_)
        · refine qx_aload_n C d_D_post_44 rfl rfl ?_
          refine qx_dup C d_D_post_45 rfl ?_
          refine mx_gi C d_D_post_46 fl_D_119 rfl ?_
          refine qx_iconst C d_D_post_49 (v := iI (1)) rfl ?_
          refine nx_iadd C d_D_post_50 ?_
          refine mx_pi C I d_D_post_51 fp_D_119 (by decide) ?_
          refine qx_vret C d_D_post_54 (Nat.zero_le _) (Nat.zero_le _) ⟨rfl, ?_⟩
          unfold md_post
          rw [if_neg hc, e1, hB, show q = 20 by omega]
        · exact absurd h1 (by omega)
      | succ r ih =>
        intro q B hq h0 hB
        have e1 : B 27 0 = A 27 0 := by rw [hB]; exact md_wk (by decide)
        have e2 : B 29 q = A 29 q := by rw [hB]; exact md_wk (by decide)
        refine qx_iload_n C d_D_post_12 rfl rfl ?_
        refine qx_bipush C d_D_post_13 (v := iI (20)) (by decide) ?_
        refine nx_icmp_ge C 44 d_D_post_15 (by decide) (by omega) (by omega) (fun h1 => ?_) (fun h1 => ?_)
        · exact absurd h1 (by omega)
        · refine qx_aload_n C d_D_post_18 rfl rfl ?_
          refine mx_gi C d_D_post_19 fl_D_86 rfl ?_
          refine qx_bipush C d_D_post_22 (v := iI (20)) (by decide) ?_
          refine qx_aload_n C d_D_post_24 rfl rfl ?_
          refine mx_gi C d_D_post_25 fl_D_119 rfl ?_
          refine nx_imul C d_D_post_28 ?_
          refine qx_iload_n C d_D_post_29 rfl rfl ?_
          refine nx_iadd C d_D_post_30 ?_
          refine qx_aload_n C d_D_post_31 rfl rfl ?_
          refine mx_gi C d_D_post_32 fl_D_89 rfl ?_
          refine qx_iload_n C d_D_post_35 rfl rfl ?_
          refine mx_ia C I 29 20 d_D_post_36 (by unfold md_a; omega) rfl rfl (by omega) (by omega) ?_
          refine mx_is C I 28 960 d_D_post_37 (by unfold md_a; omega) rfl rfl (by omega) (by omega) ?_
          refine nx_iinc C d_D_post_38 rfl (lo' := [_, some (.int _)]) rfl ?_
          refine qx_goto C d_D_post_41 (tgt := 12) (by decide) ?_
          refine ih _ _ (by omega) (by omega) ?_
          rw [e1, e2, hB, show 20 * A 27 0 + (q + 1) = 20 * A 27 0 + q + 1 by omega]
          exact md_w_s A 28 _ (by omega) (by rw [show 20 * A 27 0 + q - 20 * A 27 0 = q by omega])
    refine qx_iconst C d_D_post_10 (v := iI (0)) rfl ?_
    refine nx_istore_n C d_D_post_11 rfl (Nat.le_of_ble_eq_true rfl) (lo' := [_, some (.int _)]) rfl ?_
    exact L 20 0 _ (by omega) (by omega) (by rw [show 20 * A 27 0 + 0 = 20 * A 27 0 by omega]; exact (md_w_0 A 28 _ _).symm)
  · refine qx_vret C d_D_post_9 (Nat.zero_le _) (Nat.zero_le _) ⟨rfl, ?_⟩
    unfold md_post
    rw [if_pos hc]
