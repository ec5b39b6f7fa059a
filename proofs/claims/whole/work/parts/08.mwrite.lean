/-! the reference: what it writes -/
/-- the places from lo to hi of one array anew -/
def md_w (A : md_A) (k : Nat) (lo hi : Int) (f : Int → Int) : md_A := fun j x => if j = k ∧ lo ≤ x ∧ x < hi then f x else A j x
theorem md_w_0 (A : md_A) (k : Nat) (lo : Int) (f : Int → Int) : md_w A k lo lo f = A := by
  funext j x
  exact if_neg (by omega)
theorem md_w_s (A : md_A) (k : Nat) {lo hi : Int} (f : Int → Int) {v : Int} (h : lo ≤ hi) (hv : v = f hi) : md_u (md_w A k lo hi f) k hi v = md_w A k lo (hi + 1) f := by
  funext j x
  unfold md_u md_w
  by_cases h1 : j = k ∧ x = hi
  · obtain ⟨rfl, rfl⟩ := h1
    rw [if_pos ⟨rfl, rfl⟩, if_pos (by omega), hv]
  · rw [if_neg h1]
    by_cases h2 : j = k ∧ lo ≤ x ∧ x < hi
    · rw [if_pos h2, if_pos (by omega)]
    · rw [if_neg h2, if_neg (by omega)]
theorem md_w_k (A : md_A) (k : Nat) {lo hi : Int} (f : Int → Int) (hf : f hi = A k hi) : md_w A k lo (hi + 1) f = md_w A k lo hi f := by
  funext j x
  unfold md_w
  by_cases h2 : j = k ∧ lo ≤ x ∧ x < hi
  · rw [if_pos h2, if_pos (by omega)]
  · rw [if_neg h2]
    by_cases h1 : j = k ∧ lo ≤ x ∧ x < hi + 1
    · rw [if_pos h1]
      obtain ⟨rfl, h3, h4⟩ := h1
      rw [show x = hi by omega, hf]
    · rw [if_neg h1]
theorem md_wk {A : md_A} {k j : Nat} {lo hi x : Int} {f : Int → Int} (h : j ≠ k) : md_w A k lo hi f j x = A j x := if_neg (fun q => h q.1)
theorem md_wo {A : md_A} {k j : Nat} {lo hi x : Int} {f : Int → Int} (h : x < lo ∨ hi ≤ x) : md_w A k lo hi f j x = A j x := if_neg (fun q => by omega)
theorem md_wi {A : md_A} {k : Nat} {lo hi x : Int} {f : Int → Int} (h : lo ≤ x ∧ x < hi) : md_w A k lo hi f k x = f x := if_pos ⟨rfl, h⟩
def md_push (A : md_A) (s t so ke va : Int) : md_A := md_u (md_u (md_u (md_u (md_u A 9 (48 * s + A 8 s) t) 10 (48 * s + A 8 s) so) 11 (48 * s + A 8 s) ke) 12 (48 * s + A 8 s) va) 8 s (A 8 s + 1)
def md_begin (A : md_A) (kind fr to t : Int) : md_A := md_u (md_u (md_u (md_u (md_w A 29 0 20 (fun _ => 0)) 29 0 kind) 29 1 fr) 29 2 to) 29 3 t
def md_post (A : md_A) : md_A := if A 27 0 = 48 then A else md_u (md_w A 28 (20 * A 27 0) (20 * A 27 0 + 20) (fun x => A 29 (x - 20 * A 27 0))) 27 0 (A 27 0 + 1)
def md_reply (A : md_A) (kind fr to good t : Int) : md_A := md_post (md_u (md_begin A kind fr to t) 29 6 (if good = 0 then 0 else 1))
def md_result (A : md_A) (fr to good i r : Int) : md_A := md_post (md_u (md_u (md_u (md_begin A 5 fr to (A 2 fr)) 29 4 i) 29 6 (if good = 0 then 0 else 1)) 29 9 r)
def md_follow (A : md_A) (s : Int) : md_A := if A 13 s = 3 then md_w (md_u A 13 s 0) 25 0 (A 21 0) (fun x => if A 22 x = s ∧ A 25 x = 0 then 2 else A 25 x) else md_u A 13 s 0
def md_newTerm (A : md_A) (s t : Int) : md_A := md_follow (md_u (md_u A 2 s t) 3 s (-1)) s
def md_take (A : md_A) (k : Int) : md_A := md_u (md_w A 28 (20 * k) (20 * A 27 0 - 20) (fun x => A 28 (x + 20))) 27 0 (A 27 0 - 1)
def md_sh (A : md_A) (lo : Int) (n : Nat) (gone : Int) : md_A := fun j x => if (j = 9 ∨ j = 10 ∨ j = 11 ∨ j = 12) ∧ lo ≤ x ∧ x < lo + n then A j (x + gone) else A j x
def md_shift (A : md_A) (s i : Int) : md_A := md_u (md_sh A (48 * s) (A 8 s - (i - A 4 s)).toNat (i - A 4 s)) 8 s (A 8 s - (i - A 4 s))
def md_lies (A : md_A) (i t s : Int) : Int := if t < md_termAt A s (md_last A s) ∨ (t = md_termAt A s (md_last A s) ∧ i < md_last A s) then 1 else 0
theorem md_sh_0 (A : md_A) (lo gone : Int) : md_sh A lo 0 gone = A := by
  funext j x
  exact if_neg (by omega)
theorem md_sh_r {A : md_A} {lo gone : Int} {n : Nat} {j : Nat} {x : Int} (h : lo + n ≤ x) : md_sh A lo n gone j x = A j x := if_neg (by omega)
theorem md_sh_s (A : md_A) (lo gone : Int) (n : Nat) {p : Int} (hp : p = lo + n) : md_u (md_u (md_u (md_u (md_sh A lo n gone) 9 p (A 9 (p + gone))) 10 p (A 10 (p + gone))) 11 p (A 11 (p + gone))) 12 p (A 12 (p + gone)) = md_sh A lo (n + 1) gone := by
  subst hp
  funext j x
  by_cases hx : x = lo + n
  · subst hx
    by_cases h9 : j = 9
    · subst h9; rw [md_uk (by decide), md_uk (by decide), md_uk (by decide), md_us]; exact (if_pos (by omega)).symm
    by_cases h10 : j = 10
    · subst h10; rw [md_uk (by decide), md_uk (by decide), md_us]; exact (if_pos (by omega)).symm
    by_cases h11 : j = 11
    · subst h11; rw [md_uk (by decide), md_us]; exact (if_pos (by omega)).symm
    by_cases h12 : j = 12
    · subst h12; rw [md_us]; exact (if_pos (by omega)).symm
    rw [md_uk h12, md_uk h11, md_uk h10, md_uk h9]
    unfold md_sh
    rw [if_neg (by omega), if_neg (by omega)]
  · rw [md_ui hx, md_ui hx, md_ui hx, md_ui hx]
    unfold md_sh
    by_cases h2 : (j = 9 ∨ j = 10 ∨ j = 11 ∨ j = 12) ∧ lo ≤ x ∧ x < lo + n
    · rw [if_pos h2, if_pos (by omega)]
    · rw [if_neg h2, if_neg (by omega)]
set_option maxRecDepth 100000 in
theorem m_push (l : Launch) (G : qh_G) (b : Nat) {o : Nat} {ad : Nat → Nat} {iv : Nat → Option Nat} (I : md_I o ad iv) (g : qh_H) {A : md_A} {s t so ke va : Int} (hs : 0 ≤ s ∧ s < 5) (hz : 0 ≤ A 8 s ∧ A 8 s < 48) (d : Nat) : qv l y_D_push c_D_push 7 none d 0 0 G b [.ref o, .int (iI s), .int (iI t), .int (iI so), .int (iI ke), .int (iI va)] (md_h G o ad iv g A) (md_h G o ad iv g (md_push A s t so ke va)) := by
  refine qx_of (lo := [some (.ref o), some (.int (iI s)), some (.int (iI t)), some (.int (iI so)), some (.int (iI ke)), some (.int (iI va)), none]) (by decide) (fun w hw => List.mem_cons_of_mem _ hw) rfl (Nat.le_of_ble_eq_true rfl) rfl ?_
  intro X C
  refine qx_bipush C d_D_push_0 (v := iI (48)) (by decide) ?_
  refine qx_iload_n C d_D_push_2 rfl rfl ?_
  refine nx_imul C d_D_push_3 ?_
  refine qx_aload_n C d_D_push_4 rfl rfl ?_
  refine mx_gi C d_D_push_5 fl_D_32 rfl ?_
  refine qx_iload_n C d_D_push_8 rfl rfl ?_
  refine mx_ia C I 8 5 d_D_push_9 (by unfold md_a; omega) rfl rfl (by omega) (by omega) ?_
  refine nx_iadd C d_D_push_10 ?_
  refine nx_istore C d_D_push_11 (Nat.le_of_ble_eq_true rfl) (lo' := [_, _, _, _, _, _, some (.int _)]) rfl ?_
  refine qx_aload_n C d_D_push_13 rfl rfl ?_
  refine mx_gi C d_D_push_14 fl_D_35 rfl ?_
  refine qx_iload C d_D_push_17 rfl ?_
  refine qx_iload_n C d_D_push_19 rfl rfl ?_
  refine mx_is C I 9 240 d_D_push_20 (by unfold md_a; omega) rfl rfl (by omega) (by omega) ?_
  refine qx_aload_n C d_D_push_21 rfl rfl ?_
  refine mx_gi C d_D_push_22 fl_D_38 rfl ?_
  refine qx_iload C d_D_push_25 rfl ?_
  refine qx_iload_n C d_D_push_27 rfl rfl ?_
  refine mx_is C I 10 240 d_D_push_28 (by unfold md_a; omega) rfl rfl (by omega) (by omega) ?_
  refine qx_aload_n C d_D_push_29 rfl rfl ?_
  refine mx_gi C d_D_push_30 fl_D_41 rfl ?_
  refine qx_iload C d_D_push_33 rfl ?_
  refine qx_iload C d_D_push_35 rfl ?_
  refine mx_is C I 11 240 d_D_push_37 (by unfold md_a; omega) rfl rfl (by omega) (by omega) ?_
  refine qx_aload_n C d_D_push_38 rfl rfl ?_
  refine mx_gi C d_D_push_39 fl_D_44 rfl ?_
  refine qx_iload C d_D_push_42 rfl ?_
  refine qx_iload C d_D_push_44 rfl ?_
  refine mx_is C I 12 240 d_D_push_46 (by unfold md_a; omega) rfl rfl (by omega) (by omega) ?_
  refine qx_aload_n C d_D_push_47 rfl rfl ?_
  refine mx_gi C d_D_push_48 fl_D_32 rfl ?_
  refine qx_iload_n C d_D_push_51 rfl rfl ?_
  refine qx_dup2 C d_D_push_52 rfl rfl ?_
  refine mx_ia C I 8 5 d_D_push_53 (by unfold md_a; omega) rfl rfl (by omega) (by omega) ?_
  refine qx_iconst C d_D_push_54 (v := iI (1)) rfl ?_
  refine nx_iadd C d_D_push_55 ?_
  refine mx_is C I 8 5 d_D_push_56 (by unfold md_a; omega) rfl rfl (by omega) (by omega) ?_
  exact qx_vret C d_D_push_57 (Nat.zero_le _) (Nat.zero_le _) ⟨rfl, rfl⟩
set_option maxRecDepth 100000 in
theorem m_begin (l : Launch) (G : qh_G) (b : Nat) {o : Nat} {ad : Nat → Nat} {iv : Nat → Option Nat} (I : md_I o ad iv) (g : qh_H) (A : md_A) {kind fr to t : Int} (d : Nat) : qv l y_D_begin c_D_begin 6 none d 0 0 G b [.ref o, .int (iI kind), .int (iI fr), .int (iI to), .int (iI t)] (md_h G o ad iv g A) (md_h G o ad iv g (md_begin A kind fr to t)) := by
  refine qx_of (lo := [some (.ref o), some (.int (iI kind)), some (.int (iI fr)), some (.int (iI to)), some (.int (iI t)), none]) (by decide) (fun w hw => List.mem_cons_of_mem _ hw) rfl (Nat.le_of_ble_eq_true rfl) rfl ?_
  intro X C
  have L : ∀ (r : Nat) (q : Int) (B : md_A), q + r = 20 → 0 ≤ q → B = md_w A 29 0 q (fun _ => 0) → X 3 [some (.ref o), some (.int (iI kind)), some (.int (iI fr)), some (.int (iI to)), some (.int (iI t)), some (.int (iI q))] [] (md_h G o ad iv g B) 0 0 := by
    intro r
    induction r with
    | zero =>
      intro q B hq h0 hB
      refine qx_iload C d_D_begin_3 rfl ?_
      refine qx_bipush C d_D_begin_5 (v := iI (20)) (by decide) ?_
      refine nx_icmp_ge C 24 d_D_begin_7 (by decide) (by omega) (by omega) (fun hc => ?_) (fun hc => ?_)
      · refine qx_aload_n C d_D_begin_24 rfl rfl ?_
        refine mx_gi C d_D_begin_25 fl_D_89 rfl ?_
        refine qx_iconst C d_D_begin_28 (v := iI (0)) rfl ?_
        refine qx_iload_n C d_D_begin_29 rfl rfl ?_
        refine mx_is C I 29 20 d_D_begin_30 (by unfold md_a; omega) rfl rfl (by omega) (by omega) ?_
        refine qx_aload_n C d_D_begin_31 rfl rfl ?_
        refine mx_gi C d_D_begin_32 fl_D_89 rfl ?_
        refine qx_iconst C d_D_begin_35 (v := iI (1)) rfl ?_
        refine qx_iload_n C d_D_begin_36 rfl rfl ?_
        refine mx_is C I 29 20 d_D_begin_37 (by unfold md_a; omega) rfl rfl (by omega) (by omega) ?_
        refine qx_aload_n C d_D_begin_38 rfl rfl ?_
        refine mx_gi C d_D_begin_39 fl_D_89 rfl ?_
        refine qx_iconst C d_D_begin_42 (v := iI (2)) rfl ?_
        refine qx_iload_n C d_D_begin_43 rfl rfl ?_
        refine mx_is C I 29 20 d_D_begin_44 (by unfold md_a; omega) rfl rfl (by omega) (by omega) ?_
        refine qx_aload_n C d_D_begin_45 rfl rfl ?_
        refine mx_gi C d_D_begin_46 fl_D_89 rfl ?_
        refine qx_iconst C d_D_begin_49 (v := iI (3)) rfl ?_
        refine qx_iload C d_D_begin_50 rfl ?_
        refine mx_is C I 29 20 d_D_begin_52 (by unfold md_a; omega) rfl rfl (by omega) (by omega) ?_
        refine qx_vret C d_D_begin_53 (Nat.zero_le _) (Nat.zero_le _) ⟨rfl, ?_⟩
        rw [hB, show q = 20 by omega]
        rfl
      · exact absurd hc (by omega)
    | succ r ih =>
      intro q B hq h0 hB
      refine qx_iload C d_D_begin_3 rfl ?_
      refine qx_bipush C d_D_begin_5 (v := iI (20)) (by decide) ?_
      refine nx_icmp_ge C 24 d_D_begin_7 (by decide) (by omega) (by omega) (fun hc => ?_) (fun hc => ?_)
      · exact absurd hc (by omega)
      · refine qx_aload_n C d_D_begin_10 rfl rfl ?_
        refine mx_gi C d_D_begin_11 fl_D_89 rfl ?_
        refine qx_iload C d_D_begin_14 rfl ?_
        refine qx_iconst C d_D_begin_16 (v := iI (0)) rfl ?_
        refine mx_is C I 29 20 d_D_begin_17 (by unfold md_a; omega) rfl rfl (by omega) (by omega) ?_
        refine nx_iinc C d_D_begin_18 rfl (lo' := [_, _, _, _, _, some (.int _)]) rfl ?_
        refine qx_goto C d_D_begin_21 (tgt := 3) (by decide) ?_
        exact ih _ _ (by omega) (by omega) (by rw [hB]; exact md_w_s A 29 _ h0 rfl)
  refine qx_iconst C d_D_begin_0 (v := iI (0)) rfl ?_
  refine nx_istore C d_D_begin_1 (Nat.le_of_ble_eq_true rfl) (lo' := [_, _, _, _, _, some (.int _)]) rfl ?_
  exact L 20 0 _ (by omega) (by omega) (md_w_0 A 29 0 _).symm
set_option maxRecDepth 100000 in
theorem m_post (l : Launch) (G : qh_G) (b : Nat) {o : Nat} {ad : Nat → Nat} {iv : Nat → Option Nat} (I : md_I o ad iv) (g : qh_H) {A : md_A} (hw : 0 ≤ A 27 0 ∧ A 27 0 ≤ 48) (d : Nat) : qv l y_D_post c_D_post 2 none d 0 0 G b [.ref o] (md_h G o ad iv g A) (md_h G o ad iv g (md_post A)) := by
  refine qx_of (lo := [some (.ref o), none]) (by decide) (fun w hw => List.mem_cons_of_mem _ hw) rfl (Nat.le_of_ble_eq_true rfl) rfl ?_
  intro X C
  refine qx_aload_n C d_D_post_0 rfl rfl ?_
  refine mx_gi C d_D_post_1 fl_D_119 rfl ?_
  refine qx_bipush C d_D_post_4 (v := iI (48)) (by decide) ?_
  refine nx_icmp_ne C 10 d_D_post_6 (by decide) (by omega) (by omega) (fun hc => ?_) (fun hc => ?_)
  · have L : ∀ (r : Nat) (q : Int) (B : md_A), q + r = 20 → 0 ≤ q → B = md_w A 28 (20 * A 27 0) (20 * A 27 0 + q) (fun x => A 29 (x - 20 * A 27 0)) → X 12 [some (.ref o), some (.int (iI q))] [] (md_h G o ad iv g B) 0 0 := by
      intro r
      induction r with
      | zero =>
        intro q B hq h0 hB
        have e1 : B 27 0 = A 27 0 := by rw [hB]; exact md_wk (by decide)
        refine qx_iload_n C d_D_post_12 rfl rfl ?_
        refine qx_bipush C d_D_post_13 (v := iI (20)) (by decide) ?_
        refine nx_icmp_ge C 44 d_D_post_15 (by decide) (by omega) (by omega) (fun h1 => ?_) (fun h1 => ?_)
        · refine qx_aload_n C d_D_post_44 rfl rfl ?_
          refine qx_dup C d_D_post_45 rfl ?_
          refine mx_gi C d_D_post_46 fl_D_119 rfl ?_
          refine qx_iconst C d_D_post_49 (v := iI (1)) rfl ?_
          refine nx_iadd C d_D_post_50 ?_
          refine mx_pi C I d_D_post_51 fp_D_119 (by decide) ?_
          refine qx_vret C d_D_post_54 (Nat.zero_le _) (Nat.zero_le _) ⟨rfl, ?_⟩
          unfold md_post
          rw [if_neg hc, e1, hB, show q = 20 by omega]
        · exact absurd h1 (by omega)
      | succ r ih =>
        intro q B hq h0 hB
        have e1 : B 27 0 = A 27 0 := by rw [hB]; exact md_wk (by decide)
        have e2 : B 29 q = A 29 q := by rw [hB]; exact md_wk (by decide)
        refine qx_iload_n C d_D_post_12 rfl rfl ?_
        refine qx_bipush C d_D_post_13 (v := iI (20)) (by decide) ?_
        refine nx_icmp_ge C 44 d_D_post_15 (by decide) (by omega) (by omega) (fun h1 => ?_) (fun h1 => ?_)
        · exact absurd h1 (by omega)
        · refine qx_aload_n C d_D_post_18 rfl rfl ?_
          refine mx_gi C d_D_post_19 fl_D_86 rfl ?_
          refine qx_bipush C d_D_post_22 (v := iI (20)) (by decide) ?_
          refine qx_aload_n C d_D_post_24 rfl rfl ?_
          refine mx_gi C d_D_post_25 fl_D_119 rfl ?_
          refine nx_imul C d_D_post_28 ?_
          refine qx_iload_n C d_D_post_29 rfl rfl ?_
          refine nx_iadd C d_D_post_30 ?_
          refine qx_aload_n C d_D_post_31 rfl rfl ?_
          refine mx_gi C d_D_post_32 fl_D_89 rfl ?_
          refine qx_iload_n C d_D_post_35 rfl rfl ?_
          refine mx_ia C I 29 20 d_D_post_36 (by unfold md_a; omega) rfl rfl (by omega) (by omega) ?_
          refine mx_is C I 28 960 d_D_post_37 (by unfold md_a; omega) rfl rfl (by omega) (by omega) ?_
          refine nx_iinc C d_D_post_38 rfl (lo' := [_, some (.int _)]) rfl ?_
          refine qx_goto C d_D_post_41 (tgt := 12) (by decide) ?_
          refine ih _ _ (by omega) (by omega) ?_
          rw [e1, e2, hB, show 20 * A 27 0 + (q + 1) = 20 * A 27 0 + q + 1 by omega]
          exact md_w_s A 28 _ (by omega) (by rw [show 20 * A 27 0 + q - 20 * A 27 0 = q by omega])
    refine qx_iconst C d_D_post_10 (v := iI (0)) rfl ?_
    refine nx_istore_n C d_D_post_11 rfl (Nat.le_of_ble_eq_true rfl) (lo' := [_, some (.int _)]) rfl ?_
    exact L 20 0 _ (by omega) (by omega) (by rw [show 20 * A 27 0 + 0 = 20 * A 27 0 by omega]; exact (md_w_0 A 28 _ _).symm)
  · refine qx_vret C d_D_post_9 (Nat.zero_le _) (Nat.zero_le _) ⟨rfl, ?_⟩
    unfold md_post
    rw [if_pos hc]
theorem md_begin_k {A : md_A} {kind fr to t i : Int} {k : Nat} (h : k ≠ 29) : md_begin A kind fr to t k i = A k i := by
  unfold md_begin
  rw [md_uk h, md_uk h, md_uk h, md_uk h, md_wk h]
theorem md_post_k {A : md_A} {k : Nat} {i : Int} (h : k ≠ 27 ∧ k ≠ 28) : md_post A k i = A k i := by
  unfold md_post
  split
  · rfl
  · rw [md_uk h.1, md_wk h.2]
theorem md_post_w {A : md_A} (hw : 0 ≤ A 27 0 ∧ A 27 0 ≤ 48) : 0 ≤ md_post A 27 0 ∧ md_post A 27 0 ≤ 48 := by
  unfold md_post
  split
  · omega
  · rw [md_us]; omega
set_option maxRecDepth 100000 in
theorem m_reply (l : Launch) (G : qh_G) (b : Nat) {o : Nat} {ad : Nat → Nat} {iv : Nat → Option Nat} (I : md_I o ad iv) (g : qh_H) {A : md_A} {kind fr to good t : Int} (hg : rng good) (hw : 0 ≤ A 27 0 ∧ A 27 0 ≤ 48) (d : Nat) : qv l y_D_reply c_D_reply 6 none (d + 1) 0 0 G b [.ref o, .int (iI kind), .int (iI fr), .int (iI to), .int (iI good), .int (iI t)] (md_h G o ad iv g A) (md_h G o ad iv g (md_reply A kind fr to good t)) := by
  have e1 : ∀ v, 0 ≤ md_u (md_begin A kind fr to t) 29 6 v 27 0 ∧ md_u (md_begin A kind fr to t) 29 6 v 27 0 ≤ 48 := fun v => by rw [md_uk (by decide), md_begin_k (by decide)]; exact hw
  refine qx_of (lo := [some (.ref o), some (.int (iI kind)), some (.int (iI fr)), some (.int (iI to)), some (.int (iI good)), some (.int (iI t))]) (by decide) (fun w hw => List.mem_cons_of_mem _ hw) rfl (Nat.le_of_ble_eq_true rfl) rfl ?_
  intro X C
  refine qx_aload_n C d_D_reply_0 rfl rfl ?_
  refine qx_iload_n C d_D_reply_1 rfl rfl ?_
  refine qx_iload_n C d_D_reply_2 rfl rfl ?_
  refine qx_iload_n C d_D_reply_3 rfl rfl ?_
  refine qx_iload C d_D_reply_4 rfl ?_
  refine nx_callv C (s_D_reply_6 md_o) (m_begin l G b I g A d) w_D_begin rfl rfl (Nat.le_of_ble_eq_true rfl) (by omega) (by decide) ?_
  refine qx_aload_n C d_D_reply_9 rfl rfl ?_
  refine mx_gi C d_D_reply_10 fl_D_89 rfl ?_
  refine qx_bipush C d_D_reply_13 (v := iI (6)) (by decide) ?_
  refine qx_iload C d_D_reply_15 rfl ?_
  refine nx_if_eq C 24 d_D_reply_17 (by decide) (by omega) (fun hc => ?_) (fun hc => ?_)
  · refine qx_iconst C d_D_reply_24 (v := iI (0)) rfl ?_
    refine mx_is C I 29 20 d_D_reply_25 (by unfold md_a; omega) rfl rfl (by omega) (by omega) ?_
    refine qx_aload_n C d_D_reply_26 rfl rfl ?_
    refine nx_callv C (s_D_reply_27 md_o) (m_post l G b I g (e1 _) d) w_D_post rfl rfl (Nat.le_of_ble_eq_true rfl) (by omega) (by decide) ?_
    refine qx_vret C d_D_reply_30 (Nat.zero_le _) (Nat.zero_le _) ⟨rfl, ?_⟩
    unfold md_reply
    rw [if_pos hc]
  · refine qx_iconst C d_D_reply_20 (v := iI (1)) rfl ?_
    refine qx_goto C d_D_reply_21 (tgt := 25) (by decide) ?_
    refine mx_is C I 29 20 d_D_reply_25 (by unfold md_a; omega) rfl rfl (by omega) (by omega) ?_
    refine qx_aload_n C d_D_reply_26 rfl rfl ?_
    refine nx_callv C (s_D_reply_27 md_o) (m_post l G b I g (e1 _) d) w_D_post rfl rfl (Nat.le_of_ble_eq_true rfl) (by omega) (by decide) ?_
    refine qx_vret C d_D_reply_30 (Nat.zero_le _) (Nat.zero_le _) ⟨rfl, ?_⟩
    unfold md_reply
    rw [if_neg hc]
set_option maxRecDepth 100000 in
theorem m_result (l : Launch) (G : qh_G) (b : Nat) {o : Nat} {ad : Nat → Nat} {iv : Nat → Option Nat} (I : md_I o ad iv) (g : qh_H) {A : md_A} {fr to good i r : Int} (hf : 0 ≤ fr ∧ fr < 5) (hg : rng good) (hw : 0 ≤ A 27 0 ∧ A 27 0 ≤ 48) (d : Nat) : qv l y_D_result c_D_result 6 none (d + 1) 0 0 G b [.ref o, .int (iI fr), .int (iI to), .int (iI good), .int (iI i), .int (iI r)] (md_h G o ad iv g A) (md_h G o ad iv g (md_result A fr to good i r)) := by
  have e1 : ∀ v, 0 ≤ md_u (md_u (md_u (md_begin A 5 fr to (A 2 fr)) 29 4 i) 29 6 v) 29 9 r 27 0 ∧ md_u (md_u (md_u (md_begin A 5 fr to (A 2 fr)) 29 4 i) 29 6 v) 29 9 r 27 0 ≤ 48 := fun v => by rw [md_uk (by decide), md_uk (by decide), md_uk (by decide), md_begin_k (by decide)]; exact hw
  refine qx_of (lo := [some (.ref o), some (.int (iI fr)), some (.int (iI to)), some (.int (iI good)), some (.int (iI i)), some (.int (iI r))]) (by decide) (fun w hw => List.mem_cons_of_mem _ hw) rfl (Nat.le_of_ble_eq_true rfl) rfl ?_
  intro X C
  refine qx_aload_n C d_D_result_0 rfl rfl ?_
  refine qx_iconst C d_D_result_1 (v := iI (5)) rfl ?_
  refine qx_iload_n C d_D_result_2 rfl rfl ?_
  refine qx_iload_n C d_D_result_3 rfl rfl ?_
  refine qx_aload_n C d_D_result_4 rfl rfl ?_
  refine mx_gi C d_D_result_5 fl_D_13 rfl ?_
  refine qx_iload_n C d_D_result_8 rfl rfl ?_
  refine mx_ia C I 2 5 d_D_result_9 (by unfold md_a; omega) rfl rfl (by omega) (by omega) ?_
  refine nx_callv C (s_D_result_10 md_o) (m_begin l G b I g A d) w_D_begin rfl rfl (Nat.le_of_ble_eq_true rfl) (by omega) (by decide) ?_
  refine qx_aload_n C d_D_result_13 rfl rfl ?_
  refine mx_gi C d_D_result_14 fl_D_89 rfl ?_
  refine qx_iconst C d_D_result_17 (v := iI (4)) rfl ?_
  refine qx_iload C d_D_result_18 rfl ?_
  refine mx_is C I 29 20 d_D_result_20 (by unfold md_a; omega) rfl rfl (by omega) (by omega) ?_
  refine qx_aload_n C d_D_result_21 rfl rfl ?_
  refine mx_gi C d_D_result_22 fl_D_89 rfl ?_
  refine qx_bipush C d_D_result_25 (v := iI (6)) (by decide) ?_
  refine qx_iload_n C d_D_result_27 rfl rfl ?_
  refine nx_if_eq C 35 d_D_result_28 (by decide) (by omega) (fun hc => ?_) (fun hc => ?_)
  · refine qx_iconst C d_D_result_35 (v := iI (0)) rfl ?_
    refine mx_is C I 29 20 d_D_result_36 (by unfold md_a; omega) rfl rfl (by omega) (by omega) ?_
    refine qx_aload_n C d_D_result_37 rfl rfl ?_
    refine mx_gi C d_D_result_38 fl_D_89 rfl ?_
    refine qx_bipush C d_D_result_41 (v := iI (9)) (by decide) ?_
    refine qx_iload C d_D_result_43 rfl ?_
    refine mx_is C I 29 20 d_D_result_45 (by unfold md_a; omega) rfl rfl (by omega) (by omega) ?_
    refine qx_aload_n C d_D_result_46 rfl rfl ?_
    refine nx_callv C (s_D_result_47 md_o) (m_post l G b I g (e1 _) d) w_D_post rfl rfl (Nat.le_of_ble_eq_true rfl) (by omega) (by decide) ?_
    refine qx_vret C d_D_result_50 (Nat.zero_le _) (Nat.zero_le _) ⟨rfl, ?_⟩
    unfold md_result
    rw [if_pos hc]
  · refine qx_iconst C d_D_result_31 (v := iI (1)) rfl ?_
    refine qx_goto C d_D_result_32 (tgt := 36) (by decide) ?_
    refine mx_is C I 29 20 d_D_result_36 (by unfold md_a; omega) rfl rfl (by omega) (by omega) ?_
    refine qx_aload_n C d_D_result_37 rfl rfl ?_
    refine mx_gi C d_D_result_38 fl_D_89 rfl ?_
    refine qx_bipush C d_D_result_41 (v := iI (9)) (by decide) ?_
    refine qx_iload C d_D_result_43 rfl ?_
    refine mx_is C I 29 20 d_D_result_45 (by unfold md_a; omega) rfl rfl (by omega) (by omega) ?_
    refine qx_aload_n C d_D_result_46 rfl rfl ?_
    refine nx_callv C (s_D_result_47 md_o) (m_post l G b I g (e1 _) d) w_D_post rfl rfl (Nat.le_of_ble_eq_true rfl) (by omega) (by decide) ?_
    refine qx_vret C d_D_result_50 (Nat.zero_le _) (Nat.zero_le _) ⟨rfl, ?_⟩
    unfold md_result
    rw [if_neg hc]
set_option maxRecDepth 100000 in
theorem m_follow (l : Launch) (G : qh_G) (b : Nat) {o : Nat} {ad : Nat → Nat} {iv : Nat → Option Nat} (I : md_I o ad iv) (g : qh_H) {A : md_A} (hA : md_r A) {s : Int} (hs : 0 ≤ s ∧ s < 5) (hr : 0 ≤ A 21 0 ∧ A 21 0 ≤ 60) (d : Nat) : qv l y_D_follow c_D_follow 4 none d 0 0 G b [.ref o, .int (iI s)] (md_h G o ad iv g A) (md_h G o ad iv g (md_follow A s)) := by
  have h13 := hA 13 s
  have e21 : md_u A 13 s 0 21 0 = A 21 0 := md_uk (by decide)
  refine qx_of (lo := [some (.ref o), some (.int (iI s)), none, none]) (by decide) (fun w hw => List.mem_cons_of_mem _ hw) rfl (Nat.le_of_ble_eq_true rfl) rfl ?_
  intro X C
  refine qx_aload_n C d_D_follow_0 rfl rfl ?_
  refine mx_gi C d_D_follow_1 fl_D_47 rfl ?_
  refine qx_iload_n C d_D_follow_4 rfl rfl ?_
  refine mx_ia C I 13 5 d_D_follow_5 (by unfold md_a; omega) rfl rfl (by omega) (by omega) ?_
  refine qx_iconst C d_D_follow_6 (v := iI (3)) rfl ?_
  refine nx_icmp_ne C 14 d_D_follow_7 (by decide) (by omega) (by omega) (fun hc => ?_) (fun hc => ?_)
  · refine qx_iconst C d_D_follow_14 (v := iI (0)) rfl ?_
    refine nx_istore_n C d_D_follow_15 rfl (Nat.le_of_ble_eq_true rfl) (lo' := [_, _, some (.int _), _]) rfl ?_
    refine qx_aload_n C d_D_follow_16 rfl rfl ?_
    refine mx_gi C d_D_follow_17 fl_D_47 rfl ?_
    refine qx_iload_n C d_D_follow_20 rfl rfl ?_
    refine qx_iconst C d_D_follow_21 (v := iI (0)) rfl ?_
    refine mx_is C I 13 5 d_D_follow_22 (by unfold md_a; omega) rfl rfl (by omega) (by omega) ?_
    refine qx_iconst C d_D_follow_23 (v := iI (0)) rfl ?_
    refine nx_istore_n C d_D_follow_24 rfl (Nat.le_of_ble_eq_true rfl) (lo' := [_, _, _, some (.int _)]) rfl ?_
    refine qx_iload_n C d_D_follow_25 rfl rfl ?_
    refine qx_aload_n C d_D_follow_26 rfl rfl ?_
    refine mx_gi C d_D_follow_27 fl_D_136 rfl ?_
    refine nx_icmp_ge C 69 d_D_follow_30 (by decide) (by omega) (by omega) (fun h1 => ?_) (fun h1 => ?_)
    · refine qx_vret C d_D_follow_69 (Nat.zero_le _) (Nat.zero_le _) ⟨rfl, ?_⟩
      unfold md_follow
      rw [if_neg hc]
    · refine qx_iload_n C d_D_follow_33 rfl rfl ?_
      refine nx_if_eq C 69 d_D_follow_34 (by decide) (by omega) (fun h2 => ?_) (fun h2 => ?_)
      · refine qx_vret C d_D_follow_69 (Nat.zero_le _) (Nat.zero_le _) ⟨rfl, ?_⟩
        unfold md_follow
        rw [if_neg hc]
      · exact absurd rfl h2
  · have L : ∀ (r : Nat) (q : Int) (B : md_A), q + r = A 21 0 → 0 ≤ q → B = md_w (md_u A 13 s 0) 25 0 q (fun x => if A 22 x = s ∧ A 25 x = 0 then 2 else A 25 x) → X 25 [some (.ref o), some (.int (iI s)), some (.int (iI 1)), some (.int (iI q))] [] (md_h G o ad iv g B) 0 0 := by
      intro r
      induction r with
      | zero =>
        intro q B hq h0 hB
        have e1 : B 21 0 = A 21 0 := by rw [hB, md_wk (by decide)]; exact e21
        refine qx_iload_n C d_D_follow_25 rfl rfl ?_
        refine qx_aload_n C d_D_follow_26 rfl rfl ?_
        refine mx_gi C d_D_follow_27 fl_D_136 rfl ?_
        refine nx_icmp_ge C 69 d_D_follow_30 (by decide) (by omega) (by omega) (fun h1 => ?_) (fun h1 => ?_)
        · refine qx_vret C d_D_follow_69 (Nat.zero_le _) (Nat.zero_le _) ⟨rfl, ?_⟩
          unfold md_follow
          rw [if_pos hc, hB, show q = A 21 0 by omega]
        · exact absurd h1 (by omega)
      | succ r ih =>
        intro q B hq h0 hB
        have e1 : B 21 0 = A 21 0 := by rw [hB, md_wk (by decide)]; exact e21
        have e2 : B 22 q = A 22 q := by rw [hB, md_wk (by decide), md_uk (by decide)]
        have e3 : B 25 q = A 25 q := by rw [hB, md_wo (by omega), md_uk (by decide)]
        have h22 := hA 22 q
        have h25 := hA 25 q
        have e4 : md_u A 13 s 0 25 q = A 25 q := md_uk (by decide)
        refine qx_iload_n C d_D_follow_25 rfl rfl ?_
        refine qx_aload_n C d_D_follow_26 rfl rfl ?_
        refine mx_gi C d_D_follow_27 fl_D_136 rfl ?_
        refine nx_icmp_ge C 69 d_D_follow_30 (by decide) (by omega) (by omega) (fun h1 => ?_) (fun h1 => ?_)
        · exact absurd h1 (by omega)
        · refine qx_iload_n C d_D_follow_33 rfl rfl ?_
          refine nx_if_eq C 69 d_D_follow_34 (by decide) (by omega) (fun h2 => ?_) (fun h2 => ?_)
          · exact absurd h2 (by decide)
          · refine qx_aload_n C d_D_follow_37 rfl rfl ?_
            refine mx_gi C d_D_follow_38 fl_D_71 rfl ?_
            refine qx_iload_n C d_D_follow_41 rfl rfl ?_
            refine mx_ia C I 22 60 d_D_follow_42 (by unfold md_a; omega) rfl rfl (by omega) (by omega) ?_
            refine qx_iload_n C d_D_follow_43 rfl rfl ?_
            refine nx_icmp_ne C 63 d_D_follow_44 (by decide) (by omega) (by omega) (fun h3 => ?_) (fun h3 => ?_)
            · refine nx_iinc C d_D_follow_63 rfl (lo' := [_, _, _, some (.int _)]) rfl ?_
              refine qx_goto C d_D_follow_66 (tgt := 25) (by decide) ?_
              refine ih _ _ (by omega) (by omega) ?_
              rw [hB]
              exact (md_w_k _ 25 _ (by rw [if_neg (fun z => h3 (by rw [e2]; exact z.1))]; exact e4.symm)).symm
            · refine qx_aload_n C d_D_follow_47 rfl rfl ?_
              refine mx_gi C d_D_follow_48 fl_D_80 rfl ?_
              refine qx_iload_n C d_D_follow_51 rfl rfl ?_
              refine mx_ia C I 25 60 d_D_follow_52 (by unfold md_a; omega) rfl rfl (by omega) (by omega) ?_
              refine nx_if_ne C 63 d_D_follow_53 (by decide) (by omega) (fun h5 => ?_) (fun h5 => ?_)
              · refine nx_iinc C d_D_follow_63 rfl (lo' := [_, _, _, some (.int _)]) rfl ?_
                refine qx_goto C d_D_follow_66 (tgt := 25) (by decide) ?_
                refine ih _ _ (by omega) (by omega) ?_
                rw [hB]
                exact (md_w_k _ 25 _ (by rw [if_neg (fun z => h5 (by rw [e3]; exact z.2))]; exact e4.symm)).symm
              · refine qx_aload_n C d_D_follow_56 rfl rfl ?_
                refine mx_gi C d_D_follow_57 fl_D_80 rfl ?_
                refine qx_iload_n C d_D_follow_60 rfl rfl ?_
                refine qx_iconst C d_D_follow_61 (v := iI (2)) rfl ?_
                refine mx_is C I 25 60 d_D_follow_62 (by unfold md_a; omega) rfl rfl (by omega) (by omega) ?_
                refine nx_iinc C d_D_follow_63 rfl (lo' := [_, _, _, some (.int _)]) rfl ?_
                refine qx_goto C d_D_follow_66 (tgt := 25) (by decide) ?_
                refine ih _ _ (by omega) (by omega) ?_
                rw [hB]
                exact md_w_s _ 25 _ h0 (by rw [if_pos ⟨by omega, by omega⟩])
    refine qx_iconst C d_D_follow_10 (v := iI (1)) rfl ?_
    refine qx_goto C d_D_follow_11 (tgt := 15) (by decide) ?_
    refine nx_istore_n C d_D_follow_15 rfl (Nat.le_of_ble_eq_true rfl) (lo' := [_, _, some (.int _), _]) rfl ?_
    refine qx_aload_n C d_D_follow_16 rfl rfl ?_
    refine mx_gi C d_D_follow_17 fl_D_47 rfl ?_
    refine qx_iload_n C d_D_follow_20 rfl rfl ?_
    refine qx_iconst C d_D_follow_21 (v := iI (0)) rfl ?_
    refine mx_is C I 13 5 d_D_follow_22 (by unfold md_a; omega) rfl rfl (by omega) (by omega) ?_
    refine qx_iconst C d_D_follow_23 (v := iI (0)) rfl ?_
    refine nx_istore_n C d_D_follow_24 rfl (Nat.le_of_ble_eq_true rfl) (lo' := [_, _, _, some (.int _)]) rfl ?_
    exact L (A 21 0).toNat 0 _ (by omega) (by omega) (md_w_0 _ 25 0 _).symm
theorem md_r_u {A : md_A} (hA : md_r A) {k : Nat} {i v : Int} (hv : rng v) : md_r (md_u A k i v) := fun j x => by
  unfold md_u
  split
  · exact hv
  · exact hA j x
set_option maxRecDepth 100000 in
theorem m_newTerm (l : Launch) (G : qh_G) (b : Nat) {o : Nat} {ad : Nat → Nat} {iv : Nat → Option Nat} (I : md_I o ad iv) (g : qh_H) {A : md_A} (hA : md_r A) {s t : Int} (hs : 0 ≤ s ∧ s < 5) (ht : rng t) (hr : 0 ≤ A 21 0 ∧ A 21 0 ≤ 60) (d : Nat) : qv l y_D_newTerm c_D_newTerm 3 none (d + 1) 0 0 G b [.ref o, .int (iI s), .int (iI t)] (md_h G o ad iv g A) (md_h G o ad iv g (md_newTerm A s t)) := by
  have e1 : md_u (md_u A 2 s t) 3 s (-1) 21 0 = A 21 0 := by rw [md_uk (by decide), md_uk (by decide)]
  refine qx_of (lo := [some (.ref o), some (.int (iI s)), some (.int (iI t))]) (by decide) (fun w hw => List.mem_cons_of_mem _ hw) rfl (Nat.le_of_ble_eq_true rfl) rfl ?_
  intro X C
  refine qx_aload_n C d_D_newTerm_0 rfl rfl ?_
  refine mx_gi C d_D_newTerm_1 fl_D_13 rfl ?_
  refine qx_iload_n C d_D_newTerm_4 rfl rfl ?_
  refine qx_iload_n C d_D_newTerm_5 rfl rfl ?_
  refine mx_is C I 2 5 d_D_newTerm_6 (by unfold md_a; omega) rfl rfl (by omega) (by omega) ?_
  refine qx_aload_n C d_D_newTerm_7 rfl rfl ?_
  refine mx_gi C d_D_newTerm_8 fl_D_17 rfl ?_
  refine qx_iload_n C d_D_newTerm_11 rfl rfl ?_
  refine qx_iconst C d_D_newTerm_12 (v := iI (-1)) rfl ?_
  refine mx_is C I 3 5 d_D_newTerm_13 (by unfold md_a; omega) rfl rfl (by omega) (by omega) ?_
  refine qx_aload_n C d_D_newTerm_14 rfl rfl ?_
  refine qx_iload_n C d_D_newTerm_15 rfl rfl ?_
  refine nx_callv C (s_D_newTerm_16 md_o) (m_follow l G b I g (md_r_u (md_r_u hA ht) (by omega)) hs (by omega) d) w_D_follow rfl rfl (Nat.le_of_ble_eq_true rfl) (by omega) (by decide) ?_
  exact qx_vret C d_D_newTerm_19 (Nat.zero_le _) (Nat.zero_le _) ⟨rfl, rfl⟩
set_option maxRecDepth 100000 in
theorem m_takeOut (l : Launch) (G : qh_G) (b : Nat) {o : Nat} {ad : Nat → Nat} {iv : Nat → Option Nat} (I : md_I o ad iv) (g : qh_H) {A : md_A} {k : Int} (hk : 0 ≤ k ∧ k < A 27 0) (hw : A 27 0 ≤ 48) (d : Nat) : qv l y_D_takeOut c_D_takeOut 3 none d 0 0 G b [.ref o, .int (iI k)] (md_h G o ad iv g A) (md_h G o ad iv g (md_take A k)) := by
  refine qx_of (lo := [some (.ref o), some (.int (iI k)), none]) (by decide) (fun w hw => List.mem_cons_of_mem _ hw) rfl (Nat.le_of_ble_eq_true rfl) rfl ?_
  intro X C
  have L : ∀ (r : Nat) (q : Int) (B : md_A), q + r = 20 * A 27 0 - 20 → 20 * k ≤ q → B = md_w A 28 (20 * k) q (fun x => A 28 (x + 20)) → X 5 [some (.ref o), some (.int (iI k)), some (.int (iI q))] [] (md_h G o ad iv g B) 0 0 := by
    intro r
    induction r with
    | zero =>
      intro q B hq h0 hB
      have e1 : B 27 0 = A 27 0 := by rw [hB]; exact md_wk (by decide)
      refine qx_iload_n C d_D_takeOut_5 rfl rfl ?_
      refine qx_bipush C d_D_takeOut_6 (v := iI (20)) (by decide) ?_
      refine qx_aload_n C d_D_takeOut_8 rfl rfl ?_
      refine mx_gi C d_D_takeOut_9 fl_D_119 rfl ?_
      refine nx_imul C d_D_takeOut_12 ?_
      refine qx_bipush C d_D_takeOut_13 (v := iI (20)) (by decide) ?_
      refine nx_isub C d_D_takeOut_15 ?_
      refine nx_icmp_ge C 40 d_D_takeOut_16 (by decide) (by omega) (by omega) (fun h1 => ?_) (fun h1 => ?_)
      · refine qx_aload_n C d_D_takeOut_40 rfl rfl ?_
        refine qx_dup C d_D_takeOut_41 rfl ?_
        refine mx_gi C d_D_takeOut_42 fl_D_119 rfl ?_
        refine qx_iconst C d_D_takeOut_45 (v := iI (1)) rfl ?_
        refine nx_isub C d_D_takeOut_46 ?_
        refine mx_pi C I d_D_takeOut_47 fp_D_119 (by decide) ?_
        refine qx_vret C d_D_takeOut_50 (Nat.zero_le _) (Nat.zero_le _) ⟨rfl, ?_⟩
        unfold md_take
        rw [e1, hB, show q = 20 * A 27 0 - 20 by omega]
      · exact absurd h1 (by omega)
    | succ r ih =>
      intro q B hq h0 hB
      have e1 : B 27 0 = A 27 0 := by rw [hB]; exact md_wk (by decide)
      have e2 : B 28 (q + 20) = A 28 (q + 20) := by rw [hB]; exact md_wo (by omega)
      refine qx_iload_n C d_D_takeOut_5 rfl rfl ?_
      refine qx_bipush C d_D_takeOut_6 (v := iI (20)) (by decide) ?_
      refine qx_aload_n C d_D_takeOut_8 rfl rfl ?_
      refine mx_gi C d_D_takeOut_9 fl_D_119 rfl ?_
      refine nx_imul C d_D_takeOut_12 ?_
      refine qx_bipush C d_D_takeOut_13 (v := iI (20)) (by decide) ?_
      refine nx_isub C d_D_takeOut_15 ?_
      refine nx_icmp_ge C 40 d_D_takeOut_16 (by decide) (by omega) (by omega) (fun h1 => ?_) (fun h1 => ?_)
      · exact absurd h1 (by omega)
      · refine qx_aload_n C d_D_takeOut_19 rfl rfl ?_
        refine mx_gi C d_D_takeOut_20 fl_D_86 rfl ?_
        refine qx_iload_n C d_D_takeOut_23 rfl rfl ?_
        refine qx_aload_n C d_D_takeOut_24 rfl rfl ?_
        refine mx_gi C d_D_takeOut_25 fl_D_86 rfl ?_
        refine qx_iload_n C d_D_takeOut_28 rfl rfl ?_
        refine qx_bipush C d_D_takeOut_29 (v := iI (20)) (by decide) ?_
        refine nx_iadd C d_D_takeOut_31 ?_
        refine mx_ia C I 28 960 d_D_takeOut_32 (by unfold md_a; omega) rfl rfl (by omega) (by omega) ?_
        refine mx_is C I 28 960 d_D_takeOut_33 (by unfold md_a; omega) rfl rfl (by omega) (by omega) ?_
        refine nx_iinc C d_D_takeOut_34 rfl (lo' := [_, _, some (.int _)]) rfl ?_
        refine qx_goto C d_D_takeOut_37 (tgt := 5) (by decide) ?_
        refine ih _ _ (by omega) (by omega) ?_
        rw [e2, hB]
        exact md_w_s A 28 _ h0 rfl
  refine qx_bipush C d_D_takeOut_0 (v := iI (20)) (by decide) ?_
  refine qx_iload_n C d_D_takeOut_2 rfl rfl ?_
  refine nx_imul C d_D_takeOut_3 ?_
  refine nx_istore_n C d_D_takeOut_4 rfl (Nat.le_of_ble_eq_true rfl) (lo' := [_, _, some (.int _)]) rfl ?_
  exact L (20 * A 27 0 - 20 - 20 * k).toNat _ _ (by omega) (by omega) (md_w_0 A 28 _ _).symm
set_option maxRecDepth 100000 in
theorem m_shift (l : Launch) (G : qh_G) (b : Nat) {o : Nat} {ad : Nat → Nat} {iv : Nat → Option Nat} (I : md_I o ad iv) (g : qh_H) {A : md_A} {s i : Int} (hs : md_B A s) (hi : A 4 s ≤ i ∧ i ≤ A 4 s + A 8 s) (d : Nat) : qv l y_D_shift c_D_shift 6 none d 0 0 G b [.ref o, .int (iI s), .int (iI i)] (md_h G o ad iv g A) (md_h G o ad iv g (md_shift A s i)) := by
  refine qx_of (lo := [some (.ref o), some (.int (iI s)), some (.int (iI i)), none, none, none]) (by decide) (fun w hw => List.mem_cons_of_mem _ hw) rfl (Nat.le_of_ble_eq_true rfl) rfl ?_
  intro X C
  have L : ∀ (r j : Nat) (q : Int) (B : md_A), j + r = (A 8 s - (i - A 4 s)).toNat → q = 48 * s + j → B = md_sh A (48 * s) j (i - A 4 s) → X 25 [some (.ref o), some (.int (iI s)), some (.int (iI i)), some (.int (iI (i - A 4 s))), some (.int (iI (A 8 s - (i - A 4 s)))), some (.int (iI q))] [] (md_h G o ad iv g B) 0 0 := by
    intro r
    induction r with
    | zero =>
      intro j q B hj hq hB
      refine qx_iload C d_D_shift_25 rfl ?_
      refine qx_bipush C d_D_shift_27 (v := iI (48)) (by decide) ?_
      refine qx_iload_n C d_D_shift_29 rfl rfl ?_
      refine nx_imul C d_D_shift_30 ?_
      refine qx_iload C d_D_shift_31 rfl ?_
      refine nx_iadd C d_D_shift_33 ?_
      refine nx_icmp_ge C 107 d_D_shift_34 (by decide) (by omega) (by omega) (fun h1 => ?_) (fun h1 => ?_)
      · refine qx_aload_n C d_D_shift_107 rfl rfl ?_
        refine mx_gi C d_D_shift_108 fl_D_32 rfl ?_
        refine qx_iload_n C d_D_shift_111 rfl rfl ?_
        refine qx_iload C d_D_shift_112 rfl ?_
        refine mx_is C I 8 5 d_D_shift_114 (by unfold md_a; omega) rfl rfl (by omega) (by omega) ?_
        refine qx_vret C d_D_shift_115 (Nat.zero_le _) (Nat.zero_le _) ⟨rfl, ?_⟩
        unfold md_shift
        rw [hB, show j = (A 8 s - (i - A 4 s)).toNat by omega]
      · exact absurd h1 (by omega)
    | succ r ih =>
      intro j q B hj hq hB
      have e1 : ∀ k : Nat, B k (q + (i - A 4 s)) = A k (q + (i - A 4 s)) := fun k => by rw [hB]; exact md_sh_r (by omega)
      refine qx_iload C d_D_shift_25 rfl ?_
      refine qx_bipush C d_D_shift_27 (v := iI (48)) (by decide) ?_
      refine qx_iload_n C d_D_shift_29 rfl rfl ?_
      refine nx_imul C d_D_shift_30 ?_
      refine qx_iload C d_D_shift_31 rfl ?_
      refine nx_iadd C d_D_shift_33 ?_
      refine nx_icmp_ge C 107 d_D_shift_34 (by decide) (by omega) (by omega) (fun h1 => ?_) (fun h1 => ?_)
      · exact absurd h1 (by omega)
      · refine qx_aload_n C d_D_shift_37 rfl rfl ?_
        refine mx_gi C d_D_shift_38 fl_D_35 rfl ?_
        refine qx_iload C d_D_shift_41 rfl ?_
        refine qx_aload_n C d_D_shift_43 rfl rfl ?_
        refine mx_gi C d_D_shift_44 fl_D_35 rfl ?_
        refine qx_iload C d_D_shift_47 rfl ?_
        refine qx_iload_n C d_D_shift_49 rfl rfl ?_
        refine nx_iadd C d_D_shift_50 ?_
        refine mx_ia C I 9 240 d_D_shift_51 (by unfold md_a; omega) rfl rfl (by omega) (by omega) ?_
        refine mx_is C I 9 240 d_D_shift_52 (by unfold md_a; omega) rfl rfl (by omega) (by omega) ?_
        refine qx_aload_n C d_D_shift_53 rfl rfl ?_
        refine mx_gi C d_D_shift_54 fl_D_38 rfl ?_
        refine qx_iload C d_D_shift_57 rfl ?_
        refine qx_aload_n C d_D_shift_59 rfl rfl ?_
        refine mx_gi C d_D_shift_60 fl_D_38 rfl ?_
        refine qx_iload C d_D_shift_63 rfl ?_
        refine qx_iload_n C d_D_shift_65 rfl rfl ?_
        refine nx_iadd C d_D_shift_66 ?_
        refine mx_ia C I 10 240 d_D_shift_67 (by unfold md_a; omega) rfl rfl (by omega) (by omega) ?_
        refine mx_is C I 10 240 d_D_shift_68 (by unfold md_a; omega) rfl rfl (by omega) (by omega) ?_
        refine qx_aload_n C d_D_shift_69 rfl rfl ?_
        refine mx_gi C d_D_shift_70 fl_D_41 rfl ?_
        refine qx_iload C d_D_shift_73 rfl ?_
        refine qx_aload_n C d_D_shift_75 rfl rfl ?_
        refine mx_gi C d_D_shift_76 fl_D_41 rfl ?_
        refine qx_iload C d_D_shift_79 rfl ?_
        refine qx_iload_n C d_D_shift_81 rfl rfl ?_
        refine nx_iadd C d_D_shift_82 ?_
        refine mx_ia C I 11 240 d_D_shift_83 (by unfold md_a; omega) rfl rfl (by omega) (by omega) ?_
        refine mx_is C I 11 240 d_D_shift_84 (by unfold md_a; omega) rfl rfl (by omega) (by omega) ?_
        refine qx_aload_n C d_D_shift_85 rfl rfl ?_
        refine mx_gi C d_D_shift_86 fl_D_44 rfl ?_
        refine qx_iload C d_D_shift_89 rfl ?_
        refine qx_aload_n C d_D_shift_91 rfl rfl ?_
        refine mx_gi C d_D_shift_92 fl_D_44 rfl ?_
        refine qx_iload C d_D_shift_95 rfl ?_
        refine qx_iload_n C d_D_shift_97 rfl rfl ?_
        refine nx_iadd C d_D_shift_98 ?_
        refine mx_ia C I 12 240 d_D_shift_99 (by unfold md_a; omega) rfl rfl (by omega) (by omega) ?_
        refine mx_is C I 12 240 d_D_shift_100 (by unfold md_a; omega) rfl rfl (by omega) (by omega) ?_
        refine nx_iinc C d_D_shift_101 rfl (lo' := [_, _, _, _, _, some (.int _)]) rfl ?_
        refine qx_goto C d_D_shift_104 (tgt := 25) (by decide) ?_
        refine ih (j + 1) _ _ (by omega) (by omega) ?_
        rw [md_uk (by decide), md_uk (by decide), md_uk (by decide), md_uk (by decide), md_uk (by decide), md_uk (by decide), e1, e1, e1, e1, hB]
        exact md_sh_s A (48 * s) (i - A 4 s) j hq
  refine qx_iload_n C d_D_shift_0 rfl rfl ?_
  refine qx_aload_n C d_D_shift_1 rfl rfl ?_
  refine mx_gi C d_D_shift_2 fl_D_20 rfl ?_
  refine qx_iload_n C d_D_shift_5 rfl rfl ?_
  refine mx_ia C I 4 5 d_D_shift_6 (by unfold md_a; omega) rfl rfl (by omega) (by omega) ?_
  refine nx_isub C d_D_shift_7 ?_
  refine nx_istore_n C d_D_shift_8 rfl (Nat.le_of_ble_eq_true rfl) (lo' := [_, _, _, some (.int _), _, _]) rfl ?_
  refine qx_aload_n C d_D_shift_9 rfl rfl ?_
  refine mx_gi C d_D_shift_10 fl_D_32 rfl ?_
  refine qx_iload_n C d_D_shift_13 rfl rfl ?_
  refine mx_ia C I 8 5 d_D_shift_14 (by unfold md_a; omega) rfl rfl (by omega) (by omega) ?_
  refine qx_iload_n C d_D_shift_15 rfl rfl ?_
  refine nx_isub C d_D_shift_16 ?_
  refine nx_istore C d_D_shift_17 (Nat.le_of_ble_eq_true rfl) (lo' := [_, _, _, _, some (.int _), _]) rfl ?_
  refine qx_bipush C d_D_shift_19 (v := iI (48)) (by decide) ?_
  refine qx_iload_n C d_D_shift_21 rfl rfl ?_
  refine nx_imul C d_D_shift_22 ?_
  refine nx_istore C d_D_shift_23 (Nat.le_of_ble_eq_true rfl) (lo' := [_, _, _, _, _, some (.int _)]) rfl ?_
  exact L (A 8 s - (i - A 4 s)).toNat 0 _ _ (by omega) (by omega) (md_sh_0 A _ _).symm
set_option maxRecDepth 100000 in
theorem m_liesBefore (l : Launch) (G : qh_G) (b : Nat) {o : Nat} {ad : Nat → Nat} {iv : Nat → Option Nat} (I : md_I o ad iv) (g : qh_H) {A : md_A} (hA : md_r A) {i t s : Int} (hs : md_B A s) (hi : rng i) (ht : rng t) (d : Nat) : qj l y_D_liesBefore c_D_liesBefore 4 (some .boolean) (d + 4) 0 0 G b [.ref o, .int (iI i), .int (iI t), .int (iI s)] (md_h G o ad iv g A) (md_lies A i t s) (md_h G o ad iv g A) := by
  have h1 := md_termAt_r hA s (md_last A s)
  have h2 := md_last_r hs
  refine qx_of (lo := [some (.ref o), some (.int (iI i)), some (.int (iI t)), some (.int (iI s))]) (by decide) (fun w hw => List.mem_cons_of_mem _ hw) rfl (Nat.le_of_ble_eq_true rfl) rfl ?_
  intro X C
  refine qx_iload_n C d_D_liesBefore_0 rfl rfl ?_
  refine qx_aload_n C d_D_liesBefore_1 rfl rfl ?_
  refine qx_iload_n C d_D_liesBefore_2 rfl rfl ?_
  refine nx_call0 C (s_D_liesBefore_3 md_o) (m_lastTerm l G b I g hs d) w_D_lastTerm rfl rfl (Nat.le_of_ble_eq_true rfl) (by omega) (by decide) ?_
  refine nx_icmp_lt C 27 d_D_liesBefore_6 (by decide) (by omega) (by omega) (fun hc => ?_) (fun hc => ?_)
  · refine qx_iconst C d_D_liesBefore_27 (v := iI (1)) rfl ?_
    refine qx_goto C d_D_liesBefore_28 (tgt := 32) (by decide) ?_
    refine qx_zret C d_D_liesBefore_32 (by decide) (Nat.zero_le _) (Nat.zero_le _) ⟨_, rfl, ?_, rfl⟩
    unfold md_lies
    rw [if_pos (Or.inl hc)]
  · refine qx_iload_n C d_D_liesBefore_9 rfl rfl ?_
    refine qx_aload_n C d_D_liesBefore_10 rfl rfl ?_
    refine qx_iload_n C d_D_liesBefore_11 rfl rfl ?_
    refine nx_call0 C (s_D_liesBefore_12 md_o) (m_lastTerm l G b I g hs d) w_D_lastTerm rfl rfl (Nat.le_of_ble_eq_true rfl) (by omega) (by decide) ?_
    refine nx_icmp_ne C 31 d_D_liesBefore_15 (by decide) (by omega) (by omega) (fun h3 => ?_) (fun h3 => ?_)
    · refine qx_iconst C d_D_liesBefore_31 (v := iI (0)) rfl ?_
      refine qx_zret C d_D_liesBefore_32 (by decide) (Nat.zero_le _) (Nat.zero_le _) ⟨_, rfl, ?_, rfl⟩
      unfold md_lies
      rw [if_neg (by omega)]
    · refine qx_iload_n C d_D_liesBefore_18 rfl rfl ?_
      refine qx_aload_n C d_D_liesBefore_19 rfl rfl ?_
      refine qx_iload_n C d_D_liesBefore_20 rfl rfl ?_
      refine nx_call0 C (s_D_liesBefore_21 md_o) (m_last l G b I g hs d) w_D_last rfl rfl (Nat.le_of_ble_eq_true rfl) (by omega) (by decide) ?_
      refine nx_icmp_ge C 31 d_D_liesBefore_24 (by decide) (by omega) (by omega) (fun h4 => ?_) (fun h4 => ?_)
      · refine qx_iconst C d_D_liesBefore_31 (v := iI (0)) rfl ?_
        refine qx_zret C d_D_liesBefore_32 (by decide) (Nat.zero_le _) (Nat.zero_le _) ⟨_, rfl, ?_, rfl⟩
        unfold md_lies
        rw [if_neg (by omega)]
      · refine qx_iconst C d_D_liesBefore_27 (v := iI (1)) rfl ?_
        refine qx_goto C d_D_liesBefore_28 (tgt := 32) (by decide) ?_
        refine qx_zret C d_D_liesBefore_32 (by decide) (Nat.zero_le _) (Nat.zero_le _) ⟨_, rfl, ?_, rfl⟩
        unfold md_lies
        rw [if_pos (by omega)]
