/-! the reference: sending -/
/-- the logs and snapshots are the same -/
abbrev md_lg (A B : md_A) : Prop := ∀ k : Nat, 4 ≤ k → k ≤ 12 → B k = A k
theorem md_lg.rf (A : md_A) : md_lg A A := fun _ _ _ => rfl
theorem md_lg.u {A B : md_A} (h : md_lg A B) {k : Nat} {i v : Int} (hk : k < 4 ∨ 12 < k) : md_lg A (md_u B k i v) := fun j h1 h2 => by
  rw [← h j h1 h2]
  funext x
  exact md_uk (by omega)
theorem md_lg.begin {A B : md_A} (h : md_lg A B) {kind fr to t : Int} : md_lg A (md_begin B kind fr to t) := fun j h1 h2 => by
  rw [← h j h1 h2]
  funext x
  exact md_begin_k (by omega)
theorem md_lg.post {A B : md_A} (h : md_lg A B) : md_lg A (md_post B) := fun j h1 h2 => by
  rw [← h j h1 h2]
  funext x
  exact md_post_k (by omega)
theorem md_lg.last {A B : md_A} (h : md_lg A B) : md_last B = md_last A := by
  funext s
  unfold md_last
  rw [h 4 (by decide) (by decide), h 8 (by decide) (by decide)]
theorem md_lg.cell {A B : md_A} (h : md_lg A B) : md_cell B = md_cell A := by
  funext s i
  unfold md_cell
  rw [h.last, h 4 (by decide) (by decide)]
theorem md_lg.termAt {A B : md_A} (h : md_lg A B) : md_termAt B = md_termAt A := by
  funext s i
  unfold md_termAt
  rw [h.cell, h 4 (by decide) (by decide), h 5 (by decide) (by decide), h 9 (by decide) (by decide)]
theorem md_lg.lm {A B : md_A} (h : md_lg A B) : md_lm B = md_lm A := by
  funext s n
  induction n with
  | zero => rfl
  | succ n ih => rw [md_lm_s, md_lm_s, ih, h 4 (by decide) (by decide), h 10 (by decide) (by decide)]
theorem md_lg.mem {A B : md_A} (h : md_lg A B) : md_mem B = md_mem A := by
  funext s n
  unfold md_mem
  rw [h.lm, h.cell, h 6 (by decide) (by decide), h 11 (by decide) (by decide)]
theorem md_lg.config {A B : md_A} (h : md_lg A B) : md_config B = md_config A := by
  funext s
  unfold md_config
  rw [h.mem, h 8 (by decide) (by decide)]
theorem md_lg.val {A B : md_A} (h : md_lg A B) : md_val B = md_val A := by
  funext s key n
  induction n with
  | zero => unfold md_val; rw [h 7 (by decide) (by decide)]
  | succ n ih => rw [md_val_s, md_val_s, ih, h 10 (by decide) (by decide), h 11 (by decide) (by decide), h 12 (by decide) (by decide)]
theorem md_lg.most {A B : md_A} (h : md_lg A B) : md_most B = md_most A := by
  funext s x
  unfold md_most
  rw [h.config]
theorem md_lg.mine {A B : md_A} (h : md_lg A B) : md_mine B = md_mine A := by
  funext s
  unfold md_mine
  rw [h.config]
theorem md_lg.lies {A B : md_A} (h : md_lg A B) : md_lies B = md_lies A := by
  funext i t s
  unfold md_lies
  rw [h.termAt, h.last]
theorem md_lg.B {A B : md_A} (h : md_lg A B) {s : Int} (hs : md_B A s) : md_B B s := by
  unfold md_B
  rw [h 4 (by decide) (by decide), h 8 (by decide) (by decide)]
  exact hs
theorem md_r_w {A : md_A} (hA : md_r A) {k : Nat} {lo hi : Int} {f : Int → Int} (hf : ∀ x, rng (f x)) : md_r (md_w A k lo hi f) := fun j x => by
  unfold md_w
  split
  · exact hf x
  · exact hA j x
theorem md_r_post {A : md_A} (hA : md_r A) (hw : 0 ≤ A 27 0 ∧ A 27 0 ≤ 48) : md_r (md_post A) := by
  unfold md_post
  split
  · exact hA
  · exact md_r_u (md_r_w hA (fun x => hA _ _)) (by omega)
theorem md_r_begin {A : md_A} (hA : md_r A) {kind fr to t : Int} (h1 : rng kind) (h2 : rng fr) (h3 : rng to) (h4 : rng t) : md_r (md_begin A kind fr to t) :=
  md_r_u (md_r_u (md_r_u (md_r_u (md_r_w hA (fun _ => by omega)) h1) h2) h3) h4
/-- waiting messages in bounds, all ints in range -/
abbrev md_ww (A : md_A) : Prop := md_r A ∧ 0 ≤ A 27 0 ∧ A 27 0 ≤ 48
theorem md_ww.post {A : md_A} (h : md_ww A) : md_ww (md_post A) := ⟨md_r_post h.1 h.2, md_post_w h.2⟩
theorem md_ww.begin {A : md_A} (h : md_ww A) {kind fr to t : Int} (h1 : rng kind) (h2 : rng fr) (h3 : rng to) (h4 : rng t) : md_ww (md_begin A kind fr to t) := ⟨md_r_begin h.1 h1 h2 h3 h4, by rw [md_begin_k (by decide)]; exact h.2⟩
theorem md_ww.u {A : md_A} (h : md_ww A) {k : Nat} {i v : Int} (hk : k ≠ 27) (hv : rng v) : md_ww (md_u A k i v) := ⟨md_r_u h.1 hv, by rw [md_uk (Ne.symm hk)]; exact h.2⟩
def md_ask (A : md_A) (s kind t : Int) : Nat → md_A
  | 0 => A
  | n + 1 => if (n : Int) = s ∨ bit (md_config A s) n = 0 then md_ask A s kind t n else md_post (md_u (md_u (md_begin (md_ask A s kind t n) kind s n t) 29 4 (md_last A s)) 29 5 (md_termAt A s (md_last A s)))
theorem md_ask_s (A : md_A) (s kind t : Int) (n : Nat) : md_ask A s kind t (n + 1) = if (n : Int) = s ∨ bit (md_config A s) n = 0 then md_ask A s kind t n else md_post (md_u (md_u (md_begin (md_ask A s kind t n) kind s n t) 29 4 (md_last A s)) 29 5 (md_termAt A s (md_last A s))) := rfl
theorem md_ask_lg (A : md_A) (s kind t : Int) : ∀ n, md_lg A (md_ask A s kind t n)
  | 0 => md_lg.rf A
  | n + 1 => by
    rw [md_ask_s]
    split
    · exact md_ask_lg A s kind t n
    · exact (((md_ask_lg A s kind t n).begin.u (by omega)).u (by omega)).post
theorem md_ask_k {A : md_A} {s kind t i : Int} {k : Nat} (h : k ≠ 27 ∧ k ≠ 28 ∧ k ≠ 29) : ∀ n, md_ask A s kind t n k i = A k i
  | 0 => rfl
  | n + 1 => by
    rw [md_ask_s]
    split
    · exact md_ask_k h n
    · rw [md_post_k ⟨h.1, h.2.1⟩, md_uk h.2.2, md_uk h.2.2, md_begin_k h.2.2]; exact md_ask_k h n
theorem md_ask_ww {A : md_A} {s kind t : Int} (hs : md_B A s) (h : md_ww A) (hk : rng kind) (ht : rng t) : ∀ n, n ≤ 5 → md_ww (md_ask A s kind t n)
  | 0, _ => h
  | n + 1, hn => by
    have ih := md_ask_ww hs h hk ht n (by omega)
    rw [md_ask_s]
    split
    · exact ih
    · exact (((ih.begin hk (by omega) (by omega) ht).u (by decide) (md_last_r hs)).u (by decide) (md_termAt_r h.1 _ _)).post
set_option maxRecDepth 100000 in
theorem m_askAll (l : Launch) (G : qh_G) (b : Nat) {o : Nat} {ad : Nat → Nat} {iv : Nat → Option Nat} (I : md_I o ad iv) (g : qh_H) {A : md_A} {s kind t : Int} (hs : md_B A s) (hw : md_ww A) (hcf : set5 (md_config A s)) (hk : rng kind) (ht : rng t) (d : Nat) : qv l y_D_askAll c_D_askAll 6 none (d + 5) 0 0 G b [.ref o, .int (iI s), .int (iI kind), .int (iI t)] (md_h G o ad iv g A) (md_h G o ad iv g (md_ask A s kind t 5)) := by
  refine qx_of (lo := [some (.ref o), some (.int (iI s)), some (.int (iI kind)), some (.int (iI t)), none, none]) (by decide) (fun w hw => List.mem_cons_of_mem _ hw) rfl (Nat.le_of_ble_eq_true rfl) rfl ?_
  intro X C
  have L : ∀ (r j : Nat) (q : Int) (B : md_A), j + r = 5 → q = j → B = md_ask A s kind t j → X 10 [some (.ref o), some (.int (iI s)), some (.int (iI kind)), some (.int (iI t)), some (.int (iI (md_config A s))), some (.int (iI q))] [] (md_h G o ad iv g B) 0 0 := by
    intro r
    induction r with
    | zero =>
      intro j q B hj hq hB
      refine qx_iload C d_D_askAll_10 rfl ?_
      refine qx_iconst C d_D_askAll_12 (v := iI (5)) rfl ?_
      refine nx_icmp_ge C 76 d_D_askAll_13 (by decide) (by omega) (by omega) (fun hc => ?_) (fun hc => ?_)
      · refine qx_vret C d_D_askAll_76 (Nat.zero_le _) (Nat.zero_le _) ⟨rfl, ?_⟩
        rw [hB, show j = 5 by omega]
      · exact absurd hc (by omega)
    | succ r ih =>
      intro j q B hj hq hB
      subst hq
      have lg : md_lg A B := hB ▸ md_ask_lg A s kind t j
      have ww : md_ww B := hB ▸ md_ask_ww hs hw hk ht j (by omega)
      have hbit := bit_01 (md_config A s) j
      have e1 : md_ask A s kind t (j + 1) = if (j : Int) = s ∨ bit (md_config A s) j = 0 then B else md_post (md_u (md_u (md_begin B kind s j t) 29 4 (md_last A s)) 29 5 (md_termAt A s (md_last A s))) := by rw [hB]; rfl
      refine qx_iload C d_D_askAll_10 rfl ?_
      refine qx_iconst C d_D_askAll_12 (v := iI (5)) rfl ?_
      refine nx_icmp_ge C 76 d_D_askAll_13 (by decide) (by omega) (by omega) (fun hc => ?_) (fun hc => ?_)
      · exact absurd hc (by omega)
      · refine qx_iload C d_D_askAll_16 rfl ?_
        refine qx_iload_n C d_D_askAll_18 rfl rfl ?_
        refine nx_icmp_eq C 70 d_D_askAll_19 (by decide) (by omega) (by omega) (fun h1 => ?_) (fun h1 => ?_)
        · refine nx_iinc C d_D_askAll_70 rfl (lo' := [_, _, _, _, _, some (.int _)]) rfl ?_
          refine qx_goto C d_D_askAll_73 (tgt := 10) (by decide) ?_
          exact ih (j + 1) _ _ (by omega) (by omega) (by rw [e1, if_pos (Or.inl h1)])
        · refine qx_iload C d_D_askAll_22 rfl ?_
          refine qx_iload C d_D_askAll_24 rfl ?_
          refine nx_bit C d_D_askAll_26 d_D_askAll_27 d_D_askAll_28 (by omega) (by omega) ?_
          refine nx_if_ne C 35 d_D_askAll_29 (by decide) (by omega) (fun h2 => ?_) (fun h2 => ?_)
          · have lg1 : md_lg A (md_begin B kind s j t) := lg.begin
            have ww1 : md_ww (md_begin B kind s j t) := ww.begin hk (by omega) (by omega) ht
            have hl := md_last_r hs
            have hl2 := md_termAt_r hw.1 s (md_last A s)
            refine qx_aload_n C d_D_askAll_35 rfl rfl ?_
            refine qx_iload_n C d_D_askAll_36 rfl rfl ?_
            refine qx_iload_n C d_D_askAll_37 rfl rfl ?_
            refine qx_iload C d_D_askAll_38 rfl ?_
            refine qx_iload_n C d_D_askAll_40 rfl rfl ?_
            refine nx_callv C (s_D_askAll_41 md_o) (m_begin l G b I g B d) w_D_begin rfl rfl (Nat.le_of_ble_eq_true rfl) (by omega) (by decide) ?_
            refine qx_aload_n C d_D_askAll_44 rfl rfl ?_
            refine mx_gi C d_D_askAll_45 fl_D_89 rfl ?_
            refine qx_iconst C d_D_askAll_48 (v := iI (4)) rfl ?_
            refine qx_aload_n C d_D_askAll_49 rfl rfl ?_
            refine qx_iload_n C d_D_askAll_50 rfl rfl ?_
            refine nx_call0 C (s_D_askAll_51 md_o) (m_last l G b I g (lg1.B hs) d) w_D_last rfl rfl (Nat.le_of_ble_eq_true rfl) (by omega) (by decide) ?_
            rw [lg1.last]
            refine mx_is C I 29 20 d_D_askAll_54 (by unfold md_a; omega) rfl rfl (by omega) (by omega) ?_
            refine qx_aload_n C d_D_askAll_55 rfl rfl ?_
            refine mx_gi C d_D_askAll_56 fl_D_89 rfl ?_
            refine qx_iconst C d_D_askAll_59 (v := iI (5)) rfl ?_
            refine qx_aload_n C d_D_askAll_60 rfl rfl ?_
            refine qx_iload_n C d_D_askAll_61 rfl rfl ?_
            refine nx_call0 C (s_D_askAll_62 md_o) (m_lastTerm l G b I g ((lg1.u (k := 29) (by omega)).B hs) d) w_D_lastTerm rfl rfl (Nat.le_of_ble_eq_true rfl) (by omega) (by decide) ?_
            rw [(lg1.u (k := 29) (by omega)).termAt, (lg1.u (k := 29) (by omega)).last]
            refine mx_is C I 29 20 d_D_askAll_65 (by unfold md_a; omega) rfl rfl (by omega) (by omega) ?_
            refine qx_aload_n C d_D_askAll_66 rfl rfl ?_
            refine nx_callv C (s_D_askAll_67 md_o) (m_post l G b I g (((ww1.u (by decide) hl).u (by decide) hl2).2) d) w_D_post rfl rfl (Nat.le_of_ble_eq_true rfl) (by omega) (by decide) ?_
            refine nx_iinc C d_D_askAll_70 rfl (lo' := [_, _, _, _, _, some (.int _)]) rfl ?_
            refine qx_goto C d_D_askAll_73 (tgt := 10) (by decide) ?_
            exact ih (j + 1) _ _ (by omega) (by omega) (by rw [e1, if_neg (by omega)])
          · refine qx_goto C d_D_askAll_32 (tgt := 70) (by decide) ?_
            refine nx_iinc C d_D_askAll_70 rfl (lo' := [_, _, _, _, _, some (.int _)]) rfl ?_
            refine qx_goto C d_D_askAll_73 (tgt := 10) (by decide) ?_
            exact ih (j + 1) _ _ (by omega) (by omega) (by rw [e1, if_pos (Or.inr h2)])
  refine qx_aload_n C d_D_askAll_0 rfl rfl ?_
  refine qx_iload_n C d_D_askAll_1 rfl rfl ?_
  refine nx_call0 C (s_D_askAll_2 md_o) (m_config l G b I g hw.1 hs d) w_D_config rfl rfl (Nat.le_of_ble_eq_true rfl) (by omega) (by decide) ?_
  refine nx_istore C d_D_askAll_5 (Nat.le_of_ble_eq_true rfl) (lo' := [_, _, _, _, some (.int _), _]) rfl ?_
  refine qx_iconst C d_D_askAll_7 (v := iI (0)) rfl ?_
  refine nx_istore C d_D_askAll_8 (Nat.le_of_ble_eq_true rfl) (lo' := [_, _, _, _, _, some (.int _)]) rfl ?_
  exact L 5 0 _ _ (by omega) (by omega) rfl
