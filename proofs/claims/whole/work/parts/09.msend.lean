/-! the reference: sending -/
/-- the logs and snapshots are the same -/
abbrev md_lg (A B : md_A) : Prop := ∀ k : Nat, 4 ≤ k → k ≤ 12 → B k = A k
theorem md_lg.rf (A : md_A) : md_lg A A := fun _ _ _ => rfl
theorem md_lg.u {A B : md_A} (h : md_lg A B) {k : Nat} {i v : Int} (hk : k < 4 ∨ 12 < k) : md_lg A (md_u B k i v) := fun j h1 h2 => by
  rw [← h j h1 h2]
  funext x
  exact md_uk (by omega)
theorem md_lg.begin {A B : md_A} (h : md_lg A B) {kind fr to t : Int} : md_lg A (md_begin B kind fr to t) := fun j h1 h2 => by
  rw [← h j h1 h2]
  funext x
  exact md_begin_k (by omega)
theorem md_lg.post {A B : md_A} (h : md_lg A B) : md_lg A (md_post B) := fun j h1 h2 => by
  rw [← h j h1 h2]
  funext x
  exact md_post_k (by omega)
theorem md_lg.last {A B : md_A} (h : md_lg A B) : md_last B = md_last A := by
  funext s
  unfold md_last
  rw [h 4 (by decide) (by decide), h 8 (by decide) (by decide)]
theorem md_lg.cell {A B : md_A} (h : md_lg A B) : md_cell B = md_cell A := by
  funext s i
  unfold md_cell
  rw [h.last, h 4 (by decide) (by decide)]
theorem md_lg.termAt {A B : md_A} (h : md_lg A B) : md_termAt B = md_termAt A := by
  funext s i
  unfold md_termAt
  rw [h.cell, h 4 (by decide) (by decide), h 5 (by decide) (by decide), h 9 (by decide) (by decide)]
theorem md_lg.lm {A B : md_A} (h : md_lg A B) : md_lm B = md_lm A := by
  funext s n
  induction n with
  | zero => rfl
  | succ n ih => rw [md_lm_s, md_lm_s, ih, h 4 (by decide) (by decide), h 10 (by decide) (by decide)]
theorem md_lg.mem {A B : md_A} (h : md_lg A B) : md_mem B = md_mem A := by
  funext s n
  unfold md_mem
  rw [h.lm, h.cell, h 6 (by decide) (by decide), h 11 (by decide) (by decide)]
theorem md_lg.config {A B : md_A} (h : md_lg A B) : md_config B = md_config A := by
  funext s
  unfold md_config
  rw [h.mem, h 8 (by decide) (by decide)]
theorem md_lg.val {A B : md_A} (h : md_lg A B) : md_val B = md_val A := by
  funext s key n
  induction n with
  | zero => unfold md_val; rw [h 7 (by decide) (by decide)]
  | succ n ih => rw [md_val_s, md_val_s, ih, h 10 (by decide) (by decide), h 11 (by decide) (by decide), h 12 (by decide) (by decide)]
theorem md_lg.most {A B : md_A} (h : md_lg A B) : md_most B = md_most A := by
  funext s x
  unfold md_most
  rw [h.config]
theorem md_lg.mine {A B : md_A} (h : md_lg A B) : md_mine B = md_mine A := by
  funext s
  unfold md_mine
  rw [h.config]
theorem md_lg.lies {A B : md_A} (h : md_lg A B) : md_lies B = md_lies A := by
  funext i t s
  unfold md_lies
  rw [h.termAt, h.last]
theorem md_lg.B {A B : md_A} (h : md_lg A B) {s : Int} (hs : md_B A s) : md_B B s := by
  unfold md_B
  rw [h 4 (by decide) (by decide), h 8 (by decide) (by decide)]
  exact hs
theorem md_r_w {A : md_A} (hA : md_r A) {k : Nat} {lo hi : Int} {f : Int → Int} (hf : ∀ x, rng (f x)) : md_r (md_w A k lo hi f) := fun j x => by
  unfold md_w
  split
  · exact hf x
  · exact hA j x
theorem md_r_post {A : md_A} (hA : md_r A) (hw : 0 ≤ A 27 0 ∧ A 27 0 ≤ 48) : md_r (md_post A) := by
  unfold md_post
  split
  · exact hA
  · exact md_r_u (md_r_w hA (fun x => hA _ _)) (by omega)
theorem md_r_begin {A : md_A} (hA : md_r A) {kind fr to t : Int} (h1 : rng kind) (h2 : rng fr) (h3 : rng to) (h4 : rng t) : md_r (md_begin A kind fr to t) :=
  md_r_u (md_r_u (md_r_u (md_r_u (md_r_w hA (fun _ => by omega)) h1) h2) h3) h4
/-- waiting messages in bounds, all ints in range -/
abbrev md_ww (A : md_A) : Prop := md_r A ∧ 0 ≤ A 27 0 ∧ A 27 0 ≤ 48
theorem md_ww.post {A : md_A} (h : md_ww A) : md_ww (md_post A) := ⟨md_r_post h.1 h.2, md_post_w h.2⟩
theorem md_ww.begin {A : md_A} (h : md_ww A) {kind fr to t : Int} (h1 : rng kind) (h2 : rng fr) (h3 : rng to) (h4 : rng t) : md_ww (md_begin A kind fr to t) := ⟨md_r_begin h.1 h1 h2 h3 h4, by rw [md_begin_k (by decide)]; exact h.2⟩
theorem md_ww.u {A : md_A} (h : md_ww A) {k : Nat} {i v : Int} (hk : k ≠ 27) (hv : rng v) : md_ww (md_u A k i v) := ⟨md_r_u h.1 hv, by rw [md_uk (Ne.symm hk)]; exact h.2⟩
def md_ask (A : md_A) (s kind t : Int) : Nat → md_A
  | 0 => A
  | n + 1 => if (n : Int) = s ∨ bit (md_config A s) n = 0 then md_ask A s kind t n else md_post (md_u (md_u (md_begin (md_ask A s kind t n) kind s n t) 29 4 (md_last A s)) 29 5 (md_termAt A s (md_last A s)))
theorem md_ask_s (A : md_A) (s kind t : Int) (n : Nat) : md_ask A s kind t (n + 1) = if (n : Int) = s ∨ bit (md_config A s) n = 0 then md_ask A s kind t n else md_post (md_u (md_u (md_begin (md_ask A s kind t n) kind s n t) 29 4 (md_last A s)) 29 5 (md_termAt A s (md_last A s))) := rfl
theorem md_ask_lg (A : md_A) (s kind t : Int) : ∀ n, md_lg A (md_ask A s kind t n)
  | 0 => md_lg.rf A
  | n + 1 => by
    rw [md_ask_s]
    split
    · exact md_ask_lg A s kind t n
    · exact (((md_ask_lg A s kind t n).begin.u (by omega)).u (by omega)).post
theorem md_ask_k {A : md_A} {s kind t i : Int} {k : Nat} (h : k ≠ 27 ∧ k ≠ 28 ∧ k ≠ 29) : ∀ n, md_ask A s kind t n k i = A k i
  | 0 => rfl
  | n + 1 => by
    rw [md_ask_s]
    split
    · exact md_ask_k h n
    · rw [md_post_k ⟨h.1, h.2.1⟩, md_uk h.2.2, md_uk h.2.2, md_begin_k h.2.2]; exact md_ask_k h n
theorem md_ask_ww {A : md_A} {s kind t : Int} (hs : md_B A s) (h : md_ww A) (hk : rng kind) (ht : rng t) : ∀ n, n ≤ 5 → md_ww (md_ask A s kind t n)
  | 0, _ => h
  | n + 1, hn => by
    have ih := md_ask_ww hs h hk ht n (by omega)
    rw [md_ask_s]
    split
    · exact ih
    · exact (((ih.begin hk (by omega) (by omega) ht).u (by decide) (md_last_r hs)).u (by decide) (md_termAt_r h.1 _ _)).post
set_option maxRecDepth 100000 in
theorem m_askAll (l : Launch) (G : qh_G) (b : Nat) {o : Nat} {ad : Nat → Nat} {iv : Nat → Option Nat} (I : md_I o ad iv) (g : qh_H) {A : md_A} {s kind t : Int} (hs : md_B A s) (hw : md_ww A) (hcf : set5 (md_config A s)) (hk : rng kind) (ht : rng t) (d : Nat) : qv l y_D_askAll c_D_askAll 6 none (d + 5) 0 0 G b [.ref o, .int (iI s), .int (iI kind), .int (iI t)] (md_h G o ad iv g A) (md_h G o ad iv g (md_ask A s kind t 5)) := by
  refine qx_of (lo := [some (.ref o), some (.int (iI s)), some (.int (iI kind)), some (.int (iI t)), none, none]) (by decide) (fun w hw => List.mem_cons_of_mem _ hw) rfl (Nat.le_of_ble_eq_true rfl) rfl ?_
  intro X C
  have L : ∀ (r j : Nat) (q : Int) (B : md_A), j + r = 5 → q = j → B = md_ask A s kind t j → X 10 [some (.ref o), some (.int (iI s)), some (.int (iI kind)), some (.int (iI t)), some (.int (iI (md_config A s))), some (.int (iI q))] [] (md_h G o ad iv g B) 0 0 := by
    intro r
    induction r with
    | zero =>
      intro j q B hj hq hB
      refine qx_iload C d_D_askAll_10 rfl ?_
      refine qx_iconst C d_D_askAll_12 (v := iI (5)) rfl ?_
      refine nx_icmp_ge C 76 d_D_askAll_13 (by decide) (by omega) (by omega) (fun hc => ?_) (fun hc => ?_)
      · refine qx_vret C d_D_askAll_76 (Nat.zero_le _) (Nat.zero_le _) ⟨rfl, ?_⟩
        rw [hB, show j = 5 by omega]
      · exact absurd hc (by omega)
    | succ r ih =>
      intro j q B hj hq hB
      subst hq
      have lg : md_lg A B := hB ▸ md_ask_lg A s kind t j
      have ww : md_ww B := hB ▸ md_ask_ww hs hw hk ht j (by omega)
      have hbit := bit_01 (md_config A s) j
      have e1 : md_ask A s kind t (j + 1) = if (j : Int) = s ∨ bit (md_config A s) j = 0 then B else md_post (md_u (md_u (md_begin B kind s j t) 29 4 (md_last A s)) 29 5 (md_termAt A s (md_last A s))) := by rw [hB]; rfl
      refine qx_iload C d_D_askAll_10 rfl ?_
      refine qx_iconst C d_D_askAll_12 (v := iI (5)) rfl ?_
      refine nx_icmp_ge C 76 d_D_askAll_13 (by decide) (by omega) (by omega) (fun hc => ?_) (fun hc => ?_)
      · exact absurd hc (by omega)
      · refine qx_iload C d_D_askAll_16 rfl ?_
        refine qx_iload_n C d_D_askAll_18 rfl rfl ?_
        refine nx_icmp_eq C 70 d_D_askAll_19 (by decide) (by omega) (by omega) (fun h1 => ?_) (fun h1 => ?_)
        · refine nx_iinc C d_D_askAll_70 rfl (lo' := [_, _, _, _, _, some (.int _)]) rfl ?_
          refine qx_goto C d_D_askAll_73 (tgt := 10) (by decide) ?_
          exact ih (j + 1) _ _ (by omega) (by omega) (by rw [e1, if_pos (Or.inl h1)])
        · refine qx_iload C d_D_askAll_22 rfl ?_
          refine qx_iload C d_D_askAll_24 rfl ?_
          refine nx_bit C d_D_askAll_26 d_D_askAll_27 d_D_askAll_28 (by omega) (by omega) ?_
          refine nx_if_ne C 35 d_D_askAll_29 (by decide) (by omega) (fun h2 => ?_) (fun h2 => ?_)
          · have lg1 : md_lg A (md_begin B kind s j t) := lg.begin
            have ww1 : md_ww (md_begin B kind s j t) := ww.begin hk (by omega) (by omega) ht
            have hl := md_last_r hs
            have hl2 := md_termAt_r hw.1 s (md_last A s)
            refine qx_aload_n C d_D_askAll_35 rfl rfl ?_
            refine qx_iload_n C d_D_askAll_36 rfl rfl ?_
            refine qx_iload_n C d_D_askAll_37 rfl rfl ?_
            refine qx_iload C d_D_askAll_38 rfl ?_
            refine qx_iload_n C d_D_askAll_40 rfl rfl ?_
            refine nx_callv C (s_D_askAll_41 md_o) (m_begin l G b I g B d) w_D_begin rfl rfl (Nat.le_of_ble_eq_true rfl) (by omega) (by decide) ?_
            refine qx_aload_n C d_D_askAll_44 rfl rfl ?_
            refine mx_gi C d_D_askAll_45 fl_D_89 rfl ?_
            refine qx_iconst C d_D_askAll_48 (v := iI (4)) rfl ?_
            refine qx_aload_n C d_D_askAll_49 rfl rfl ?_
            refine qx_iload_n C d_D_askAll_50 rfl rfl ?_
            refine nx_call0 C (s_D_askAll_51 md_o) (m_last l G b I g (lg1.B hs) d) w_D_last rfl rfl (Nat.le_of_ble_eq_true rfl) (by omega) (by decide) ?_
            rw [lg1.last]
            refine mx_is C I 29 20 d_D_askAll_54 (by unfold md_a; omega) rfl rfl (by omega) (by omega) ?_
            refine qx_aload_n C d_D_askAll_55 rfl rfl ?_
            refine mx_gi C d_D_askAll_56 fl_D_89 rfl ?_
            refine qx_iconst C d_D_askAll_59 (v := iI (5)) rfl ?_
            refine qx_aload_n C d_D_askAll_60 rfl rfl ?_
            refine qx_iload_n C d_D_askAll_61 rfl rfl ?_
            refine nx_call0 C (s_D_askAll_62 md_o) (m_lastTerm l G b I g ((lg1.u (k := 29) (by omega)).B hs) d) w_D_lastTerm rfl rfl (Nat.le_of_ble_eq_true rfl) (by omega) (by decide) ?_
            rw [(lg1.u (k := 29) (by omega)).termAt, (lg1.u (k := 29) (by omega)).last]
            refine mx_is C I 29 20 d_D_askAll_65 (by unfold md_a; omega) rfl rfl (by omega) (by omega) ?_
            refine qx_aload_n C d_D_askAll_66 rfl rfl ?_
            refine nx_callv C (s_D_askAll_67 md_o) (m_post l G b I g (((ww1.u (by decide) hl).u (by decide) hl2).2) d) w_D_post rfl rfl (Nat.le_of_ble_eq_true rfl) (by omega) (by decide) ?_
            refine nx_iinc C d_D_askAll_70 rfl (lo' := [_, _, _, _, _, some (.int _)]) rfl ?_
            refine qx_goto C d_D_askAll_73 (tgt := 10) (by decide) ?_
            exact ih (j + 1) _ _ (by omega) (by omega) (by rw [e1, if_neg (by omega)])
          · refine qx_goto C d_D_askAll_32 (tgt := 70) (by decide) ?_
            refine nx_iinc C d_D_askAll_70 rfl (lo' := [_, _, _, _, _, some (.int _)]) rfl ?_
            refine qx_goto C d_D_askAll_73 (tgt := 10) (by decide) ?_
            exact ih (j + 1) _ _ (by omega) (by omega) (by rw [e1, if_pos (Or.inr h2)])
  refine qx_aload_n C d_D_askAll_0 rfl rfl ?_
  refine qx_iload_n C d_D_askAll_1 rfl rfl ?_
  refine nx_call0 C (s_D_askAll_2 md_o) (m_config l G b I g hw.1 hs d) w_D_config rfl rfl (Nat.le_of_ble_eq_true rfl) (by omega) (by decide) ?_
  refine nx_istore C d_D_askAll_5 (Nat.le_of_ble_eq_true rfl) (lo' := [_, _, _, _, some (.int _), _]) rfl ?_
  refine qx_iconst C d_D_askAll_7 (v := iI (0)) rfl ?_
  refine nx_istore C d_D_askAll_8 (Nat.le_of_ble_eq_true rfl) (lo' := [_, _, _, _, _, some (.int _)]) rfl ?_
  exact L 5 0 _ _ (by omega) (by omega) rfl
def md_hd (A : md_A) (s to kind : Int) : md_A := md_u (md_u (md_begin A kind s to (A 2 s)) 29 9 (A 20 s)) 29 8 (A 14 s)
def md_inst (A : md_A) (s to : Int) : md_A := md_post (md_w (md_u (md_u (md_u (md_hd A s to 6) 29 4 (A 4 s)) 29 5 (A 5 s)) 29 10 (A 6 s)) 29 11 15 (fun x => A 7 (4 * s + (x - 11))))
def md_put1 (A B : md_A) (s i c : Int) : md_A := md_u (md_u (md_u (md_u (md_u B 29 (10 + 4 * c) (A 9 (md_cell A s i))) 29 (10 + 4 * c + 1) (A 10 (md_cell A s i))) 29 (10 + 4 * c + 2) (A 11 (md_cell A s i))) 29 (10 + 4 * c + 3) (A 12 (md_cell A s i))) 29 7 (c + 1)
def md_ents (A B : md_A) (s n : Int) : md_A := if md_last A s < n then B else if md_last A s < n + 1 then md_put1 A B s n 0 else md_put1 A (md_put1 A B s n 0) s (n + 1) 1
def md_appd (A : md_A) (s to : Int) : md_A := md_post (md_ents A (md_u (md_u (md_hd A s to 4) 29 4 (A 17 (5 * s + to) - 1)) 29 5 (md_termAt A s (A 17 (5 * s + to) - 1))) s (A 17 (5 * s + to)))
def md_sendTo (A : md_A) (s to : Int) : md_A := if A 17 (5 * s + to) - 1 < A 4 s then md_inst A s to else md_appd A s to
theorem md_hd_k {A : md_A} {s to kind i : Int} {k : Nat} (h : k ≠ 29) : md_hd A s to kind k i = A k i := by
  unfold md_hd
  rw [md_uk h, md_uk h, md_begin_k h]
theorem md_put1_k {A B : md_A} {s i c x : Int} {k : Nat} (h : k ≠ 29) : md_put1 A B s i c k x = B k x := by
  unfold md_put1
  rw [md_uk h, md_uk h, md_uk h, md_uk h, md_uk h]
theorem md_ents_k {A B : md_A} {s n x : Int} {k : Nat} (h : k ≠ 29) : md_ents A B s n k x = B k x := by
  unfold md_ents
  split
  · rfl
  · split
    · exact md_put1_k h
    · rw [md_put1_k h, md_put1_k h]
theorem md_sendTo_k {A : md_A} {s to x : Int} {k : Nat} (h : k ≠ 27 ∧ k ≠ 28 ∧ k ≠ 29) : md_sendTo A s to k x = A k x := by
  unfold md_sendTo
  split
  · unfold md_inst
    rw [md_post_k ⟨h.1, h.2.1⟩, md_wk h.2.2, md_uk h.2.2, md_uk h.2.2, md_uk h.2.2, md_hd_k h.2.2]
  · unfold md_appd
    rw [md_post_k ⟨h.1, h.2.1⟩, md_ents_k h.2.2, md_uk h.2.2, md_uk h.2.2, md_hd_k h.2.2]
theorem md_sendTo_lg (A : md_A) (s to : Int) : md_lg A (md_sendTo A s to) := fun k h1 h2 => by
  funext x
  exact md_sendTo_k (by omega)
theorem md_hd_ww {A : md_A} {s to kind : Int} (h : md_ww A) (h1 : rng kind) (h2 : rng s) (h3 : rng to) : md_ww (md_hd A s to kind) := ((h.begin h1 h2 h3 (h.1 _ _)).u (by decide) (h.1 _ _)).u (by decide) (h.1 _ _)
theorem md_put1_ww {A B : md_A} {s i c : Int} (hA : md_r A) (h : md_ww B) (hc : 0 ≤ c ∧ c < 2) : md_ww (md_put1 A B s i c) := ((((h.u (by decide) (hA _ _)).u (by decide) (hA _ _)).u (by decide) (hA _ _)).u (by decide) (hA _ _)).u (by decide) (by omega)
theorem md_sendTo_ww {A : md_A} {s to : Int} (h : md_ww A) (hs : rng s) (ht : rng to) (hn : rng (A 17 (5 * s + to) - 1)) : md_ww (md_sendTo A s to) := by
  unfold md_sendTo
  split
  · unfold md_inst
    have h1 := (((md_hd_ww (kind := 6) h (by omega) hs ht).u (k := 29) (i := 4) (by decide) (h.1 4 s)).u (k := 29) (i := 5) (by decide) (h.1 5 s)).u (k := 29) (i := 10) (by decide) (h.1 6 s)
    exact md_ww.post ⟨md_r_w h1.1 (fun x => h.1 _ _), by rw [md_wk (by decide)]; exact h1.2⟩
  · unfold md_appd
    have h1 := ((md_hd_ww (kind := 4) h (by omega) hs ht).u (k := 29) (i := 4) (by decide) hn).u (k := 29) (i := 5) (by decide) (md_termAt_r h.1 s (A 17 (5 * s + to) - 1))
    refine md_ww.post ?_
    unfold md_ents
    split
    · exact h1
    · split
      · exact md_put1_ww h.1 h1 (by omega)
      · exact md_put1_ww h.1 (md_put1_ww h.1 h1 (by omega)) (by omega)
set_option maxRecDepth 100000 in
set_option maxHeartbeats 1000000 in
theorem m_sendTo (l : Launch) (G : qh_G) (b : Nat) {o : Nat} {ad : Nat → Nat} {iv : Nat → Option Nat} (I : md_I o ad iv) (g : qh_H) {A : md_A} {s to : Int} (hs : md_B A s) (ht : 0 ≤ to ∧ to < 5) (hw : md_ww A) (hn : -1000000 ≤ A 17 (5 * s + to) ∧ A 17 (5 * s + to) ≤ 2000000) (d : Nat) : qv l y_D_sendTo c_D_sendTo 8 none (d + 3) 0 0 G b [.ref o, .int (iI s), .int (iI to)] (md_h G o ad iv g A) (md_h G o ad iv g (md_sendTo A s to)) := by
  refine qx_of (lo := [some (.ref o), some (.int (iI s)), some (.int (iI to)), none, none, none, none, none]) (by decide) (fun w hw => List.mem_cons_of_mem _ hw) rfl (Nat.le_of_ble_eq_true rfl) rfl ?_
  intro X C
  have F : ∀ (B : md_A) (l3 l4 l5 l6 l7 : Option Value), md_ww B → md_post B = md_sendTo A s to → X 313 [some (.ref o), some (.int (iI s)), some (.int (iI to)), l3, l4, l5, l6, l7] [] (md_h G o ad iv g B) 0 0 := by
    intro B l3 l4 l5 l6 l7 hB e
    refine qx_aload_n C d_D_sendTo_313 rfl rfl ?_
    refine nx_callv C (s_D_sendTo_314 md_o) (m_post l G b I g hB.2 d) w_D_post rfl rfl (Nat.le_of_ble_eq_true rfl) (by omega) (by decide) ?_
    refine qx_vret C d_D_sendTo_317 (Nat.zero_le _) (Nat.zero_le _) ⟨rfl, ?_⟩
    rw [e]
  refine qx_aload_n C d_D_sendTo_0 rfl rfl ?_
  refine mx_gi C d_D_sendTo_1 fl_D_59 rfl ?_
  refine qx_iconst C d_D_sendTo_4 (v := iI (5)) rfl ?_
  refine qx_iload_n C d_D_sendTo_5 rfl rfl ?_
  refine nx_imul C d_D_sendTo_6 ?_
  refine qx_iload_n C d_D_sendTo_7 rfl rfl ?_
  refine nx_iadd C d_D_sendTo_8 ?_
  refine mx_ia C I 17 25 d_D_sendTo_9 (by unfold md_a; omega) rfl rfl (by omega) (by omega) ?_
  refine nx_istore_n C d_D_sendTo_10 rfl (Nat.le_of_ble_eq_true rfl) (lo' := [_, _, _, some (.int _), _, _, _, _]) rfl ?_
  refine qx_iload_n C d_D_sendTo_11 rfl rfl ?_
  refine qx_iconst C d_D_sendTo_12 (v := iI (1)) rfl ?_
  refine nx_isub C d_D_sendTo_13 ?_
  refine qx_aload_n C d_D_sendTo_14 rfl rfl ?_
  refine mx_gi C d_D_sendTo_15 fl_D_20 rfl ?_
  refine qx_iload_n C d_D_sendTo_18 rfl rfl ?_
  refine mx_ia C I 4 5 d_D_sendTo_19 (by unfold md_a; omega) rfl rfl (by omega) (by omega) ?_
  refine nx_icmp_ge C 27 d_D_sendTo_20 (by decide) (by omega) (by omega) (fun hc => ?_) (fun hc => ?_)
  · refine qx_iconst C d_D_sendTo_27 (v := iI (0)) rfl ?_
    refine nx_istore C d_D_sendTo_28 (Nat.le_of_ble_eq_true rfl) (lo' := [_, _, _, _, some (.int _), _, _, _]) rfl ?_
    refine qx_aload_n C d_D_sendTo_30 rfl rfl ?_
    refine qx_iload C d_D_sendTo_31 rfl ?_
    refine nx_if_eq C 41 d_D_sendTo_33 (by decide) (by omega) (fun h1 => ?_) (fun h1 => ?_)
    · refine qx_iconst C d_D_sendTo_41 (v := iI (4)) rfl ?_
      refine qx_iload_n C d_D_sendTo_42 rfl rfl ?_
      refine qx_iload_n C d_D_sendTo_43 rfl rfl ?_
      refine qx_aload_n C d_D_sendTo_44 rfl rfl ?_
      refine mx_gi C d_D_sendTo_45 fl_D_13 rfl ?_
      refine qx_iload_n C d_D_sendTo_48 rfl rfl ?_
      refine mx_ia C I 2 5 d_D_sendTo_49 (by unfold md_a; omega) rfl rfl (by omega) (by omega) ?_
      refine nx_callv C (s_D_sendTo_50 md_o) (m_begin l G b I g A d) w_D_begin rfl rfl (Nat.le_of_ble_eq_true rfl) (by omega) (by decide) ?_
      refine qx_aload_n C d_D_sendTo_53 rfl rfl ?_
      refine mx_gi C d_D_sendTo_54 fl_D_89 rfl ?_
      refine qx_bipush C d_D_sendTo_57 (v := iI (9)) (by decide) ?_
      refine qx_aload_n C d_D_sendTo_59 rfl rfl ?_
      refine mx_gi C d_D_sendTo_60 fl_D_68 rfl ?_
      refine qx_iload_n C d_D_sendTo_63 rfl rfl ?_
      refine mx_ia C I 20 5 d_D_sendTo_64 (by unfold md_a; omega) rfl rfl (by omega) (by omega) ?_
      refine mx_is C I 29 20 d_D_sendTo_65 (by unfold md_a; omega) rfl rfl (by omega) (by omega) ?_
      refine qx_aload_n C d_D_sendTo_66 rfl rfl ?_
      refine mx_gi C d_D_sendTo_67 fl_D_89 rfl ?_
      refine qx_bipush C d_D_sendTo_70 (v := iI (8)) (by decide) ?_
      refine qx_aload_n C d_D_sendTo_72 rfl rfl ?_
      refine mx_gi C d_D_sendTo_73 fl_D_50 rfl ?_
      refine qx_iload_n C d_D_sendTo_76 rfl rfl ?_
      refine mx_ia C I 14 5 d_D_sendTo_77 (by unfold md_a; omega) rfl rfl (by omega) (by omega) ?_
      refine mx_is C I 29 20 d_D_sendTo_78 (by unfold md_a; omega) rfl rfl (by omega) (by omega) ?_
      refine qx_aload_n C d_D_sendTo_79 rfl rfl ?_
      refine mx_gi C d_D_sendTo_80 fl_D_89 rfl ?_
      refine qx_iconst C d_D_sendTo_83 (v := iI (4)) rfl ?_
      refine qx_iload C d_D_sendTo_84 rfl ?_
      rw [md_begin_k (k := 20) (by decide), md_uk (k := 29) (j := 14) (by decide), md_begin_k (k := 14) (by decide)]
      refine nx_if_eq C 98 d_D_sendTo_86 (by decide) (by omega) (fun h2 => ?_) (fun h2 => ?_)
      · refine qx_iload_n C d_D_sendTo_98 rfl rfl ?_
        refine qx_iconst C d_D_sendTo_99 (v := iI (1)) rfl ?_
        refine nx_isub C d_D_sendTo_100 ?_
        refine mx_is C I 29 20 d_D_sendTo_101 (by unfold md_a; omega) rfl rfl (by omega) (by omega) ?_
        refine qx_aload_n C d_D_sendTo_102 rfl rfl ?_
        refine mx_gi C d_D_sendTo_103 fl_D_89 rfl ?_
        refine qx_iconst C d_D_sendTo_106 (v := iI (5)) rfl ?_
        refine qx_iload C d_D_sendTo_107 rfl ?_
        refine nx_if_eq C 121 d_D_sendTo_109 (by decide) (by omega) (fun h3 => ?_) (fun h3 => ?_)
        · have lg1 : md_lg A (md_u (md_hd A s to 4) 29 4 (A 17 (5 * s + to) - 1)) := (((md_lg.rf A).begin.u (by omega)).u (by omega)).u (by omega)
          have ww1 : md_ww (md_u (md_u (md_hd A s to 4) 29 4 (A 17 (5 * s + to) - 1)) 29 5 (md_termAt A s (A 17 (5 * s + to) - 1))) := ((md_hd_ww (kind := 4) hw (by omega) (by omega) (by omega)).u (k := 29) (i := 4) (by decide) (by omega)).u (k := 29) (i := 5) (by decide) (md_termAt_r hw.1 s (A 17 (5 * s + to) - 1))
          refine qx_aload_n C d_D_sendTo_121 rfl rfl ?_
          refine qx_iload_n C d_D_sendTo_122 rfl rfl ?_
          refine qx_iload_n C d_D_sendTo_123 rfl rfl ?_
          refine qx_iconst C d_D_sendTo_124 (v := iI (1)) rfl ?_
          refine nx_isub C d_D_sendTo_125 ?_
          refine nx_call0 C (s_D_sendTo_126 md_o) (m_termAt l G b I g (lg1.B hs) (by omega) d) w_D_termAt rfl rfl (Nat.le_of_ble_eq_true rfl) (by omega) (by decide) ?_
          rw [lg1.termAt]
          refine mx_is C I 29 20 d_D_sendTo_129 (by unfold md_a; omega) rfl rfl (by omega) (by omega) ?_
          refine qx_iload C d_D_sendTo_130 rfl ?_
          refine nx_if_eq C 187 d_D_sendTo_132 (by decide) (by omega) (fun h4 => ?_) (fun h4 => ?_)
          · have Itr : ∀ (B : md_A) (i c : Int) (l6 l7 : Option Value), md_lg A B → B 29 7 = c → 0 ≤ c ∧ c < 2 → A 4 s < i → i ≤ md_last A s → (∀ (l6 l7 : Option Value), X 190 [some (.ref o), some (.int (iI s)), some (.int (iI to)), some (.int (iI (A 17 (5 * s + to)))), some (.int (iI 0)), some (.int (iI (i + 1))), l6, l7] [] (md_h G o ad iv g (md_put1 A B s i c)) 0 0) → X 190 [some (.ref o), some (.int (iI s)), some (.int (iI to)), some (.int (iI (A 17 (5 * s + to)))), some (.int (iI 0)), some (.int (iI i)), l6, l7] [] (md_h G o ad iv g B) 0 0 := by
              intro B i c l6 l7 lg hc7 hc2 hi hi2 kk
              have hl : md_last A s = A 4 s + A 8 s := rfl
              have hcl : 0 ≤ md_cell A s i ∧ md_cell A s i < 240 := by
                unfold md_cell
                rw [if_pos ⟨hi, hi2⟩]
                omega
              refine qx_iload C d_D_sendTo_190 rfl ?_
              refine qx_aload_n C d_D_sendTo_192 rfl rfl ?_
              refine qx_iload_n C d_D_sendTo_193 rfl rfl ?_
              refine nx_call0 C (s_D_sendTo_194 md_o) (m_last l G b I g (lg.B hs) d) w_D_last rfl rfl (Nat.le_of_ble_eq_true rfl) (by omega) (by decide) ?_
              rw [lg.last]
              refine nx_icmp_gt C 313 d_D_sendTo_197 (by decide) (by omega) (by omega) (fun h5 => ?_) (fun h5 => ?_)
              · exact absurd h5 (by omega)
              · refine qx_aload_n C d_D_sendTo_200 rfl rfl ?_
                refine mx_gi C d_D_sendTo_201 fl_D_89 rfl ?_
                refine qx_bipush C d_D_sendTo_204 (v := iI (7)) (by decide) ?_
                refine mx_ia C I 29 20 d_D_sendTo_206 (by unfold md_a; omega) rfl rfl (by omega) (by omega) ?_
                refine qx_iconst C d_D_sendTo_207 (v := iI (2)) rfl ?_
                rw [hc7]
                refine nx_icmp_ge C 313 d_D_sendTo_208 (by decide) (by omega) (by omega) (fun h6 => ?_) (fun h6 => ?_)
                · exact absurd h6 (by omega)
                · refine qx_aload_n C d_D_sendTo_211 rfl rfl ?_
                  refine qx_iload_n C d_D_sendTo_212 rfl rfl ?_
                  refine qx_iload C d_D_sendTo_213 rfl ?_
                  refine nx_call0 C (s_D_sendTo_215 md_o) (m_cell l G b I g (lg.B hs) (by omega) d) w_D_cell rfl rfl (Nat.le_of_ble_eq_true rfl) (by omega) (by decide) ?_
                  rw [lg.cell]
                  refine nx_istore C d_D_sendTo_218 (Nat.le_of_ble_eq_true rfl) (lo' := [_, _, _, _, _, _, some (.int _), _]) rfl ?_
                  refine qx_bipush C d_D_sendTo_220 (v := iI (10)) (by decide) ?_
                  refine qx_iconst C d_D_sendTo_222 (v := iI (4)) rfl ?_
                  refine qx_aload_n C d_D_sendTo_223 rfl rfl ?_
                  refine mx_gi C d_D_sendTo_224 fl_D_89 rfl ?_
                  refine qx_bipush C d_D_sendTo_227 (v := iI (7)) (by decide) ?_
                  refine mx_ia C I 29 20 d_D_sendTo_229 (by unfold md_a; omega) rfl rfl (by omega) (by omega) ?_
                  rw [hc7]
                  refine nx_imul C d_D_sendTo_230 ?_
                  refine nx_iadd C d_D_sendTo_231 ?_
                  refine nx_istore C d_D_sendTo_232 (Nat.le_of_ble_eq_true rfl) (lo' := [_, _, _, _, _, _, _, some (.int _)]) rfl ?_
                  refine qx_aload_n C d_D_sendTo_234 rfl rfl ?_
                  refine mx_gi C d_D_sendTo_235 fl_D_89 rfl ?_
                  refine qx_iload C d_D_sendTo_238 rfl ?_
                  refine qx_aload_n C d_D_sendTo_240 rfl rfl ?_
                  refine mx_gi C d_D_sendTo_241 fl_D_35 rfl ?_
                  refine qx_iload C d_D_sendTo_244 rfl ?_
                  refine mx_ia C I 9 240 d_D_sendTo_246 (by unfold md_a; omega) rfl rfl (by omega) (by omega) ?_
                  refine mx_is C I 29 20 d_D_sendTo_247 (by unfold md_a; omega) rfl rfl (by omega) (by omega) ?_
                  refine qx_aload_n C d_D_sendTo_248 rfl rfl ?_
                  refine mx_gi C d_D_sendTo_249 fl_D_89 rfl ?_
                  refine qx_iload C d_D_sendTo_252 rfl ?_
                  refine qx_iconst C d_D_sendTo_254 (v := iI (1)) rfl ?_
                  refine nx_iadd C d_D_sendTo_255 ?_
                  refine qx_aload_n C d_D_sendTo_256 rfl rfl ?_
                  refine mx_gi C d_D_sendTo_257 fl_D_38 rfl ?_
                  refine qx_iload C d_D_sendTo_260 rfl ?_
                  refine mx_ia C I 10 240 d_D_sendTo_262 (by unfold md_a; omega) rfl rfl (by omega) (by omega) ?_
                  refine mx_is C I 29 20 d_D_sendTo_263 (by unfold md_a; omega) rfl rfl (by omega) (by omega) ?_
                  refine qx_aload_n C d_D_sendTo_264 rfl rfl ?_
                  refine mx_gi C d_D_sendTo_265 fl_D_89 rfl ?_
                  refine qx_iload C d_D_sendTo_268 rfl ?_
                  refine qx_iconst C d_D_sendTo_270 (v := iI (2)) rfl ?_
                  refine nx_iadd C d_D_sendTo_271 ?_
                  refine qx_aload_n C d_D_sendTo_272 rfl rfl ?_
                  refine mx_gi C d_D_sendTo_273 fl_D_41 rfl ?_
                  refine qx_iload C d_D_sendTo_276 rfl ?_
                  refine mx_ia C I 11 240 d_D_sendTo_278 (by unfold md_a; omega) rfl rfl (by omega) (by omega) ?_
                  refine mx_is C I 29 20 d_D_sendTo_279 (by unfold md_a; omega) rfl rfl (by omega) (by omega) ?_
                  refine qx_aload_n C d_D_sendTo_280 rfl rfl ?_
                  refine mx_gi C d_D_sendTo_281 fl_D_89 rfl ?_
                  refine qx_iload C d_D_sendTo_284 rfl ?_
                  refine qx_iconst C d_D_sendTo_286 (v := iI (3)) rfl ?_
                  refine nx_iadd C d_D_sendTo_287 ?_
                  refine qx_aload_n C d_D_sendTo_288 rfl rfl ?_
                  refine mx_gi C d_D_sendTo_289 fl_D_44 rfl ?_
                  refine qx_iload C d_D_sendTo_292 rfl ?_
                  refine mx_ia C I 12 240 d_D_sendTo_294 (by unfold md_a; omega) rfl rfl (by omega) (by omega) ?_
                  refine mx_is C I 29 20 d_D_sendTo_295 (by unfold md_a; omega) rfl rfl (by omega) (by omega) ?_
                  refine qx_aload_n C d_D_sendTo_296 rfl rfl ?_
                  refine mx_gi C d_D_sendTo_297 fl_D_89 rfl ?_
                  refine qx_bipush C d_D_sendTo_300 (v := iI (7)) (by decide) ?_
                  rw [lg 9 (by decide) (by decide), md_uk (k := 29) (j := 10) (by decide), lg 10 (by decide) (by decide), md_uk (k := 29) (j := 11) (by decide), md_uk (k := 29) (j := 11) (by decide), lg 11 (by decide) (by decide), md_uk (k := 29) (j := 12) (by decide), md_uk (k := 29) (j := 12) (by decide), md_uk (k := 29) (j := 12) (by decide), lg 12 (by decide) (by decide)]
                  refine qx_dup2 C d_D_sendTo_302 rfl rfl ?_
                  refine mx_ia C I 29 20 d_D_sendTo_303 (by unfold md_a; omega) rfl rfl (by omega) (by omega) ?_
                  rw [md_ui (i := 10 + 4 * c + 3) (x := 7) (by omega), md_ui (i := 10 + 4 * c + 2) (x := 7) (by omega), md_ui (i := 10 + 4 * c + 1) (x := 7) (by omega), md_ui (i := 10 + 4 * c) (x := 7) (by omega), hc7]
                  refine qx_iconst C d_D_sendTo_304 (v := iI (1)) rfl ?_
                  refine nx_iadd C d_D_sendTo_305 ?_
                  refine mx_is C I 29 20 d_D_sendTo_306 (by unfold md_a; omega) rfl rfl (by omega) (by omega) ?_
                  refine nx_iinc C d_D_sendTo_307 rfl (lo' := [_, _, _, _, _, some (.int _), _, _]) rfl ?_
                  refine qx_goto C d_D_sendTo_310 (tgt := 190) (by decide) ?_
                  exact kk _ _
            have hb7 : (md_u (md_u (md_hd A s to 4) 29 4 (A 17 (5 * s + to) - 1)) 29 5 (md_termAt A s (A 17 (5 * s + to) - 1))) 29 7 = 0 := by
              unfold md_hd md_begin
              rw [md_ui (by decide), md_ui (by decide), md_ui (by decide), md_ui (by decide), md_ui (by decide), md_ui (by decide), md_ui (by decide), md_ui (by decide), md_wi (by decide)]
            have es : ∀ x, md_ents A (md_u (md_u (md_hd A s to 4) 29 4 (A 17 (5 * s + to) - 1)) 29 5 (md_termAt A s (A 17 (5 * s + to) - 1))) s (A 17 (5 * s + to)) = x → md_post x = md_sendTo A s to := by
              intro x hx
              unfold md_sendTo
              rw [if_neg (by omega)]
              unfold md_appd
              rw [hx]
            have lg2 := lg1.u (k := 29) (i := 5) (v := md_termAt A s (A 17 (5 * s + to) - 1)) (by omega)
            have hl := md_last_r hs
            refine qx_iload_n C d_D_sendTo_187 rfl rfl ?_
            refine nx_istore C d_D_sendTo_188 (Nat.le_of_ble_eq_true rfl) (lo' := [_, _, _, _, _, some (.int _), _, _]) rfl ?_
            by_cases k1 : md_last A s < A 17 (5 * s + to)
            · refine qx_iload C d_D_sendTo_190 rfl ?_
              refine qx_aload_n C d_D_sendTo_192 rfl rfl ?_
              refine qx_iload_n C d_D_sendTo_193 rfl rfl ?_
              refine nx_call0 C (s_D_sendTo_194 md_o) (m_last l G b I g (lg2.B hs) d) w_D_last rfl rfl (Nat.le_of_ble_eq_true rfl) (by omega) (by decide) ?_
              rw [lg2.last]
              refine nx_icmp_gt C 313 d_D_sendTo_197 (by decide) (by omega) (by omega) (fun h5 => ?_) (fun h5 => ?_)
              · exact F _ _ _ _ _ _ ww1 (es _ (by unfold md_ents; rw [if_pos k1]))
              · exact absurd k1 h5
            · refine Itr _ _ 0 _ _ lg2 hb7 (by omega) (by omega) (by omega) (fun l6 l7 => ?_)
              have lg3 : md_lg A (md_put1 A (md_u (md_u (md_hd A s to 4) 29 4 (A 17 (5 * s + to) - 1)) 29 5 (md_termAt A s (A 17 (5 * s + to) - 1))) s (A 17 (5 * s + to)) 0) := (((((lg2.u (by omega)).u (by omega)).u (by omega)).u (by omega)).u (by omega))
              by_cases k2 : md_last A s < A 17 (5 * s + to) + 1
              · refine qx_iload C d_D_sendTo_190 rfl ?_
                refine qx_aload_n C d_D_sendTo_192 rfl rfl ?_
                refine qx_iload_n C d_D_sendTo_193 rfl rfl ?_
                refine nx_call0 C (s_D_sendTo_194 md_o) (m_last l G b I g (lg3.B hs) d) w_D_last rfl rfl (Nat.le_of_ble_eq_true rfl) (by omega) (by decide) ?_
                rw [lg3.last]
                refine nx_icmp_gt C 313 d_D_sendTo_197 (by decide) (by omega) (by omega) (fun h5 => ?_) (fun h5 => ?_)
                · exact F _ _ _ _ _ _ (md_put1_ww hw.1 ww1 (by omega)) (es _ (by unfold md_ents; rw [if_neg k1, if_pos k2]))
                · exact absurd k2 h5
              · refine Itr _ _ 1 _ _ lg3 md_us (by omega) (by omega) (by omega) (fun l6 l7 => ?_)
                have lg4 : md_lg A (md_put1 A (md_put1 A (md_u (md_u (md_hd A s to 4) 29 4 (A 17 (5 * s + to) - 1)) 29 5 (md_termAt A s (A 17 (5 * s + to) - 1))) s (A 17 (5 * s + to)) 0) s (A 17 (5 * s + to) + 1) 1) := (((((lg3.u (by omega)).u (by omega)).u (by omega)).u (by omega)).u (by omega))
                have ww4 := md_put1_ww (s := s) (i := A 17 (5 * s + to) + 1) (c := 1) hw.1 (md_put1_ww (s := s) (i := A 17 (5 * s + to)) (c := 0) hw.1 ww1 (by omega)) (by omega)
                have e4 := es _ (by unfold md_ents; rw [if_neg k1, if_neg k2])
                refine qx_iload C d_D_sendTo_190 rfl ?_
                refine qx_aload_n C d_D_sendTo_192 rfl rfl ?_
                refine qx_iload_n C d_D_sendTo_193 rfl rfl ?_
                refine nx_call0 C (s_D_sendTo_194 md_o) (m_last l G b I g (lg4.B hs) d) w_D_last rfl rfl (Nat.le_of_ble_eq_true rfl) (by omega) (by decide) ?_
                rw [lg4.last]
                refine nx_icmp_gt C 313 d_D_sendTo_197 (by decide) (by omega) (by omega) (fun h5 => ?_) (fun h5 => ?_)
                · exact F _ _ _ _ _ _ ww4 e4
                · refine qx_aload_n C d_D_sendTo_200 rfl rfl ?_
                  refine mx_gi C d_D_sendTo_201 fl_D_89 rfl ?_
                  refine qx_bipush C d_D_sendTo_204 (v := iI (7)) (by decide) ?_
                  refine mx_ia C I 29 20 d_D_sendTo_206 (by unfold md_a; omega) rfl rfl (by omega) (by omega) ?_
                  refine qx_iconst C d_D_sendTo_207 (v := iI (2)) rfl ?_
                  rw [show md_put1 A (md_put1 A (md_u (md_u (md_hd A s to 4) 29 4 (A 17 (5 * s + to) - 1)) 29 5 (md_termAt A s (A 17 (5 * s + to) - 1))) s (A 17 (5 * s + to)) 0) s (A 17 (5 * s + to) + 1) 1 29 7 = 2 from md_us]
                  refine nx_icmp_ge C 313 d_D_sendTo_208 (by decide) (by omega) (by omega) (fun h6 => ?_) (fun h6 => ?_)
                  · exact F _ _ _ _ _ _ ww4 e4
                  · exact absurd h6 (by decide)
          · exact absurd rfl h4
        · exact absurd rfl h3
      · exact absurd rfl h2
    · exact absurd rfl h1
  · refine qx_iconst C d_D_sendTo_23 (v := iI (1)) rfl ?_
    refine qx_goto C d_D_sendTo_24 (tgt := 28) (by decide) ?_
    refine nx_istore C d_D_sendTo_28 (Nat.le_of_ble_eq_true rfl) (lo' := [_, _, _, _, some (.int _), _, _, _]) rfl ?_
    refine qx_aload_n C d_D_sendTo_30 rfl rfl ?_
    refine qx_iload C d_D_sendTo_31 rfl ?_
    refine nx_if_eq C 41 d_D_sendTo_33 (by decide) (by omega) (fun h1 => ?_) (fun h1 => ?_)
    · exact absurd h1 (by decide)
    · refine qx_bipush C d_D_sendTo_36 (v := iI (6)) (by decide) ?_
      refine qx_goto C d_D_sendTo_38 (tgt := 42) (by decide) ?_
      refine qx_iload_n C d_D_sendTo_42 rfl rfl ?_
      refine qx_iload_n C d_D_sendTo_43 rfl rfl ?_
      refine qx_aload_n C d_D_sendTo_44 rfl rfl ?_
      refine mx_gi C d_D_sendTo_45 fl_D_13 rfl ?_
      refine qx_iload_n C d_D_sendTo_48 rfl rfl ?_
      refine mx_ia C I 2 5 d_D_sendTo_49 (by unfold md_a; omega) rfl rfl (by omega) (by omega) ?_
      refine nx_callv C (s_D_sendTo_50 md_o) (m_begin l G b I g A d) w_D_begin rfl rfl (Nat.le_of_ble_eq_true rfl) (by omega) (by decide) ?_
      refine qx_aload_n C d_D_sendTo_53 rfl rfl ?_
      refine mx_gi C d_D_sendTo_54 fl_D_89 rfl ?_
      refine qx_bipush C d_D_sendTo_57 (v := iI (9)) (by decide) ?_
      refine qx_aload_n C d_D_sendTo_59 rfl rfl ?_
      refine mx_gi C d_D_sendTo_60 fl_D_68 rfl ?_
      refine qx_iload_n C d_D_sendTo_63 rfl rfl ?_
      refine mx_ia C I 20 5 d_D_sendTo_64 (by unfold md_a; omega) rfl rfl (by omega) (by omega) ?_
      refine mx_is C I 29 20 d_D_sendTo_65 (by unfold md_a; omega) rfl rfl (by omega) (by omega) ?_
      refine qx_aload_n C d_D_sendTo_66 rfl rfl ?_
      refine mx_gi C d_D_sendTo_67 fl_D_89 rfl ?_
      refine qx_bipush C d_D_sendTo_70 (v := iI (8)) (by decide) ?_
      refine qx_aload_n C d_D_sendTo_72 rfl rfl ?_
      refine mx_gi C d_D_sendTo_73 fl_D_50 rfl ?_
      refine qx_iload_n C d_D_sendTo_76 rfl rfl ?_
      refine mx_ia C I 14 5 d_D_sendTo_77 (by unfold md_a; omega) rfl rfl (by omega) (by omega) ?_
      refine mx_is C I 29 20 d_D_sendTo_78 (by unfold md_a; omega) rfl rfl (by omega) (by omega) ?_
      refine qx_aload_n C d_D_sendTo_79 rfl rfl ?_
      refine mx_gi C d_D_sendTo_80 fl_D_89 rfl ?_
      refine qx_iconst C d_D_sendTo_83 (v := iI (4)) rfl ?_
      refine qx_iload C d_D_sendTo_84 rfl ?_
      rw [md_begin_k (k := 20) (by decide), md_uk (k := 29) (j := 14) (by decide), md_begin_k (k := 14) (by decide)]
      refine nx_if_eq C 98 d_D_sendTo_86 (by decide) (by omega) (fun h2 => ?_) (fun h2 => ?_)
      · exact absurd h2 (by decide)
      · refine qx_aload_n C d_D_sendTo_89 rfl rfl ?_
        refine mx_gi C d_D_sendTo_90 fl_D_20 rfl ?_
        refine qx_iload_n C d_D_sendTo_93 rfl rfl ?_
        refine mx_ia C I 4 5 d_D_sendTo_94 (by unfold md_a; omega) rfl rfl (by omega) (by omega) ?_
        refine qx_goto C d_D_sendTo_95 (tgt := 101) (by decide) ?_
        refine mx_is C I 29 20 d_D_sendTo_101 (by unfold md_a; omega) rfl rfl (by omega) (by omega) ?_
        refine qx_aload_n C d_D_sendTo_102 rfl rfl ?_
        refine mx_gi C d_D_sendTo_103 fl_D_89 rfl ?_
        refine qx_iconst C d_D_sendTo_106 (v := iI (5)) rfl ?_
        refine qx_iload C d_D_sendTo_107 rfl ?_
        rw [md_uk (k := 29) (j := 4) (by decide), md_uk (k := 29) (j := 4) (by decide), md_begin_k (k := 4) (by decide)]
        refine nx_if_eq C 121 d_D_sendTo_109 (by decide) (by omega) (fun h3 => ?_) (fun h3 => ?_)
        · exact absurd h3 (by decide)
        · refine qx_aload_n C d_D_sendTo_112 rfl rfl ?_
          refine mx_gi C d_D_sendTo_113 fl_D_23 rfl ?_
          refine qx_iload_n C d_D_sendTo_116 rfl rfl ?_
          refine mx_ia C I 5 5 d_D_sendTo_117 (by unfold md_a; omega) rfl rfl (by omega) (by omega) ?_
          refine qx_goto C d_D_sendTo_118 (tgt := 129) (by decide) ?_
          refine mx_is C I 29 20 d_D_sendTo_129 (by unfold md_a; omega) rfl rfl (by omega) (by omega) ?_
          refine qx_iload C d_D_sendTo_130 rfl ?_
          rw [md_uk (k := 29) (j := 5) (by decide), md_uk (k := 29) (j := 5) (by decide), md_uk (k := 29) (j := 5) (by decide), md_begin_k (k := 5) (by decide)]
          refine nx_if_eq C 187 d_D_sendTo_132 (by decide) (by omega) (fun h4 => ?_) (fun h4 => ?_)
          · exact absurd h4 (by decide)
          · refine qx_aload_n C d_D_sendTo_135 rfl rfl ?_
            refine mx_gi C d_D_sendTo_136 fl_D_89 rfl ?_
            refine qx_bipush C d_D_sendTo_139 (v := iI (10)) (by decide) ?_
            refine qx_aload_n C d_D_sendTo_141 rfl rfl ?_
            refine mx_gi C d_D_sendTo_142 fl_D_26 rfl ?_
            refine qx_iload_n C d_D_sendTo_145 rfl rfl ?_
            refine mx_ia C I 6 5 d_D_sendTo_146 (by unfold md_a; omega) rfl rfl (by omega) (by omega) ?_
            refine mx_is C I 29 20 d_D_sendTo_147 (by unfold md_a; omega) rfl rfl (by omega) (by omega) ?_
            refine qx_iconst C d_D_sendTo_148 (v := iI (0)) rfl ?_
            refine nx_istore C d_D_sendTo_149 (Nat.le_of_ble_eq_true rfl) (lo' := [_, _, _, _, _, some (.int _), _, _]) rfl ?_
            rw [md_uk (k := 29) (j := 6) (by decide), md_uk (k := 29) (j := 6) (by decide), md_uk (k := 29) (j := 6) (by decide), md_uk (k := 29) (j := 6) (by decide), md_begin_k (k := 6) (by decide)]
            have ww1 : md_ww (md_u (md_u (md_u (md_hd A s to 6) 29 4 (A 4 s)) 29 5 (A 5 s)) 29 10 (A 6 s)) := (((md_hd_ww (kind := 6) hw (by omega) (by omega) (by omega)).u (k := 29) (i := 4) (by decide) (hw.1 4 s)).u (k := 29) (i := 5) (by decide) (hw.1 5 s)).u (k := 29) (i := 10) (by decide) (hw.1 6 s)
            have Lp : ∀ (r : Nat) (q : Int) (B : md_A), q + r = 4 → 0 ≤ q → B = md_w (md_u (md_u (md_u (md_hd A s to 6) 29 4 (A 4 s)) 29 5 (A 5 s)) 29 10 (A 6 s)) 29 11 (11 + q) (fun x => A 7 (4 * s + (x - 11))) → X 151 [some (.ref o), some (.int (iI s)), some (.int (iI to)), some (.int (iI (A 17 (5 * s + to)))), some (.int (iI 1)), some (.int (iI q)), none, none] [] (md_h G o ad iv g B) 0 0 := by
              intro r
              induction r with
              | zero =>
                intro q B hq h0 hB
                refine qx_iload C d_D_sendTo_151 rfl ?_
                refine qx_iconst C d_D_sendTo_153 (v := iI (4)) rfl ?_
                refine nx_icmp_ge C 184 d_D_sendTo_154 (by decide) (by omega) (by omega) (fun h5 => ?_) (fun h5 => ?_)
                · refine qx_goto C d_D_sendTo_184 (tgt := 313) (by decide) ?_
                  refine F _ _ _ _ _ _ ?_ ?_
                  · rw [hB]
                    exact ⟨md_r_w ww1.1 (fun x => hw.1 _ _), by rw [md_wk (by decide)]; exact ww1.2⟩
                  · unfold md_sendTo
                    rw [if_pos (by omega), hB, show 11 + q = 15 by omega]
                    rfl
                · exact absurd h5 (by omega)
              | succ r ih =>
                intro q B hq h0 hB
                have e7 : B 7 (4 * s + q) = A 7 (4 * s + q) := by rw [hB, md_wk (by decide), md_uk (by decide), md_uk (by decide), md_uk (by decide), md_hd_k (by decide)]
                refine qx_iload C d_D_sendTo_151 rfl ?_
                refine qx_iconst C d_D_sendTo_153 (v := iI (4)) rfl ?_
                refine nx_icmp_ge C 184 d_D_sendTo_154 (by decide) (by omega) (by omega) (fun h5 => ?_) (fun h5 => ?_)
                · exact absurd h5 (by omega)
                · refine qx_aload_n C d_D_sendTo_157 rfl rfl ?_
                  refine mx_gi C d_D_sendTo_158 fl_D_89 rfl ?_
                  refine qx_bipush C d_D_sendTo_161 (v := iI (11)) (by decide) ?_
                  refine qx_iload C d_D_sendTo_163 rfl ?_
                  refine nx_iadd C d_D_sendTo_165 ?_
                  refine qx_aload_n C d_D_sendTo_166 rfl rfl ?_
                  refine mx_gi C d_D_sendTo_167 fl_D_29 rfl ?_
                  refine qx_iconst C d_D_sendTo_170 (v := iI (4)) rfl ?_
                  refine qx_iload_n C d_D_sendTo_171 rfl rfl ?_
                  refine nx_imul C d_D_sendTo_172 ?_
                  refine qx_iload C d_D_sendTo_173 rfl ?_
                  refine nx_iadd C d_D_sendTo_175 ?_
                  refine mx_ia C I 7 20 d_D_sendTo_176 (by unfold md_a; omega) rfl rfl (by omega) (by omega) ?_
                  refine mx_is C I 29 20 d_D_sendTo_177 (by unfold md_a; omega) rfl rfl (by omega) (by omega) ?_
                  refine nx_iinc C d_D_sendTo_178 rfl (lo' := [_, _, _, _, _, some (.int _), _, _]) rfl ?_
                  refine qx_goto C d_D_sendTo_181 (tgt := 151) (by decide) ?_
                  refine ih _ _ (by omega) (by omega) ?_
                  rw [e7, hB, show (11 : Int) + (q + 1) = 11 + q + 1 by omega]
                  exact md_w_s _ 29 _ (by omega) (by rw [show 11 + q - 11 = q by omega])
            exact Lp 4 0 _ (by omega) (by omega) (md_w_0 _ 29 11 _).symm
