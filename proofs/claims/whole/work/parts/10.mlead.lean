/-! the reference: commits, reads, leading -/
def md_all (A : md_A) (s : Int) : Nat → md_A
  | 0 => A
  | n + 1 => if (n : Int) = s ∨ ¬ bit (md_config A s) n = 1 then md_all A s n else md_sendTo (md_all A s n) s n
theorem md_all_s (A : md_A) (s : Int) (n : Nat) : md_all A s (n + 1) = if (n : Int) = s ∨ ¬ bit (md_config A s) n = 1 then md_all A s n else md_sendTo (md_all A s n) s n := rfl
theorem md_all_k {A : md_A} {s i : Int} {k : Nat} (h : k ≠ 27 ∧ k ≠ 28 ∧ k ≠ 29) : ∀ n, md_all A s n k i = A k i
  | 0 => rfl
  | n + 1 => by
    rw [md_all_s]
    split
    · exact md_all_k h n
    · rw [md_sendTo_k h]; exact md_all_k h n
theorem md_all_lg (A : md_A) (s : Int) (n : Nat) : md_lg A (md_all A s n) := fun k h1 h2 => by
  funext x
  exact md_all_k (by omega) n
/-- the next indices in bounds -/
abbrev md_nx (A : md_A) (s : Int) : Prop := ∀ i : Int, -1000000 ≤ A 17 (5 * s + i) ∧ A 17 (5 * s + i) ≤ 2000000
theorem md_all_ww {A : md_A} {s : Int} (h : md_ww A) (hs : 0 ≤ s ∧ s < 5) (hn : md_nx A s) : ∀ n, n ≤ 5 → md_ww (md_all A s n)
  | 0, _ => h
  | n + 1, hm => by
    have ih := md_all_ww h hs hn n (by omega)
    rw [md_all_s]
    split
    · exact ih
    · have h1 := hn n
      exact md_sendTo_ww ih (by omega) (by omega) (by rw [md_all_k (by decide)]; omega)
set_option maxRecDepth 100000 in
theorem m_sendAll (l : Launch) (G : qh_G) (b : Nat) {o : Nat} {ad : Nat → Nat} {iv : Nat → Option Nat} (I : md_I o ad iv) (g : qh_H) {A : md_A} {s : Int} (hs : md_B A s) (hw : md_ww A) (hcf : set5 (md_config A s)) (hn : md_nx A s) (d : Nat) : qv l y_D_sendAll c_D_sendAll 4 none (d + 5) 0 0 G b [.ref o, .int (iI s)] (md_h G o ad iv g A) (md_h G o ad iv g (md_all A s 5)) := by
  refine qx_of (lo := [some (.ref o), some (.int (iI s)), none, none]) (by decide) (fun w hw => List.mem_cons_of_mem _ hw) rfl (Nat.le_of_ble_eq_true rfl) rfl ?_
  intro X C
  have L : ∀ (r j : Nat) (q : Int) (B : md_A), j + r = 5 → q = j → B = md_all A s j → X 8 [some (.ref o), some (.int (iI s)), some (.int (iI (md_config A s))), some (.int (iI q))] [] (md_h G o ad iv g B) 0 0 := by
    intro r
    induction r with
    | zero =>
      intro j q B hj hq hB
      refine qx_iload_n C d_D_sendAll_8 rfl rfl ?_
      refine qx_iconst C d_D_sendAll_9 (v := iI (5)) rfl ?_
      refine nx_icmp_ge C 39 d_D_sendAll_10 (by decide) (by omega) (by omega) (fun hc => ?_) (fun hc => ?_)
      · refine qx_vret C d_D_sendAll_39 (Nat.zero_le _) (Nat.zero_le _) ⟨rfl, ?_⟩
        rw [hB, show j = 5 by omega]
      · exact absurd hc (by omega)
    | succ r ih =>
      intro j q B hj hq hB
      subst hq
      have lg : md_lg A B := hB ▸ md_all_lg A s j
      have ww : md_ww B := hB ▸ md_all_ww hw (by omega) hn j (by omega)
      have hbit := bit_01 (md_config A s) j
      have e1 : md_all A s (j + 1) = if (j : Int) = s ∨ ¬ bit (md_config A s) j = 1 then B else md_sendTo B s j := by rw [hB]; rfl
      have e2 : B 17 (5 * s + j) = A 17 (5 * s + j) := by rw [hB]; exact md_all_k (by decide) j
      have hn2 := hn j
      refine qx_iload_n C d_D_sendAll_8 rfl rfl ?_
      refine qx_iconst C d_D_sendAll_9 (v := iI (5)) rfl ?_
      refine nx_icmp_ge C 39 d_D_sendAll_10 (by decide) (by omega) (by omega) (fun hc => ?_) (fun hc => ?_)
      · exact absurd hc (by omega)
      · refine qx_iload_n C d_D_sendAll_13 rfl rfl ?_
        refine qx_iload_n C d_D_sendAll_14 rfl rfl ?_
        refine nx_icmp_eq C 33 d_D_sendAll_15 (by decide) (by omega) (by omega) (fun h1 => ?_) (fun h1 => ?_)
        · refine nx_iinc C d_D_sendAll_33 rfl (lo' := [_, _, _, some (.int _)]) rfl ?_
          refine qx_goto C d_D_sendAll_36 (tgt := 8) (by decide) ?_
          exact ih (j + 1) _ _ (by omega) (by omega) (by rw [e1, if_pos (Or.inl h1)])
        · refine qx_iload_n C d_D_sendAll_18 rfl rfl ?_
          refine qx_iload_n C d_D_sendAll_19 rfl rfl ?_
          refine nx_bit C d_D_sendAll_20 d_D_sendAll_21 d_D_sendAll_22 (by omega) (by omega) ?_
          refine qx_iconst C d_D_sendAll_23 (v := iI (1)) rfl ?_
          refine nx_icmp_ne C 33 d_D_sendAll_24 (by decide) (by omega) (by omega) (fun h2 => ?_) (fun h2 => ?_)
          · refine nx_iinc C d_D_sendAll_33 rfl (lo' := [_, _, _, some (.int _)]) rfl ?_
            refine qx_goto C d_D_sendAll_36 (tgt := 8) (by decide) ?_
            exact ih (j + 1) _ _ (by omega) (by omega) (by rw [e1, if_pos (Or.inr h2)])
          · refine qx_aload_n C d_D_sendAll_27 rfl rfl ?_
            refine qx_iload_n C d_D_sendAll_28 rfl rfl ?_
            refine qx_iload_n C d_D_sendAll_29 rfl rfl ?_
            refine nx_callv C (s_D_sendAll_30 md_o) (m_sendTo l G b I g (lg.B hs) (by omega) ww (by omega) d) w_D_sendTo rfl rfl (Nat.le_of_ble_eq_true rfl) (by omega) (by decide) ?_
            refine nx_iinc C d_D_sendAll_33 rfl (lo' := [_, _, _, some (.int _)]) rfl ?_
            refine qx_goto C d_D_sendAll_36 (tgt := 8) (by decide) ?_
            exact ih (j + 1) _ _ (by omega) (by omega) (by rw [e1, if_neg (by omega)])
  refine qx_aload_n C d_D_sendAll_0 rfl rfl ?_
  refine qx_iload_n C d_D_sendAll_1 rfl rfl ?_
  refine nx_call0 C (s_D_sendAll_2 md_o) (m_config l G b I g hw.1 hs d) w_D_config rfl rfl (Nat.le_of_ble_eq_true rfl) (by omega) (by decide) ?_
  refine nx_istore_n C d_D_sendAll_5 rfl (Nat.le_of_ble_eq_true rfl) (lo' := [_, _, some (.int _), _]) rfl ?_
  refine qx_iconst C d_D_sendAll_6 (v := iI (0)) rfl ?_
  refine nx_istore_n C d_D_sendAll_7 rfl (Nat.le_of_ble_eq_true rfl) (lo' := [_, _, _, some (.int _)]) rfl ?_
  exact L 5 0 _ _ (by omega) (by omega) rfl
/-- the commit found among the n indices above the one that stands -/
def md_fc (A : md_A) (s : Int) : Nat → Int
  | 0 => A 14 s
  | n + 1 => if md_termAt A s (A 14 s + n + 1) = A 2 s ∧ md_most A s (md_reach A 18 s (A 14 s + n + 1) 5) = 1 then A 14 s + n + 1 else md_fc A s n
theorem md_fc_s (A : md_A) (s : Int) (n : Nat) : md_fc A s (n + 1) = if md_termAt A s (A 14 s + n + 1) = A 2 s ∧ md_most A s (md_reach A 18 s (A 14 s + n + 1) 5) = 1 then A 14 s + n + 1 else md_fc A s n := rfl
theorem md_fc_in (A : md_A) (s : Int) : ∀ n : Nat, A 14 s ≤ md_fc A s n ∧ md_fc A s n ≤ A 14 s + n
  | 0 => ⟨Int.le_refl _, by unfold md_fc; omega⟩
  | n + 1 => by
    have := md_fc_in A s n
    rw [md_fc_s]
    split <;> omega
def md_fcm (A : md_A) (s : Int) : md_A := md_u A 14 s (md_fc A s (md_last A s - A 14 s).toNat)
def md_look (A : md_A) (s : Int) : md_A := if 0 < md_lm A s (A 8 s).toNat ∧ md_lm A s (A 8 s).toNat ≤ md_fcm A s 14 s ∧ md_mine A s = 0 then md_follow (md_fcm A s) s else md_fcm A s
theorem md_most_01 (A : md_A) (s x : Int) : md_most A s x = 0 ∨ md_most A s x = 1 := by
  unfold md_most
  split
  · exact Or.inr rfl
  · exact Or.inl rfl
theorem md_follow_k {A : md_A} {s i : Int} {k : Nat} (h : k ≠ 13 ∧ k ≠ 25) : md_follow A s k i = A k i := by
  unfold md_follow
  split
  · rw [md_wk h.2, md_uk h.1]
  · rw [md_uk h.1]
theorem md_follow_ww {A : md_A} {s : Int} (h : md_ww A) : md_ww (md_follow A s) := by
  refine ⟨?_, by rw [md_follow_k (by decide)]; exact h.2⟩
  unfold md_follow
  split
  · refine md_r_w (md_r_u h.1 (by omega)) (fun x => ?_)
    split
    · omega
    · exact h.1 _ _
  · exact md_r_u h.1 (by omega)
theorem md_look_k {A : md_A} {s i : Int} {k : Nat} (h : k ≠ 13 ∧ k ≠ 14 ∧ k ≠ 25) : md_look A s k i = A k i := by
  unfold md_look md_fcm
  split
  · rw [md_follow_k ⟨h.1, h.2.2⟩, md_uk h.2.1]
  · rw [md_uk h.2.1]
theorem md_look_lg (A : md_A) (s : Int) : md_lg A (md_look A s) := fun k h1 h2 => by
  funext x
  exact md_look_k (by omega)
theorem md_fcm_ww {A : md_A} {s : Int} (h : md_ww A) (hs : md_B A s) (hc : -1 ≤ A 14 s ∧ A 14 s ≤ 1000100) : md_ww (md_fcm A s) := by
  have h1 := md_fc_in A s (md_last A s - A 14 s).toNat
  have h2 : md_last A s = A 4 s + A 8 s := rfl
  exact h.u (by decide) (by omega)
theorem md_look_ww {A : md_A} {s : Int} (h : md_ww A) (hs : md_B A s) (hc : -1 ≤ A 14 s ∧ A 14 s ≤ 1000100) : md_ww (md_look A s) := by
  unfold md_look
  split
  · exact md_follow_ww (md_fcm_ww h hs hc)
  · exact md_fcm_ww h hs hc
set_option maxRecDepth 100000 in
theorem m_lookAtCommit (l : Launch) (G : qh_G) (b : Nat) {o : Nat} {ad : Nat → Nat} {iv : Nat → Option Nat} (I : md_I o ad iv) (g : qh_H) {A : md_A} {s : Int} (hs : md_B A s) (hw : md_ww A) (hcf : set5 (md_config A s)) (hcm : -1 ≤ A 14 s ∧ A 14 s ≤ 1000100) (hrd : 0 ≤ A 21 0 ∧ A 21 0 ≤ 60) (d : Nat) : qv l y_D_lookAtCommit c_D_lookAtCommit 4 none (d + 6) 0 0 G b [.ref o, .int (iI s)] (md_h G o ad iv g A) (md_h G o ad iv g (md_look A s)) := by
  have hl : md_last A s = A 4 s + A 8 s := rfl
  have hz := md_sz hs
  refine qx_of (lo := [some (.ref o), some (.int (iI s)), none, none]) (by decide) (fun w hw => List.mem_cons_of_mem _ hw) rfl (Nat.le_of_ble_eq_true rfl) rfl ?_
  intro X C
  have L : ∀ (r j : Nat) (f q : Int), j + r = (md_last A s - A 14 s).toNat → q = A 14 s + 1 + j → f = md_fc A s j → X 16 [some (.ref o), some (.int (iI s)), some (.int (iI f)), some (.int (iI q))] [] (md_h G o ad iv g A) 0 0 := by
    intro r
    induction r with
    | zero =>
      intro j f q hj hq hf
      have hfi := md_fc_in A s j
      rw [← hf] at hfi
      have hff : md_u A 14 s f = md_fcm A s := by unfold md_fcm; rw [hf, show j = (md_last A s - A 14 s).toNat by omega]
      have lg : md_lg A (md_fcm A s) := (md_lg.rf A).u (by omega)
      have hff2 : md_fcm A s 14 s = f := by rw [← hff]; exact md_us
      have hmr : 0 ≤ md_lm A s (A 8 s).toNat ∧ md_lm A s (A 8 s).toNat ≤ 1000100 := by rcases md_lm_in A s (A 8 s).toNat with h | ⟨j, h1, h2⟩ <;> omega
      have hb1 := bit_01 (md_config A s) s
      have hmi : md_mine A s = bit (md_config A s) s := rfl
      have ww := md_fcm_ww hw hs hcm
      have e21 : md_fcm A s 21 0 = A 21 0 := md_uk (by decide)
      refine qx_iload_n C d_D_lookAtCommit_16 rfl rfl ?_
      refine qx_aload_n C d_D_lookAtCommit_17 rfl rfl ?_
      refine qx_iload_n C d_D_lookAtCommit_18 rfl rfl ?_
      refine nx_call0 C (s_D_lookAtCommit_19 md_o) (m_last l G b I g hs d) w_D_last rfl rfl (Nat.le_of_ble_eq_true rfl) (by omega) (by decide) ?_
      refine nx_icmp_gt C 62 d_D_lookAtCommit_22 (by decide) (by omega) (by omega) (fun h1 => ?_) (fun h1 => ?_)
      · refine qx_aload_n C d_D_lookAtCommit_62 rfl rfl ?_
        refine mx_gi C d_D_lookAtCommit_63 fl_D_50 rfl ?_
        refine qx_iload_n C d_D_lookAtCommit_66 rfl rfl ?_
        refine qx_iload_n C d_D_lookAtCommit_67 rfl rfl ?_
        refine mx_is C I 14 5 d_D_lookAtCommit_68 (by unfold md_a; omega) rfl rfl (by omega) (by omega) ?_
        refine qx_aload_n C d_D_lookAtCommit_69 rfl rfl ?_
        refine qx_iload_n C d_D_lookAtCommit_70 rfl rfl ?_
        refine qx_aload_n C d_D_lookAtCommit_71 rfl rfl ?_
        refine qx_iload_n C d_D_lookAtCommit_72 rfl rfl ?_
        rw [hff]
        refine nx_call0 C (s_D_lookAtCommit_73 md_o) (m_last l G b I g (lg.B hs) d) w_D_last rfl rfl (Nat.le_of_ble_eq_true rfl) (by omega) (by decide) ?_
        refine nx_call0 C (s_D_lookAtCommit_76 md_o) (m_latestMembers l G b I g ww.1 (lg.B hs) (t := (A 8 s).toNat) (by rw [lg 8 (by decide) (by decide)]; omega) (by rw [lg.last, lg 4 (by decide) (by decide)]; omega) d) w_D_latestMembers rfl rfl (Nat.le_of_ble_eq_true rfl) (by omega) (by decide) ?_
        rw [lg.lm]
        refine nx_istore_n C d_D_lookAtCommit_79 rfl (Nat.le_of_ble_eq_true rfl) (lo' := [_, _, _, some (.int _)]) rfl ?_
        refine qx_iload_n C d_D_lookAtCommit_80 rfl rfl ?_
        refine nx_if_le C 107 d_D_lookAtCommit_81 (by decide) (by omega) (fun h2 => ?_) (fun h2 => ?_)
        · refine qx_vret C d_D_lookAtCommit_107 (Nat.zero_le _) (Nat.zero_le _) ⟨rfl, ?_⟩
          unfold md_look
          rw [if_neg (by omega)]
        · refine qx_iload_n C d_D_lookAtCommit_84 rfl rfl ?_
          refine qx_aload_n C d_D_lookAtCommit_85 rfl rfl ?_
          refine mx_gi C d_D_lookAtCommit_86 fl_D_50 rfl ?_
          refine qx_iload_n C d_D_lookAtCommit_89 rfl rfl ?_
          refine mx_ia C I 14 5 d_D_lookAtCommit_90 (by unfold md_a; omega) rfl rfl (by omega) (by omega) ?_
          rw [hff2]
          refine nx_icmp_gt C 107 d_D_lookAtCommit_91 (by decide) (by omega) (by omega) (fun h3 => ?_) (fun h3 => ?_)
          · refine qx_vret C d_D_lookAtCommit_107 (Nat.zero_le _) (Nat.zero_le _) ⟨rfl, ?_⟩
            unfold md_look
            rw [if_neg (by omega)]
          · refine qx_aload_n C d_D_lookAtCommit_94 rfl rfl ?_
            refine qx_iload_n C d_D_lookAtCommit_95 rfl rfl ?_
            refine nx_call0 C (s_D_lookAtCommit_96 md_o) (m_isMine l G b I g ww.1 (lg.B hs) (by rw [lg.config]; exact hcf) d) w_D_isMine rfl rfl (Nat.le_of_ble_eq_true rfl) (by omega) (by decide) ?_
            rw [lg.mine]
            refine nx_if_ne C 107 d_D_lookAtCommit_99 (by decide) (by omega) (fun h4 => ?_) (fun h4 => ?_)
            · refine qx_vret C d_D_lookAtCommit_107 (Nat.zero_le _) (Nat.zero_le _) ⟨rfl, ?_⟩
              unfold md_look
              rw [if_neg (by omega)]
            · refine qx_aload_n C d_D_lookAtCommit_102 rfl rfl ?_
              refine qx_iload_n C d_D_lookAtCommit_103 rfl rfl ?_
              refine nx_callv C (s_D_lookAtCommit_104 md_o) (m_follow l G b I g ww.1 (by omega) (by omega) d) w_D_follow rfl rfl (Nat.le_of_ble_eq_true rfl) (by omega) (by decide) ?_
              refine qx_vret C d_D_lookAtCommit_107 (Nat.zero_le _) (Nat.zero_le _) ⟨rfl, ?_⟩
              unfold md_look
              rw [if_pos (by omega)]
      · exact absurd h1 (by omega)
    | succ r ih =>
      intro j f q hj hq hf
      have ht := md_termAt_r hw.1 s q
      have h2 := hw.1 2 s
      have e1 : A 14 s + (j : Int) + 1 = q := by omega
      refine qx_iload_n C d_D_lookAtCommit_16 rfl rfl ?_
      refine qx_aload_n C d_D_lookAtCommit_17 rfl rfl ?_
      refine qx_iload_n C d_D_lookAtCommit_18 rfl rfl ?_
      refine nx_call0 C (s_D_lookAtCommit_19 md_o) (m_last l G b I g hs d) w_D_last rfl rfl (Nat.le_of_ble_eq_true rfl) (by omega) (by decide) ?_
      refine nx_icmp_gt C 62 d_D_lookAtCommit_22 (by decide) (by omega) (by omega) (fun h1 => ?_) (fun h1 => ?_)
      · exact absurd h1 (by omega)
      · refine qx_aload_n C d_D_lookAtCommit_25 rfl rfl ?_
        refine qx_iload_n C d_D_lookAtCommit_26 rfl rfl ?_
        refine qx_iload_n C d_D_lookAtCommit_27 rfl rfl ?_
        refine nx_call0 C (s_D_lookAtCommit_28 md_o) (m_termAt l G b I g hs (by omega) d) w_D_termAt rfl rfl (Nat.le_of_ble_eq_true rfl) (by omega) (by decide) ?_
        refine qx_aload_n C d_D_lookAtCommit_31 rfl rfl ?_
        refine mx_gi C d_D_lookAtCommit_32 fl_D_13 rfl ?_
        refine qx_iload_n C d_D_lookAtCommit_35 rfl rfl ?_
        refine mx_ia C I 2 5 d_D_lookAtCommit_36 (by unfold md_a; omega) rfl rfl (by omega) (by omega) ?_
        refine nx_icmp_ne C 56 d_D_lookAtCommit_37 (by decide) (by omega) (by omega) (fun h3 => ?_) (fun h3 => ?_)
        · refine nx_iinc C d_D_lookAtCommit_56 rfl (lo' := [_, _, _, some (.int _)]) rfl ?_
          refine qx_goto C d_D_lookAtCommit_59 (tgt := 16) (by decide) ?_
          exact ih (j + 1) _ _ (by omega) (by omega) (by rw [md_fc_s, e1, if_neg (fun z => h3 z.1)]; exact hf)
        · refine qx_aload_n C d_D_lookAtCommit_40 rfl rfl ?_
          refine qx_iload_n C d_D_lookAtCommit_41 rfl rfl ?_
          refine qx_aload_n C d_D_lookAtCommit_42 rfl rfl ?_
          refine qx_iload_n C d_D_lookAtCommit_43 rfl rfl ?_
          refine qx_iload_n C d_D_lookAtCommit_44 rfl rfl ?_
          refine nx_call0 C (s_D_lookAtCommit_45 md_o) (m_having l G b I g hw.1 (by omega) (by omega) d) w_D_having rfl rfl (Nat.le_of_ble_eq_true rfl) (by omega) (by decide) ?_
          have hr5 := md_reach_5 (A := A) (k := 18) (mark := q) (show 0 ≤ s ∧ s < 5 by omega) 5 (by omega)
          refine nx_call0 C (s_D_lookAtCommit_48 md_o) (m_most l G b I g hw.1 hs hcf hr5 d) w_D_most rfl rfl (Nat.le_of_ble_eq_true rfl) (by omega) (by decide) ?_
          have hm := md_most_01 A s (md_reach A 18 s q 5)
          refine nx_if_eq C 56 d_D_lookAtCommit_51 (by decide) (by omega) (fun h4 => ?_) (fun h4 => ?_)
          · refine nx_iinc C d_D_lookAtCommit_56 rfl (lo' := [_, _, _, some (.int _)]) rfl ?_
            refine qx_goto C d_D_lookAtCommit_59 (tgt := 16) (by decide) ?_
            exact ih (j + 1) _ _ (by omega) (by omega) (by rw [md_fc_s, e1, if_neg (fun z => by rw [h4] at z; omega)]; exact hf)
          · refine qx_iload_n C d_D_lookAtCommit_54 rfl rfl ?_
            refine nx_istore_n C d_D_lookAtCommit_55 rfl (Nat.le_of_ble_eq_true rfl) (lo' := [_, _, some (.int _), _]) rfl ?_
            refine nx_iinc C d_D_lookAtCommit_56 rfl (lo' := [_, _, _, some (.int _)]) rfl ?_
            refine qx_goto C d_D_lookAtCommit_59 (tgt := 16) (by decide) ?_
            exact ih (j + 1) _ _ (by omega) (by omega) (by rw [md_fc_s, e1, if_pos ⟨h3, by omega⟩])
  refine qx_aload_n C d_D_lookAtCommit_0 rfl rfl ?_
  refine mx_gi C d_D_lookAtCommit_1 fl_D_50 rfl ?_
  refine qx_iload_n C d_D_lookAtCommit_4 rfl rfl ?_
  refine mx_ia C I 14 5 d_D_lookAtCommit_5 (by unfold md_a; omega) rfl rfl (by omega) (by omega) ?_
  refine nx_istore_n C d_D_lookAtCommit_6 rfl (Nat.le_of_ble_eq_true rfl) (lo' := [_, _, some (.int _), _]) rfl ?_
  refine qx_aload_n C d_D_lookAtCommit_7 rfl rfl ?_
  refine mx_gi C d_D_lookAtCommit_8 fl_D_50 rfl ?_
  refine qx_iload_n C d_D_lookAtCommit_11 rfl rfl ?_
  refine mx_ia C I 14 5 d_D_lookAtCommit_12 (by unfold md_a; omega) rfl rfl (by omega) (by omega) ?_
  refine qx_iconst C d_D_lookAtCommit_13 (v := iI (1)) rfl ?_
  refine nx_iadd C d_D_lookAtCommit_14 ?_
  refine nx_istore_n C d_D_lookAtCommit_15 rfl (Nat.le_of_ble_eq_true rfl) (lo' := [_, _, _, some (.int _)]) rfl ?_
  exact L (md_last A s - A 14 s).toNat 0 _ _ (by omega) (by omega) rfl
def md_append (A : md_A) (s so ke va : Int) : md_A := md_all (md_look (md_push A s (A 2 s) so ke va) s) s 5
theorem md_push_k {A : md_A} {s t so ke va i : Int} {k : Nat} (h : k ≠ 8 ∧ k ≠ 9 ∧ k ≠ 10 ∧ k ≠ 11 ∧ k ≠ 12) : md_push A s t so ke va k i = A k i := by
  unfold md_push
  rw [md_uk h.1, md_uk h.2.2.2.2, md_uk h.2.2.2.1, md_uk h.2.2.1, md_uk h.2.1]
theorem md_push_8 {A : md_A} {s t so ke va : Int} : md_push A s t so ke va 8 s = A 8 s + 1 := md_us
theorem md_push_B {A : md_A} {s t so ke va : Int} (hs : md_B A s) (hz : A 8 s < 48) : md_B (md_push A s t so ke va) s := by
  unfold md_B
  rw [md_push_8, md_push_k (by decide)]
  omega
theorem md_push_ww {A : md_A} {s t so ke va : Int} (h : md_ww A) (hz : 0 ≤ A 8 s ∧ A 8 s < 48) (h1 : rng t) (h2 : rng so) (h3 : rng ke) (h4 : rng va) : md_ww (md_push A s t so ke va) := ((((h.u (by decide) h1).u (by decide) h2).u (by decide) h3).u (by decide) h4).u (by decide) (by omega)
set_option maxRecDepth 100000 in
theorem m_append (l : Launch) (G : qh_G) (b : Nat) {o : Nat} {ad : Nat → Nat} {iv : Nat → Option Nat} (I : md_I o ad iv) (g : qh_H) {A : md_A} {s so ke va : Int} (hs : md_B A s) (hz : A 8 s < 48) (hw : md_ww A) (hcf : set5 (md_config (md_push A s (A 2 s) so ke va) s)) (hcm : -1 ≤ A 14 s ∧ A 14 s ≤ 1000100) (hrd : 0 ≤ A 21 0 ∧ A 21 0 ≤ 60) (hn : md_nx A s) (h2 : rng so) (h3 : rng ke) (h4 : rng va) (d : Nat) : qj l y_D_append c_D_append 6 (some .int) (d + 7) 0 0 G b [.ref o, .int (iI s), .int (iI so), .int (iI ke), .int (iI va)] (md_h G o ad iv g A) (md_last A s + 1) (md_h G o ad iv g (md_append A s so ke va)) := by
  have hB := md_push_B (t := A 2 s) (so := so) (ke := ke) (va := va) hs hz
  have ww := md_push_ww hw ⟨by omega, hz⟩ (hw.1 2 s) h2 h3 h4
  have e14 : md_push A s (A 2 s) so ke va 14 s = A 14 s := md_push_k (by decide)
  have e21 : md_push A s (A 2 s) so ke va 21 0 = A 21 0 := md_push_k (by decide)
  have e17 : ∀ i, md_look (md_push A s (A 2 s) so ke va) s 17 i = A 17 i := fun i => by rw [md_look_k (by decide), md_push_k (by decide)]
  have lg := md_look_lg (md_push A s (A 2 s) so ke va) s
  have ww2 := md_look_ww ww hB (by omega)
  refine qx_of (lo := [some (.ref o), some (.int (iI s)), some (.int (iI so)), some (.int (iI ke)), some (.int (iI va)), none]) (by decide) (fun w hw => List.mem_cons_of_mem _ hw) rfl (Nat.le_of_ble_eq_true rfl) rfl ?_
  intro X C
  refine qx_aload_n C d_D_append_0 rfl rfl ?_
  refine qx_iload_n C d_D_append_1 rfl rfl ?_
  refine qx_aload_n C d_D_append_2 rfl rfl ?_
  refine mx_gi C d_D_append_3 fl_D_13 rfl ?_
  refine qx_iload_n C d_D_append_6 rfl rfl ?_
  refine mx_ia C I 2 5 d_D_append_7 (by unfold md_a; omega) rfl rfl (by omega) (by omega) ?_
  refine qx_iload_n C d_D_append_8 rfl rfl ?_
  refine qx_iload_n C d_D_append_9 rfl rfl ?_
  refine qx_iload C d_D_append_10 rfl ?_
  refine nx_callv C (s_D_append_12 md_o) (m_push l G b I g (by omega) (by omega) d) w_D_push rfl rfl (Nat.le_of_ble_eq_true rfl) (by omega) (by decide) ?_
  refine qx_aload_n C d_D_append_15 rfl rfl ?_
  refine qx_iload_n C d_D_append_16 rfl rfl ?_
  refine nx_call0 C (s_D_append_17 md_o) (m_last l G b I g hB d) w_D_last rfl rfl (Nat.le_of_ble_eq_true rfl) (by omega) (by decide) ?_
  refine nx_istore C d_D_append_20 (Nat.le_of_ble_eq_true rfl) (lo' := [_, _, _, _, _, some (.int _)]) rfl ?_
  refine qx_aload_n C d_D_append_22 rfl rfl ?_
  refine qx_iload_n C d_D_append_23 rfl rfl ?_
  refine nx_callv C (s_D_append_24 md_o) (m_lookAtCommit l G b I g hB ww hcf (by omega) (by omega) d) w_D_lookAtCommit rfl rfl (Nat.le_of_ble_eq_true rfl) (by omega) (by decide) ?_
  refine qx_aload_n C d_D_append_27 rfl rfl ?_
  refine qx_iload_n C d_D_append_28 rfl rfl ?_
  refine nx_callv C (s_D_append_29 md_o) (m_sendAll l G b I g (lg.B hB) ww2 (by rw [lg.config]; exact hcf) (fun i => by rw [e17]; exact hn i) d) w_D_sendAll rfl rfl (Nat.le_of_ble_eq_true rfl) (by omega) (by decide) ?_
  refine qx_iload C d_D_append_32 rfl ?_
  refine qx_iret C d_D_append_34 (Nat.zero_le _) (Nat.zero_le _) ⟨_, rfl, ?_, rfl⟩
  unfold md_last
  rw [md_push_8, md_push_k (by decide)]
  congr 1
  omega
