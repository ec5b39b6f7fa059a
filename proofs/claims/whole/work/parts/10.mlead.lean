/-! the reference: commits, reads, leading -/
def md_all (A : md_A) (s : Int) : Nat → md_A
  | 0 => A
  | n + 1 => if (n : Int) = s ∨ ¬ bit (md_config A s) n = 1 then md_all A s n else md_sendTo (md_all A s n) s n
theorem md_all_s (A : md_A) (s : Int) (n : Nat) : md_all A s (n + 1) = if (n : Int) = s ∨ ¬ bit (md_config A s) n = 1 then md_all A s n else md_sendTo (md_all A s n) s n := rfl
theorem md_all_k {A : md_A} {s i : Int} {k : Nat} (h : k ≠ 27 ∧ k ≠ 28 ∧ k ≠ 29) : ∀ n, md_all A s n k i = A k i
  | 0 => rfl
  | n + 1 => by
    rw [md_all_s]
    split
    · exact md_all_k h n
    · rw [md_sendTo_k h]; exact md_all_k h n
theorem md_all_lg (A : md_A) (s : Int) (n : Nat) : md_lg A (md_all A s n) := fun k h1 h2 => by
  funext x
  exact md_all_k (by omega) n
/-- the next indices in bounds -/
abbrev md_nx (A : md_A) (s : Int) : Prop := ∀ i : Int, -1000000 ≤ A 17 (5 * s + i) ∧ A 17 (5 * s + i) ≤ 2000000
theorem md_all_ww {A : md_A} {s : Int} (h : md_ww A) (hs : 0 ≤ s ∧ s < 5) (hn : md_nx A s) : ∀ n, n ≤ 5 → md_ww (md_all A s n)
  | 0, _ => h
  | n + 1, hm => by
    have ih := md_all_ww h hs hn n (by omega)
    rw [md_all_s]
    split
    · exact ih
    · have h1 := hn n
      exact md_sendTo_ww ih (by omega) (by omega) (by rw [md_all_k (by decide)]; omega)
set_option maxRecDepth 100000 in
theorem m_sendAll (l : Launch) (G : qh_G) (b : Nat) {o : Nat} {ad : Nat → Nat} {iv : Nat → Option Nat} (I : md_I o ad iv) (g : qh_H) {A : md_A} {s : Int} (hs : md_B A s) (hw : md_ww A) (hcf : set5 (md_config A s)) (hn : md_nx A s) (d : Nat) : qv l y_D_sendAll c_D_sendAll 4 none (d + 5) 0 0 G b [.ref o, .int (iI s)] (md_h G o ad iv g A) (md_h G o ad iv g (md_all A s 5)) := by
  refine qx_of (lo := [some (.ref o), some (.int (iI s)), none, none]) (by decide) (fun w hw => List.mem_cons_of_mem _ hw) rfl (Nat.le_of_ble_eq_true rfl) rfl ?_
  intro X C
  have L : ∀ (r j : Nat) (q : Int) (B : md_A), j + r = 5 → q = j → B = md_all A s j → X 8 [some (.ref o), some (.int (iI s)), some (.int (iI (md_config A s))), some (.int (iI q))] [] (md_h G o ad iv g B) 0 0 := by
    intro r
    induction r with
    | zero =>
      intro j q B hj hq hB
      refine qx_iload_n C d_D_sendAll_8 rfl rfl ?_
      refine qx_iconst C d_D_sendAll_9 (v := iI (5)) rfl ?_
      refine nx_icmp_ge C 39 d_D_sendAll_10 (by decide) (by omega) (by omega) (fun hc => ?_) (fun hc => ?_)
      · refine qx_vret C d_D_sendAll_39 (Nat.zero_le _) (Nat.zero_le _) ⟨rfl, ?_⟩
        rw [hB, show j = 5 by omega]
      · exact absurd hc (by omega)
    | succ r ih =>
      intro j q B hj hq hB
      subst hq
      have lg : md_lg A B := hB ▸ md_all_lg A s j
      have ww : md_ww B := hB ▸ md_all_ww hw (by omega) hn j (by omega)
      have hbit := bit_01 (md_config A s) j
      have e1 : md_all A s (j + 1) = if (j : Int) = s ∨ ¬ bit (md_config A s) j = 1 then B else md_sendTo B s j := by rw [hB]; rfl
      have e2 : B 17 (5 * s + j) = A 17 (5 * s + j) := by rw [hB]; exact md_all_k (by decide) j
      have hn2 := hn j
      refine qx_iload_n C d_D_sendAll_8 rfl rfl ?_
      refine qx_iconst C d_D_sendAll_9 (v := iI (5)) rfl ?_
      refine nx_icmp_ge C 39 d_D_sendAll_10 (by decide) (by omega) (by omega) (fun hc => ?_) (fun hc => ?_)
      · exact absurd hc (by omega)
      · refine qx_iload_n C d_D_sendAll_13 rfl rfl ?_
        refine qx_iload_n C d_D_sendAll_14 rfl rfl ?_
        refine nx_icmp_eq C 33 d_D_sendAll_15 (by decide) (by omega) (by omega) (fun h1 => ?_) (fun h1 => ?_)
        · refine nx_iinc C d_D_sendAll_33 rfl (lo' := [_, _, _, some (.int _)]) rfl ?_
          refine qx_goto C d_D_sendAll_36 (tgt := 8) (by decide) ?_
          exact ih (j + 1) _ _ (by omega) (by omega) (by rw [e1, if_pos (Or.inl h1)])
        · refine qx_iload_n C d_D_sendAll_18 rfl rfl ?_
          refine qx_iload_n C d_D_sendAll_19 rfl rfl ?_
          refine nx_bit C d_D_sendAll_20 d_D_sendAll_21 d_D_sendAll_22 (by omega) (by omega) ?_
          refine qx_iconst C d_D_sendAll_23 (v := iI (1)) rfl ?_
          refine nx_icmp_ne C 33 d_D_sendAll_24 (by decide) (by omega) (by omega) (fun h2 => ?_) (fun h2 => ?_)
          · refine nx_iinc C d_D_sendAll_33 rfl (lo' := [_, _, _, some (.int _)]) rfl ?_
            refine qx_goto C d_D_sendAll_36 (tgt := 8) (by decide) ?_
            exact ih (j + 1) _ _ (by omega) (by omega) (by rw [e1, if_pos (Or.inr h2)])
          · refine qx_aload_n C d_D_sendAll_27 rfl rfl ?_
            refine qx_iload_n C d_D_sendAll_28 rfl rfl ?_
            refine qx_iload_n C d_D_sendAll_29 rfl rfl ?_
            refine nx_callv C (s_D_sendAll_30 md_o) (m_sendTo l G b I g (lg.B hs) (by omega) ww (by omega) d) w_D_sendTo rfl rfl (Nat.le_of_ble_eq_true rfl) (by omega) (by decide) ?_
            refine nx_iinc C d_D_sendAll_33 rfl (lo' := [_, _, _, some (.int _)]) rfl ?_
            refine qx_goto C d_D_sendAll_36 (tgt := 8) (by decide) ?_
            exact ih (j + 1) _ _ (by omega) (by omega) (by rw [e1, if_neg (by omega)])
  refine qx_aload_n C d_D_sendAll_0 rfl rfl ?_
  refine qx_iload_n C d_D_sendAll_1 rfl rfl ?_
  refine nx_call0 C (s_D_sendAll_2 md_o) (m_config l G b I g hw.1 hs d) w_D_config rfl rfl (Nat.le_of_ble_eq_true rfl) (by omega) (by decide) ?_
  refine nx_istore_n C d_D_sendAll_5 rfl (Nat.le_of_ble_eq_true rfl) (lo' := [_, _, some (.int _), _]) rfl ?_
  refine qx_iconst C d_D_sendAll_6 (v := iI (0)) rfl ?_
  refine nx_istore_n C d_D_sendAll_7 rfl (Nat.le_of_ble_eq_true rfl) (lo' := [_, _, _, some (.int _)]) rfl ?_
  exact L 5 0 _ _ (by omega) (by omega) rfl
/-- the commit found among the n indices above the one that stands -/
def md_fc (A : md_A) (s : Int) : Nat → Int
  | 0 => A 14 s
  | n + 1 => if md_termAt A s (A 14 s + n + 1) = A 2 s ∧ md_most A s (md_reach A 18 s (A 14 s + n + 1) 5) = 1 then A 14 s + n + 1 else md_fc A s n
theorem md_fc_s (A : md_A) (s : Int) (n : Nat) : md_fc A s (n + 1) = if md_termAt A s (A 14 s + n + 1) = A 2 s ∧ md_most A s (md_reach A 18 s (A 14 s + n + 1) 5) = 1 then A 14 s + n + 1 else md_fc A s n := rfl
theorem md_fc_in (A : md_A) (s : Int) : ∀ n : Nat, A 14 s ≤ md_fc A s n ∧ md_fc A s n ≤ A 14 s + n
  | 0 => ⟨Int.le_refl _, by unfold md_fc; omega⟩
  | n + 1 => by
    have := md_fc_in A s n
    rw [md_fc_s]
    split <;> omega
def md_fcm (A : md_A) (s : Int) : md_A := md_u A 14 s (md_fc A s (md_last A s - A 14 s).toNat)
def md_look (A : md_A) (s : Int) : md_A := if 0 < md_lm A s (A 8 s).toNat ∧ md_lm A s (A 8 s).toNat ≤ md_fcm A s 14 s ∧ md_mine A s = 0 then md_follow (md_fcm A s) s else md_fcm A s
theorem md_most_01 (A : md_A) (s x : Int) : md_most A s x = 0 ∨ md_most A s x = 1 := by
  unfold md_most
  split
  · exact Or.inr rfl
  · exact Or.inl rfl
theorem md_follow_k {A : md_A} {s i : Int} {k : Nat} (h : k ≠ 13 ∧ k ≠ 25) : md_follow A s k i = A k i := by
  unfold md_follow
  split
  · rw [md_wk h.2, md_uk h.1]
  · rw [md_uk h.1]
theorem md_follow_ww {A : md_A} {s : Int} (h : md_ww A) : md_ww (md_follow A s) := by
  refine ⟨?_, by rw [md_follow_k (by decide)]; exact h.2⟩
  unfold md_follow
  split
  · refine md_r_w (md_r_u h.1 (by omega)) (fun x => ?_)
    split
    · omega
    · exact h.1 _ _
  · exact md_r_u h.1 (by omega)
theorem md_look_k {A : md_A} {s i : Int} {k : Nat} (h : k ≠ 13 ∧ k ≠ 14 ∧ k ≠ 25) : md_look A s k i = A k i := by
  unfold md_look md_fcm
  split
  · rw [md_follow_k ⟨h.1, h.2.2⟩, md_uk h.2.1]
  · rw [md_uk h.2.1]
theorem md_look_lg (A : md_A) (s : Int) : md_lg A (md_look A s) := fun k h1 h2 => by
  funext x
  exact md_look_k (by omega)
theorem md_fcm_ww {A : md_A} {s : Int} (h : md_ww A) (hs : md_B A s) (hc : -1 ≤ A 14 s ∧ A 14 s ≤ 1000100) : md_ww (md_fcm A s) := by
  have h1 := md_fc_in A s (md_last A s - A 14 s).toNat
  have h2 : md_last A s = A 4 s + A 8 s := rfl
  exact h.u (by decide) (by omega)
theorem md_look_ww {A : md_A} {s : Int} (h : md_ww A) (hs : md_B A s) (hc : -1 ≤ A 14 s ∧ A 14 s ≤ 1000100) : md_ww (md_look A s) := by
  unfold md_look
  split
  · exact md_follow_ww (md_fcm_ww h hs hc)
  · exact md_fcm_ww h hs hc
set_option maxRecDepth 100000 in
theorem m_lookAtCommit (l : Launch) (G : qh_G) (b : Nat) {o : Nat} {ad : Nat → Nat} {iv : Nat → Option Nat} (I : md_I o ad iv) (g : qh_H) {A : md_A} {s : Int} (hs : md_B A s) (hw : md_ww A) (hcf : set5 (md_config A s)) (hcm : -1 ≤ A 14 s ∧ A 14 s ≤ 1000100) (hrd : 0 ≤ A 21 0 ∧ A 21 0 ≤ 60) (d : Nat) : qv l y_D_lookAtCommit c_D_lookAtCommit 4 none (d + 6) 0 0 G b [.ref o, .int (iI s)] (md_h G o ad iv g A) (md_h G o ad iv g (md_look A s)) := by
  have hl : md_last A s = A 4 s + A 8 s := rfl
  have hz := md_sz hs
  refine qx_of (lo := [some (.ref o), some (.int (iI s)), none, none]) (by decide) (fun w hw => List.mem_cons_of_mem _ hw) rfl (Nat.le_of_ble_eq_true rfl) rfl ?_
  intro X C
  have L : ∀ (r j : Nat) (f q : Int), j + r = (md_last A s - A 14 s).toNat → q = A 14 s + 1 + j → f = md_fc A s j → X 16 [some (.ref o), some (.int (iI s)), some (.int (iI f)), some (.int (iI q))] [] (md_h G o ad iv g A) 0 0 := by
    intro r
    induction r with
    | zero =>
      intro j f q hj hq hf
      have hfi := md_fc_in A s j
      rw [← hf] at hfi
      have hff : md_u A 14 s f = md_fcm A s := by unfold md_fcm; rw [hf, show j = (md_last A s - A 14 s).toNat by omega]
      have lg : md_lg A (md_fcm A s) := (md_lg.rf A).u (by omega)
      have hff2 : md_fcm A s 14 s = f := by rw [← hff]; exact md_us
      have hmr : 0 ≤ md_lm A s (A 8 s).toNat ∧ md_lm A s (A 8 s).toNat ≤ 1000100 := by rcases md_lm_in A s (A 8 s).toNat with h | ⟨j, h1, h2⟩ <;> omega
      have hb1 := bit_01 (md_config A s) s
      have hmi : md_mine A s = bit (md_config A s) s := rfl
      have ww := md_fcm_ww hw hs hcm
      have e21 : md_fcm A s 21 0 = A 21 0 := md_uk (by decide)
      refine qx_iload_n C d_D_lookAtCommit_16 rfl rfl ?_
      refine qx_aload_n C d_D_lookAtCommit_17 rfl rfl ?_
      refine qx_iload_n C d_D_lookAtCommit_18 rfl rfl ?_
      refine nx_call0 C (s_D_lookAtCommit_19 md_o) (m_last l G b I g hs d) w_D_last rfl rfl (Nat.le_of_ble_eq_true rfl) (by omega) (by decide) ?_
      refine nx_icmp_gt C 62 d_D_lookAtCommit_22 (by decide) (by omega) (by omega) (fun h1 => ?_) (fun h1 => ?_)
      · refine qx_aload_n C d_D_lookAtCommit_62 rfl rfl ?_
        refine mx_gi C d_D_lookAtCommit_63 fl_D_50 rfl ?_
        refine qx_iload_n C d_D_lookAtCommit_66 rfl rfl ?_
        refine qx_iload_n C d_D_lookAtCommit_67 rfl rfl ?_
        refine mx_is C I 14 5 d_D_lookAtCommit_68 (by unfold md_a; omega) rfl rfl (by omega) (by omega) ?_
        refine qx_aload_n C d_D_lookAtCommit_69 rfl rfl ?_
        refine qx_iload_n C d_D_lookAtCommit_70 rfl rfl ?_
        refine qx_aload_n C d_D_lookAtCommit_71 rfl rfl ?_
        refine qx_iload_n C d_D_lookAtCommit_72 rfl rfl ?_
        rw [hff]
        refine nx_call0 C (s_D_lookAtCommit_73 md_o) (m_last l G b I g (lg.B hs) d) w_D_last rfl rfl (Nat.le_of_ble_eq_true rfl) (by omega) (by decide) ?_
        refine nx_call0 C (s_D_lookAtCommit_76 md_o) (m_latestMembers l G b I g ww.1 (lg.B hs) (t := (A 8 s).toNat) (by rw [lg 8 (by decide) (by decide)]; omega) (by rw [lg.last, lg 4 (by decide) (by decide)]; omega) d) w_D_latestMembers rfl rfl (Nat.le_of_ble_eq_true rfl) (by omega) (by decide) ?_
        rw [lg.lm]
        refine nx_istore_n C d_D_lookAtCommit_79 rfl (Nat.le_of_ble_eq_true rfl) (lo' := [_, _, _, some (.int _)]) rfl ?_
        refine qx_iload_n C d_D_lookAtCommit_80 rfl rfl ?_
        refine nx_if_le C 107 d_D_lookAtCommit_81 (by decide) (by omega) (fun h2 => ?_) (fun h2 => ?_)
        · refine qx_vret C d_D_lookAtCommit_107 (Nat.zero_le _) (Nat.zero_le _) ⟨rfl, ?_⟩
          unfold md_look
          rw [if_neg (by omega)]
        · refine qx_iload_n C d_D_lookAtCommit_84 rfl rfl ?_
          refine qx_aload_n C d_D_lookAtCommit_85 rfl rfl ?_
          refine mx_gi C d_D_lookAtCommit_86 fl_D_50 rfl ?_
          refine qx_iload_n C d_D_lookAtCommit_89 rfl rfl ?_
          refine mx_ia C I 14 5 d_D_lookAtCommit_90 (by unfold md_a; omega) rfl rfl (by omega) (by omega) ?_
          rw [hff2]
          refine nx_icmp_gt C 107 d_D_lookAtCommit_91 (by decide) (by omega) (by omega) (fun h3 => ?_) (fun h3 => ?_)
          · refine qx_vret C d_D_lookAtCommit_107 (Nat.zero_le _) (Nat.zero_le _) ⟨rfl, ?_⟩
            unfold md_look
            rw [if_neg (by omega)]
          · refine qx_aload_n C d_D_lookAtCommit_94 rfl rfl ?_
            refine qx_iload_n C d_D_lookAtCommit_95 rfl rfl ?_
            refine nx_call0 C (s_D_lookAtCommit_96 md_o) (m_isMine l G b I g ww.1 (lg.B hs) (by rw [lg.config]; exact hcf) d) w_D_isMine rfl rfl (Nat.le_of_ble_eq_true rfl) (by omega) (by decide) ?_
            rw [lg.mine]
            refine nx_if_ne C 107 d_D_lookAtCommit_99 (by decide) (by omega) (fun h4 => ?_) (fun h4 => ?_)
            · refine qx_vret C d_D_lookAtCommit_107 (Nat.zero_le _) (Nat.zero_le _) ⟨rfl, ?_⟩
              unfold md_look
              rw [if_neg (by omega)]
            · refine qx_aload_n C d_D_lookAtCommit_102 rfl rfl ?_
              refine qx_iload_n C d_D_lookAtCommit_103 rfl rfl ?_
              refine nx_callv C (s_D_lookAtCommit_104 md_o) (m_follow l G b I g ww.1 (by omega) (by omega) d) w_D_follow rfl rfl (Nat.le_of_ble_eq_true rfl) (by omega) (by decide) ?_
              refine qx_vret C d_D_lookAtCommit_107 (Nat.zero_le _) (Nat.zero_le _) ⟨rfl, ?_⟩
              unfold md_look
              rw [if_pos (by omega)]
      · exact absurd h1 (by omega)
    | succ r ih =>
      intro j f q hj hq hf
      have ht := md_termAt_r hw.1 s q
      have h2 := hw.1 2 s
      have e1 : A 14 s + (j : Int) + 1 = q := by omega
      refine qx_iload_n C d_D_lookAtCommit_16 rfl rfl ?_
      refine qx_aload_n C d_D_lookAtCommit_17 rfl rfl ?_
      refine qx_iload_n C d_D_lookAtCommit_18 rfl rfl ?_
      refine nx_call0 C (s_D_lookAtCommit_19 md_o) (m_last l G b I g hs d) w_D_last rfl rfl (Nat.le_of_ble_eq_true rfl) (by omega) (by decide) ?_
      refine nx_icmp_gt C 62 d_D_lookAtCommit_22 (by decide) (by omega) (by omega) (fun h1 => ?_) (fun h1 => ?_)
      · exact absurd h1 (by omega)
      · refine qx_aload_n C d_D_lookAtCommit_25 rfl rfl ?_
        refine qx_iload_n C d_D_lookAtCommit_26 rfl rfl ?_
        refine qx_iload_n C d_D_lookAtCommit_27 rfl rfl ?_
        refine nx_call0 C (s_D_lookAtCommit_28 md_o) (m_termAt l G b I g hs (by omega) d) w_D_termAt rfl rfl (Nat.le_of_ble_eq_true rfl) (by omega) (by decide) ?_
        refine qx_aload_n C d_D_lookAtCommit_31 rfl rfl ?_
        refine mx_gi C d_D_lookAtCommit_32 fl_D_13 rfl ?_
        refine qx_iload_n C d_D_lookAtCommit_35 rfl rfl ?_
        refine mx_ia C I 2 5 d_D_lookAtCommit_36 (by unfold md_a; omega) rfl rfl (by omega) (by omega) ?_
        refine nx_icmp_ne C 56 d_D_lookAtCommit_37 (by decide) (by omega) (by omega) (fun h3 => ?_) (fun h3 => ?_)
        · refine nx_iinc C d_D_lookAtCommit_56 rfl (lo' := [_, _, _, some (.int _)]) rfl ?_
          refine qx_goto C d_D_lookAtCommit_59 (tgt := 16) (by decide) ?_
          exact ih (j + 1) _ _ (by omega) (by omega) (by rw [md_fc_s, e1, if_neg (fun z => h3 z.1)]; exact hf)
        · refine qx_aload_n C d_D_lookAtCommit_40 rfl rfl ?_
          refine qx_iload_n C d_D_lookAtCommit_41 rfl rfl ?_
          refine qx_aload_n C d_D_lookAtCommit_42 rfl rfl ?_
          refine qx_iload_n C d_D_lookAtCommit_43 rfl rfl ?_
          refine qx_iload_n C d_D_lookAtCommit_44 rfl rfl ?_
          refine nx_call0 C (s_D_lookAtCommit_45 md_o) (m_having l G b I g hw.1 (by omega) (by omega) d) w_D_having rfl rfl (Nat.le_of_ble_eq_true rfl) (by omega) (by decide) ?_
          have hr5 := md_reach_5 (A := A) (k := 18) (mark := q) (show 0 ≤ s ∧ s < 5 by omega) 5 (by omega)
          refine nx_call0 C (s_D_lookAtCommit_48 md_o) (m_most l G b I g hw.1 hs hcf hr5 d) w_D_most rfl rfl (Nat.le_of_ble_eq_true rfl) (by omega) (by decide) ?_
          have hm := md_most_01 A s (md_reach A 18 s q 5)
          refine nx_if_eq C 56 d_D_lookAtCommit_51 (by decide) (by omega) (fun h4 => ?_) (fun h4 => ?_)
          · refine nx_iinc C d_D_lookAtCommit_56 rfl (lo' := [_, _, _, some (.int _)]) rfl ?_
            refine qx_goto C d_D_lookAtCommit_59 (tgt := 16) (by decide) ?_
            exact ih (j + 1) _ _ (by omega) (by omega) (by rw [md_fc_s, e1, if_neg (fun z => by rw [h4] at z; omega)]; exact hf)
          · refine qx_iload_n C d_D_lookAtCommit_54 rfl rfl ?_
            refine nx_istore_n C d_D_lookAtCommit_55 rfl (Nat.le_of_ble_eq_true rfl) (lo' := [_, _, some (.int _), _]) rfl ?_
            refine nx_iinc C d_D_lookAtCommit_56 rfl (lo' := [_, _, _, some (.int _)]) rfl ?_
            refine qx_goto C d_D_lookAtCommit_59 (tgt := 16) (by decide) ?_
            exact ih (j + 1) _ _ (by omega) (by omega) (by rw [md_fc_s, e1, if_pos ⟨h3, by omega⟩])
  refine qx_aload_n C d_D_lookAtCommit_0 rfl rfl ?_
  refine mx_gi C d_D_lookAtCommit_1 fl_D_50 rfl ?_
  refine qx_iload_n C d_D_lookAtCommit_4 rfl rfl ?_
  refine mx_ia C I 14 5 d_D_lookAtCommit_5 (by unfold md_a; omega) rfl rfl (by omega) (by omega) ?_
  refine nx_istore_n C d_D_lookAtCommit_6 rfl (Nat.le_of_ble_eq_true rfl) (lo' := [_, _, some (.int _), _]) rfl ?_
  refine qx_aload_n C d_D_lookAtCommit_7 rfl rfl ?_
  refine mx_gi C d_D_lookAtCommit_8 fl_D_50 rfl ?_
  refine qx_iload_n C d_D_lookAtCommit_11 rfl rfl ?_
  refine mx_ia C I 14 5 d_D_lookAtCommit_12 (by unfold md_a; omega) rfl rfl (by omega) (by omega) ?_
  refine qx_iconst C d_D_lookAtCommit_13 (v := iI (1)) rfl ?_
  refine nx_iadd C d_D_lookAtCommit_14 ?_
  refine nx_istore_n C d_D_lookAtCommit_15 rfl (Nat.le_of_ble_eq_true rfl) (lo' := [_, _, _, some (.int _)]) rfl ?_
  exact L (md_last A s - A 14 s).toNat 0 _ _ (by omega) (by omega) rfl
def md_append (A : md_A) (s so ke va : Int) : md_A := md_all (md_look (md_push A s (A 2 s) so ke va) s) s 5
theorem md_push_k {A : md_A} {s t so ke va i : Int} {k : Nat} (h : k ≠ 8 ∧ k ≠ 9 ∧ k ≠ 10 ∧ k ≠ 11 ∧ k ≠ 12) : md_push A s t so ke va k i = A k i := by
  unfold md_push
  rw [md_uk h.1, md_uk h.2.2.2.2, md_uk h.2.2.2.1, md_uk h.2.2.1, md_uk h.2.1]
theorem md_push_8 {A : md_A} {s t so ke va : Int} : md_push A s t so ke va 8 s = A 8 s + 1 := md_us
theorem md_push_B {A : md_A} {s t so ke va : Int} (hs : md_B A s) (hz : A 8 s < 48) : md_B (md_push A s t so ke va) s := by
  unfold md_B
  rw [md_push_8, md_push_k (by decide)]
  omega
theorem md_push_ww {A : md_A} {s t so ke va : Int} (h : md_ww A) (hz : 0 ≤ A 8 s ∧ A 8 s < 48) (h1 : rng t) (h2 : rng so) (h3 : rng ke) (h4 : rng va) : md_ww (md_push A s t so ke va) := ((((h.u (by decide) h1).u (by decide) h2).u (by decide) h3).u (by decide) h4).u (by decide) (by omega)
set_option maxRecDepth 100000 in
theorem m_append (l : Launch) (G : qh_G) (b : Nat) {o : Nat} {ad : Nat → Nat} {iv : Nat → Option Nat} (I : md_I o ad iv) (g : qh_H) {A : md_A} {s so ke va : Int} (hs : md_B A s) (hz : A 8 s < 48) (hw : md_ww A) (hcf : set5 (md_config (md_push A s (A 2 s) so ke va) s)) (hcm : -1 ≤ A 14 s ∧ A 14 s ≤ 1000100) (hrd : 0 ≤ A 21 0 ∧ A 21 0 ≤ 60) (hn : md_nx A s) (h2 : rng so) (h3 : rng ke) (h4 : rng va) (d : Nat) : qj l y_D_append c_D_append 6 (some .int) (d + 7) 0 0 G b [.ref o, .int (iI s), .int (iI so), .int (iI ke), .int (iI va)] (md_h G o ad iv g A) (md_last A s + 1) (md_h G o ad iv g (md_append A s so ke va)) := by
  have hB := md_push_B (t := A 2 s) (so := so) (ke := ke) (va := va) hs hz
  have ww := md_push_ww hw ⟨by omega, hz⟩ (hw.1 2 s) h2 h3 h4
  have e14 : md_push A s (A 2 s) so ke va 14 s = A 14 s := md_push_k (by decide)
  have e21 : md_push A s (A 2 s) so ke va 21 0 = A 21 0 := md_push_k (by decide)
  have e17 : ∀ i, md_look (md_push A s (A 2 s) so ke va) s 17 i = A 17 i := fun i => by rw [md_look_k (by decide), md_push_k (by decide)]
  have lg := md_look_lg (md_push A s (A 2 s) so ke va) s
  have ww2 := md_look_ww ww hB (by omega)
  refine qx_of (lo := [some (.ref o), some (.int (iI s)), some (.int (iI so)), some (.int (iI ke)), some (.int (iI va)), none]) (by decide) (fun w hw => List.mem_cons_of_mem _ hw) rfl (Nat.le_of_ble_eq_true rfl) rfl ?_
  intro X C
  refine qx_aload_n C d_D_append_0 rfl rfl ?_
  refine qx_iload_n C d_D_append_1 rfl rfl ?_
  refine qx_aload_n C d_D_append_2 rfl rfl ?_
  refine mx_gi C d_D_append_3 fl_D_13 rfl ?_
  refine qx_iload_n C d_D_append_6 rfl rfl ?_
  refine mx_ia C I 2 5 d_D_append_7 (by unfold md_a; omega) rfl rfl (by omega) (by omega) ?_
  refine qx_iload_n C d_D_append_8 rfl rfl ?_
  refine qx_iload_n C d_D_append_9 rfl rfl ?_
  refine qx_iload C d_D_append_10 rfl ?_
  refine nx_callv C (s_D_append_12 md_o) (m_push l G b I g (by omega) (by omega) d) w_D_push rfl rfl (Nat.le_of_ble_eq_true rfl) (by omega) (by decide) ?_
  refine qx_aload_n C d_D_append_15 rfl rfl ?_
  refine qx_iload_n C d_D_append_16 rfl rfl ?_
  refine nx_call0 C (s_D_append_17 md_o) (m_last l G b I g hB d) w_D_last rfl rfl (Nat.le_of_ble_eq_true rfl) (by omega) (by decide) ?_
  refine nx_istore C d_D_append_20 (Nat.le_of_ble_eq_true rfl) (lo' := [_, _, _, _, _, some (.int _)]) rfl ?_
  refine qx_aload_n C d_D_append_22 rfl rfl ?_
  refine qx_iload_n C d_D_append_23 rfl rfl ?_
  refine nx_callv C (s_D_append_24 md_o) (m_lookAtCommit l G b I g hB ww hcf (by omega) (by omega) d) w_D_lookAtCommit rfl rfl (Nat.le_of_ble_eq_true rfl) (by omega) (by decide) ?_
  refine qx_aload_n C d_D_append_27 rfl rfl ?_
  refine qx_iload_n C d_D_append_28 rfl rfl ?_
  refine nx_callv C (s_D_append_29 md_o) (m_sendAll l G b I g (lg.B hB) ww2 (by rw [lg.config]; exact hcf) (fun i => by rw [e17]; exact hn i) d) w_D_sendAll rfl rfl (Nat.le_of_ble_eq_true rfl) (by omega) (by decide) ?_
  refine qx_iload C d_D_append_32 rfl ?_
  refine qx_iret C d_D_append_34 (Nat.zero_le _) (Nat.zero_le _) ⟨_, rfl, ?_, rfl⟩
  unfold md_last
  rw [md_push_8, md_push_k (by decide)]
  congr 1
  omega
/-- the first n of a new leader's marks -/
def md_ld (A : md_A) (s : Int) : Nat → md_A
  | 0 => md_u (md_u A 13 s 3) 20 s 0
  | n + 1 => md_u (md_u (md_u (md_ld A s n) 17 (5 * s + n) (md_last A s + 1)) 18 (5 * s + n) 0) 19 (5 * s + n) 0
theorem md_ld_s (A : md_A) (s : Int) (n : Nat) : md_ld A s (n + 1) = md_u (md_u (md_u (md_ld A s n) 17 (5 * s + n) (md_last A s + 1)) 18 (5 * s + n) 0) 19 (5 * s + n) 0 := rfl
theorem md_ld_k {A : md_A} {s i : Int} {k : Nat} (h : k ≠ 13 ∧ k ≠ 20 ∧ k ≠ 17 ∧ k ≠ 18 ∧ k ≠ 19) : ∀ n, md_ld A s n k i = A k i
  | 0 => by
    unfold md_ld
    rw [md_uk h.2.1, md_uk h.1]
  | n + 1 => by
    rw [md_ld_s, md_uk h.2.2.2.2, md_uk h.2.2.2.1, md_uk h.2.2.1]
    exact md_ld_k h n
theorem md_ld_lg (A : md_A) (s : Int) (n : Nat) : md_lg A (md_ld A s n) := fun k h1 h2 => by
  funext x
  exact md_ld_k (by omega) n
theorem md_ld_17 {A : md_A} {s : Int} : ∀ (n : Nat) (x : Int), md_ld A s n 17 x = md_last A s + 1 ∨ md_ld A s n 17 x = A 17 x
  | 0, x => Or.inr (by unfold md_ld; rw [md_uk (by decide), md_uk (by decide)])
  | n + 1, x => by
    rw [md_ld_s, md_uk (by decide), md_uk (by decide)]
    unfold md_u
    split
    · exact Or.inl rfl
    · exact md_ld_17 n x
theorem md_ld_ww {A : md_A} {s : Int} (h : md_ww A) (hs : md_B A s) : ∀ n, md_ww (md_ld A s n)
  | 0 => (h.u (by decide) (by omega)).u (by decide) (by omega)
  | n + 1 => (((md_ld_ww h hs n).u (by decide) (by have : md_last A s = A 4 s + A 8 s := rfl; omega)).u (by decide) (by omega)).u (by decide) (by omega)
def md_lead (A : md_A) (s : Int) : md_A := md_append (md_ld A s 5) s 0 0 0
set_option maxRecDepth 100000 in
theorem m_lead (l : Launch) (G : qh_G) (b : Nat) {o : Nat} {ad : Nat → Nat} {iv : Nat → Option Nat} (I : md_I o ad iv) (g : qh_H) {A : md_A} {s : Int} (hs : md_B A s) (hz : A 8 s < 48) (hw : md_ww A) (hcf : set5 (md_config (md_push (md_ld A s 5) s (A 2 s) 0 0 0) s)) (hcm : -1 ≤ A 14 s ∧ A 14 s ≤ 1000100) (hrd : 0 ≤ A 21 0 ∧ A 21 0 ≤ 60) (hn : md_nx A s) (d : Nat) : qv l y_D_lead c_D_lead 3 none (d + 8) 0 0 G b [.ref o, .int (iI s)] (md_h G o ad iv g A) (md_h G o ad iv g (md_lead A s)) := by
  have hl : md_last A s = A 4 s + A 8 s := rfl
  refine qx_of (lo := [some (.ref o), some (.int (iI s)), none]) (by decide) (fun w hw => List.mem_cons_of_mem _ hw) rfl (Nat.le_of_ble_eq_true rfl) rfl ?_
  intro X C
  have L : ∀ (r j : Nat) (q : Int) (B : md_A), j + r = 5 → q = j → B = md_ld A s j → X 16 [some (.ref o), some (.int (iI s)), some (.int (iI q))] [] (md_h G o ad iv g B) 0 0 := by
    intro r
    induction r with
    | zero =>
      intro j q B hj hq hB
      have hB5 : B = md_ld A s 5 := by rw [hB, show j = 5 by omega]
      have lg : md_lg A B := hB ▸ md_ld_lg A s j
      have e2 : B 2 s = A 2 s := by rw [hB]; exact md_ld_k (by decide) j
      have e14 : B 14 s = A 14 s := by rw [hB]; exact md_ld_k (by decide) j
      have e21 : B 21 0 = A 21 0 := by rw [hB]; exact md_ld_k (by decide) j
      have e8 : B 8 s = A 8 s := by rw [lg 8 (by decide) (by decide)]
      refine qx_iload_n C d_D_lead_16 rfl rfl ?_
      refine qx_iconst C d_D_lead_17 (v := iI (5)) rfl ?_
      refine nx_icmp_ge C 66 d_D_lead_18 (by decide) (by omega) (by omega) (fun hc => ?_) (fun hc => ?_)
      · refine qx_aload_n C d_D_lead_66 rfl rfl ?_
        refine qx_iload_n C d_D_lead_67 rfl rfl ?_
        refine qx_iconst C d_D_lead_68 (v := iI (0)) rfl ?_
        refine qx_iconst C d_D_lead_69 (v := iI (0)) rfl ?_
        refine qx_iconst C d_D_lead_70 (v := iI (0)) rfl ?_
        refine nx_call0 C (s_D_lead_71 md_o) (m_append l G b I g (lg.B hs) (by omega) (hB ▸ md_ld_ww hw hs j) (by rw [e2, hB5]; exact hcf) (by omega) (by omega) (fun i => by have h1 := hn i; rcases md_ld_17 (A := A) (s := s) j (5 * s + i) with h | h <;> rw [hB, h] <;> omega) (by omega) (by omega) (by omega) d) w_D_append rfl rfl (Nat.le_of_ble_eq_true rfl) (by omega) (by decide) ?_
        refine qx_pop C d_D_lead_74 rfl ?_
        refine qx_vret C d_D_lead_75 (Nat.zero_le _) (Nat.zero_le _) ⟨rfl, ?_⟩
        unfold md_lead
        rw [hB5]
      · exact absurd hc (by omega)
    | succ r ih =>
      intro j q B hj hq hB
      have lg : md_lg A B := hB ▸ md_ld_lg A s j
      refine qx_iload_n C d_D_lead_16 rfl rfl ?_
      refine qx_iconst C d_D_lead_17 (v := iI (5)) rfl ?_
      refine nx_icmp_ge C 66 d_D_lead_18 (by decide) (by omega) (by omega) (fun hc => ?_) (fun hc => ?_)
      · exact absurd hc (by omega)
      · refine qx_aload_n C d_D_lead_21 rfl rfl ?_
        refine mx_gi C d_D_lead_22 fl_D_59 rfl ?_
        refine qx_iconst C d_D_lead_25 (v := iI (5)) rfl ?_
        refine qx_iload_n C d_D_lead_26 rfl rfl ?_
        refine nx_imul C d_D_lead_27 ?_
        refine qx_iload_n C d_D_lead_28 rfl rfl ?_
        refine nx_iadd C d_D_lead_29 ?_
        refine qx_aload_n C d_D_lead_30 rfl rfl ?_
        refine qx_iload_n C d_D_lead_31 rfl rfl ?_
        refine nx_call0 C (s_D_lead_32 md_o) (m_last l G b I g (lg.B hs) d) w_D_last rfl rfl (Nat.le_of_ble_eq_true rfl) (by omega) (by decide) ?_
        rw [lg.last]
        refine qx_iconst C d_D_lead_35 (v := iI (1)) rfl ?_
        refine nx_iadd C d_D_lead_36 ?_
        refine mx_is C I 17 25 d_D_lead_37 (by unfold md_a; omega) rfl rfl (by omega) (by omega) ?_
        refine qx_aload_n C d_D_lead_38 rfl rfl ?_
        refine mx_gi C d_D_lead_39 fl_D_62 rfl ?_
        refine qx_iconst C d_D_lead_42 (v := iI (5)) rfl ?_
        refine qx_iload_n C d_D_lead_43 rfl rfl ?_
        refine nx_imul C d_D_lead_44 ?_
        refine qx_iload_n C d_D_lead_45 rfl rfl ?_
        refine nx_iadd C d_D_lead_46 ?_
        refine qx_iconst C d_D_lead_47 (v := iI (0)) rfl ?_
        refine mx_is C I 18 25 d_D_lead_48 (by unfold md_a; omega) rfl rfl (by omega) (by omega) ?_
        refine qx_aload_n C d_D_lead_49 rfl rfl ?_
        refine mx_gi C d_D_lead_50 fl_D_65 rfl ?_
        refine qx_iconst C d_D_lead_53 (v := iI (5)) rfl ?_
        refine qx_iload_n C d_D_lead_54 rfl rfl ?_
        refine nx_imul C d_D_lead_55 ?_
        refine qx_iload_n C d_D_lead_56 rfl rfl ?_
        refine nx_iadd C d_D_lead_57 ?_
        refine qx_iconst C d_D_lead_58 (v := iI (0)) rfl ?_
        refine mx_is C I 19 25 d_D_lead_59 (by unfold md_a; omega) rfl rfl (by omega) (by omega) ?_
        refine nx_iinc C d_D_lead_60 rfl (lo' := [_, _, some (.int _)]) rfl ?_
        refine qx_goto C d_D_lead_63 (tgt := 16) (by decide) ?_
        exact ih (j + 1) _ _ (by omega) (by omega) (by rw [md_ld_s, hB, hq])
  refine qx_aload_n C d_D_lead_0 rfl rfl ?_
  refine mx_gi C d_D_lead_1 fl_D_47 rfl ?_
  refine qx_iload_n C d_D_lead_4 rfl rfl ?_
  refine qx_iconst C d_D_lead_5 (v := iI (3)) rfl ?_
  refine mx_is C I 13 5 d_D_lead_6 (by unfold md_a; omega) rfl rfl (by omega) (by omega) ?_
  refine qx_aload_n C d_D_lead_7 rfl rfl ?_
  refine mx_gi C d_D_lead_8 fl_D_68 rfl ?_
  refine qx_iload_n C d_D_lead_11 rfl rfl ?_
  refine qx_iconst C d_D_lead_12 (v := iI (0)) rfl ?_
  refine mx_is C I 20 5 d_D_lead_13 (by unfold md_a; omega) rfl rfl (by omega) (by omega) ?_
  refine qx_iconst C d_D_lead_14 (v := iI (0)) rfl ?_
  refine nx_istore_n C d_D_lead_15 rfl (Nat.le_of_ble_eq_true rfl) (lo' := [_, _, some (.int _)]) rfl ?_
  exact L 5 0 _ _ (by omega) (by omega) rfl
/-- a candidate's beginning -/
def md_cand (A : md_A) (s : Int) : md_A := md_u (md_u (md_u (md_u A 13 s 2) 2 s (A 2 s + 1)) 3 s s) 16 s (one s)
def md_stand (A : md_A) (s : Int) : md_A := if A 13 s = 1 ∧ md_most A s (A 16 s) = 1 then md_ask (md_cand A s) s 2 (A 2 s + 1) 5 else A
def md_weigh (A : md_A) (s : Int) : md_A := if md_stand A s 13 s = 2 ∧ md_most (md_stand A s) s (md_stand A s 16 s) = 1 then md_lead (md_stand A s) s else md_stand A s
theorem md_cand_k {A : md_A} {s i : Int} {k : Nat} (h : k ≠ 13 ∧ k ≠ 2 ∧ k ≠ 3 ∧ k ≠ 16) : md_cand A s k i = A k i := by
  unfold md_cand
  rw [md_uk h.2.2.2, md_uk h.2.2.1, md_uk h.2.1, md_uk h.1]
theorem md_stand_k {A : md_A} {s i : Int} {k : Nat} (h : k ≠ 13 ∧ k ≠ 2 ∧ k ≠ 3 ∧ k ≠ 16) (h2 : k ≠ 27 ∧ k ≠ 28 ∧ k ≠ 29) : md_stand A s k i = A k i := by
  unfold md_stand
  split
  · rw [md_ask_k h2, md_cand_k h]
  · rfl
theorem md_stand_lg (A : md_A) (s : Int) : md_lg A (md_stand A s) := fun k h1 h2 => by
  funext x
  exact md_stand_k (by omega) (by omega)
theorem md_cand_lg (A : md_A) (s : Int) : md_lg A (md_cand A s) := fun k h1 h2 => by
  funext x
  exact md_cand_k (by omega)
theorem md_cand_ww {A : md_A} {s : Int} (h : md_ww A) (hs : 0 ≤ s ∧ s < 5) (ht : rng (A 2 s + 1)) : md_ww (md_cand A s) := by
  have h5 := set5_one hs.1 hs.2
  exact (((h.u (by decide) (by omega)).u (by decide) ht).u (by decide) (by omega)).u (by decide) (by omega)
theorem md_stand_ww {A : md_A} {s : Int} (h : md_ww A) (hs : md_B A s) (ht : rng (A 2 s + 1)) : md_ww (md_stand A s) := by
  unfold md_stand
  split
  · exact md_ask_ww ((md_cand_lg A s).B hs) (md_cand_ww h (by omega) ht) (by omega) ht 5 (by omega)
  · exact h
theorem md_stand_16 {A : md_A} {s : Int} (hs : 0 ≤ s ∧ s < 5) (hy : set5 (A 16 s)) : set5 (md_stand A s 16 s) := by
  unfold md_stand
  split
  · rw [md_ask_k (by decide)]
    unfold md_cand
    rw [md_us]
    exact set5_one hs.1 hs.2
  · exact hy
set_option maxRecDepth 100000 in
theorem m_weigh (l : Launch) (G : qh_G) (b : Nat) {o : Nat} {ad : Nat → Nat} {iv : Nat → Option Nat} (I : md_I o ad iv) (g : qh_H) {A : md_A} {s : Int} (hs : md_B A s) (hz : A 8 s < 48) (hw : md_ww A) (hcf : set5 (md_config A s)) (hcf2 : set5 (md_config (md_push (md_ld (md_stand A s) s 5) s (md_stand A s 2 s) 0 0 0) s)) (hy : set5 (A 16 s)) (ht : rng (A 2 s + 1)) (hcm : -1 ≤ A 14 s ∧ A 14 s ≤ 1000100) (hrd : 0 ≤ A 21 0 ∧ A 21 0 ≤ 60) (hn : md_nx A s) (d : Nat) : qv l y_D_weigh c_D_weigh 2 none (d + 9) 0 0 G b [.ref o, .int (iI s)] (md_h G o ad iv g A) (md_h G o ad iv g (md_weigh A s)) := by
  have h13 := hw.1 13 s
  refine qx_of (lo := [some (.ref o), some (.int (iI s))]) (by decide) (fun w hw => List.mem_cons_of_mem _ hw) rfl (Nat.le_of_ble_eq_true rfl) rfl ?_
  intro X C
  have F : X 69 [some (.ref o), some (.int (iI s))] [] (md_h G o ad iv g (md_stand A s)) 0 0 := by
    have lg := md_stand_lg A s
    have ww := md_stand_ww hw hs ht
    have hr := ww.1 13 s
    have hm := md_most_01 (md_stand A s) s (md_stand A s 16 s)
    have e8 : md_stand A s 8 s = A 8 s := by rw [lg 8 (by decide) (by decide)]
    have e14 : md_stand A s 14 s = A 14 s := md_stand_k (by decide) (by decide)
    have e21 : md_stand A s 21 0 = A 21 0 := md_stand_k (by decide) (by decide)
    refine qx_aload_n C d_D_weigh_69 rfl rfl ?_
    refine mx_gi C d_D_weigh_70 fl_D_47 rfl ?_
    refine qx_iload_n C d_D_weigh_73 rfl rfl ?_
    refine mx_ia C I 13 5 d_D_weigh_74 (by unfold md_a; omega) rfl rfl (by omega) (by omega) ?_
    refine qx_iconst C d_D_weigh_75 (v := iI (2)) rfl ?_
    refine nx_icmp_ne C 98 d_D_weigh_76 (by decide) (by omega) (by omega) (fun h1 => ?_) (fun h1 => ?_)
    · refine qx_vret C d_D_weigh_98 (Nat.zero_le _) (Nat.zero_le _) ⟨rfl, ?_⟩
      unfold md_weigh
      rw [if_neg (fun z => h1 z.1)]
    · refine qx_aload_n C d_D_weigh_79 rfl rfl ?_
      refine qx_iload_n C d_D_weigh_80 rfl rfl ?_
      refine qx_aload_n C d_D_weigh_81 rfl rfl ?_
      refine mx_gi C d_D_weigh_82 fl_D_56 rfl ?_
      refine qx_iload_n C d_D_weigh_85 rfl rfl ?_
      refine mx_ia C I 16 5 d_D_weigh_86 (by unfold md_a; omega) rfl rfl (by omega) (by omega) ?_
      refine nx_call0 C (s_D_weigh_87 md_o) (m_most l G b I g ww.1 (lg.B hs) (by rw [lg.config]; exact hcf) (md_stand_16 (by omega) hy) d) w_D_most rfl rfl (Nat.le_of_ble_eq_true rfl) (by omega) (by decide) ?_
      refine nx_if_eq C 98 d_D_weigh_90 (by decide) (by omega) (fun h2 => ?_) (fun h2 => ?_)
      · refine qx_vret C d_D_weigh_98 (Nat.zero_le _) (Nat.zero_le _) ⟨rfl, ?_⟩
        unfold md_weigh
        rw [if_neg (by omega)]
      · refine qx_aload_n C d_D_weigh_93 rfl rfl ?_
        refine qx_iload_n C d_D_weigh_94 rfl rfl ?_
        refine nx_callv C (s_D_weigh_95 md_o) (m_lead l G b I g (lg.B hs) (by omega) ww hcf2 (by omega) (by omega) (fun i => by rw [md_stand_k (by decide) (by decide)]; exact hn i) d) w_D_lead rfl rfl (Nat.le_of_ble_eq_true rfl) (by omega) (by decide) ?_
        refine qx_vret C d_D_weigh_98 (Nat.zero_le _) (Nat.zero_le _) ⟨rfl, ?_⟩
        unfold md_weigh
        rw [if_pos (by omega)]
  refine qx_aload_n C d_D_weigh_0 rfl rfl ?_
  refine mx_gi C d_D_weigh_1 fl_D_47 rfl ?_
  refine qx_iload_n C d_D_weigh_4 rfl rfl ?_
  refine mx_ia C I 13 5 d_D_weigh_5 (by unfold md_a; omega) rfl rfl (by omega) (by omega) ?_
  refine qx_iconst C d_D_weigh_6 (v := iI (1)) rfl ?_
  refine nx_icmp_ne C 69 d_D_weigh_7 (by decide) (by omega) (by omega) (fun h1 => ?_) (fun h1 => ?_)
  · have e : md_stand A s = A := by unfold md_stand; rw [if_neg (fun z => h1 z.1)]
    rw [e] at F
    exact F
  · have hm := md_most_01 A s (A 16 s)
    refine qx_aload_n C d_D_weigh_10 rfl rfl ?_
    refine qx_iload_n C d_D_weigh_11 rfl rfl ?_
    refine qx_aload_n C d_D_weigh_12 rfl rfl ?_
    refine mx_gi C d_D_weigh_13 fl_D_56 rfl ?_
    refine qx_iload_n C d_D_weigh_16 rfl rfl ?_
    refine mx_ia C I 16 5 d_D_weigh_17 (by unfold md_a; omega) rfl rfl (by omega) (by omega) ?_
    refine nx_call0 C (s_D_weigh_18 md_o) (m_most l G b I g hw.1 hs hcf hy d) w_D_most rfl rfl (Nat.le_of_ble_eq_true rfl) (by omega) (by decide) ?_
    refine nx_if_eq C 69 d_D_weigh_21 (by decide) (by omega) (fun h2 => ?_) (fun h2 => ?_)
    · have e : md_stand A s = A := by unfold md_stand; rw [if_neg (by omega)]
      rw [e] at F
      exact F
    · have e : md_stand A s = md_ask (md_cand A s) s 2 (A 2 s + 1) 5 := by unfold md_stand; rw [if_pos (by omega)]
      rw [e] at F
      have lg := md_cand_lg A s
      refine qx_aload_n C d_D_weigh_24 rfl rfl ?_
      refine mx_gi C d_D_weigh_25 fl_D_47 rfl ?_
      refine qx_iload_n C d_D_weigh_28 rfl rfl ?_
      refine qx_iconst C d_D_weigh_29 (v := iI (2)) rfl ?_
      refine mx_is C I 13 5 d_D_weigh_30 (by unfold md_a; omega) rfl rfl (by omega) (by omega) ?_
      refine qx_aload_n C d_D_weigh_31 rfl rfl ?_
      refine mx_gi C d_D_weigh_32 fl_D_13 rfl ?_
      refine qx_iload_n C d_D_weigh_35 rfl rfl ?_
      refine qx_dup2 C d_D_weigh_36 rfl rfl ?_
      refine mx_ia C I 2 5 d_D_weigh_37 (by unfold md_a; omega) rfl rfl (by omega) (by omega) ?_
      refine qx_iconst C d_D_weigh_38 (v := iI (1)) rfl ?_
      refine nx_iadd C d_D_weigh_39 ?_
      refine mx_is C I 2 5 d_D_weigh_40 (by unfold md_a; omega) rfl rfl (by omega) (by omega) ?_
      refine qx_aload_n C d_D_weigh_41 rfl rfl ?_
      refine mx_gi C d_D_weigh_42 fl_D_17 rfl ?_
      refine qx_iload_n C d_D_weigh_45 rfl rfl ?_
      refine qx_iload_n C d_D_weigh_46 rfl rfl ?_
      refine mx_is C I 3 5 d_D_weigh_47 (by unfold md_a; omega) rfl rfl (by omega) (by omega) ?_
      refine qx_aload_n C d_D_weigh_48 rfl rfl ?_
      refine mx_gi C d_D_weigh_49 fl_D_56 rfl ?_
      refine qx_iload_n C d_D_weigh_52 rfl rfl ?_
      refine qx_iconst C d_D_weigh_53 (v := iI (1)) rfl ?_
      refine qx_iload_n C d_D_weigh_54 rfl rfl ?_
      refine nx_ishl1 C d_D_weigh_55 (by omega) ?_
      refine mx_is C I 16 5 d_D_weigh_56 (by unfold md_a; omega) rfl rfl (by omega) (by omega) ?_
      refine qx_aload_n C d_D_weigh_57 rfl rfl ?_
      refine qx_iload_n C d_D_weigh_58 rfl rfl ?_
      refine qx_iconst C d_D_weigh_59 (v := iI (2)) rfl ?_
      refine qx_aload_n C d_D_weigh_60 rfl rfl ?_
      refine mx_gi C d_D_weigh_61 fl_D_13 rfl ?_
      refine qx_iload_n C d_D_weigh_64 rfl rfl ?_
      refine mx_ia C I 2 5 d_D_weigh_65 (by unfold md_a; omega) rfl rfl (by omega) (by omega) ?_
      rw [md_uk (k := 13) (j := 2) (by decide)]
      rw [show md_u (md_u (md_u (md_u A 13 s 2) 2 s (A 2 s + 1)) 3 s s) 16 s (one s) = md_cand A s from rfl]
      rw [show md_cand A s 2 s = A 2 s + 1 by unfold md_cand; rw [md_uk (by decide), md_uk (by decide), md_us]]
      refine nx_callv C (s_D_weigh_66 md_o) (m_askAll l G b I g (lg.B hs) (md_cand_ww hw (by omega) ht) (by rw [lg.config]; exact hcf) (by omega) ht d) w_D_askAll rfl rfl (Nat.le_of_ble_eq_true rfl) (by omega) (by decide) ?_
      exact F
/-- the reads answered among the first n -/
def md_rd (A : md_A) (s : Int) : Nat → md_A
  | 0 => A
  | n + 1 => if A 22 n = s ∧ A 25 n = 0 ∧ md_most A s (md_reach A 19 s (A 24 n) 5) = 1 then md_u (md_u (md_rd A s n) 25 n 1) 26 n (md_val A s (A 23 n) (A 14 s - A 4 s).toNat) else md_rd A s n
theorem md_rd_s (A : md_A) (s : Int) (n : Nat) : md_rd A s (n + 1) = if A 22 n = s ∧ A 25 n = 0 ∧ md_most A s (md_reach A 19 s (A 24 n) 5) = 1 then md_u (md_u (md_rd A s n) 25 n 1) 26 n (md_val A s (A 23 n) (A 14 s - A 4 s).toNat) else md_rd A s n := rfl
theorem md_rd_k {A : md_A} {s i : Int} {k : Nat} (h : k ≠ 25 ∧ k ≠ 26) : ∀ n, md_rd A s n k i = A k i
  | 0 => rfl
  | n + 1 => by
    rw [md_rd_s]
    split
    · rw [md_uk h.2, md_uk h.1]; exact md_rd_k h n
    · exact md_rd_k h n
theorem md_rd_lg (A : md_A) (s : Int) (n : Nat) : md_lg A (md_rd A s n) := fun k h1 h2 => by
  funext x
  exact md_rd_k (by omega) n
theorem md_rd_25 {A : md_A} {s : Int} : ∀ (n : Nat) (x : Int), (n : Int) ≤ x → md_rd A s n 25 x = A 25 x
  | 0, _, _ => rfl
  | n + 1, x, h => by
    rw [md_rd_s]
    split
    · rw [md_uk (by decide), md_ui (by omega)]; exact md_rd_25 n x (by omega)
    · exact md_rd_25 n x (by omega)
theorem md_val_r {A : md_A} (hA : md_r A) (s key : Int) : ∀ n, rng (md_val A s key n)
  | 0 => hA _ _
  | n + 1 => by
    rw [md_val_s]
    split
    · exact hA _ _
    · exact md_val_r hA s key n
theorem md_rd_ww {A : md_A} {s : Int} (h : md_ww A) : ∀ n, md_ww (md_rd A s n)
  | 0 => h
  | n + 1 => by
    rw [md_rd_s]
    split
    · exact ((md_rd_ww h n).u (by decide) (by omega)).u (by decide) (md_val_r h.1 _ _ _)
    · exact md_rd_ww h n
def md_reads (A : md_A) (s : Int) : md_A := md_rd A s (A 21 0).toNat
theorem md_reach_cg {A B : md_A} {k : Nat} (h : ∀ x, B k x = A k x) (s mark : Int) : ∀ n, md_reach B k s mark n = md_reach A k s mark n
  | 0 => rfl
  | n + 1 => by rw [md_reach_s, md_reach_s, md_reach_cg h s mark n, h]
set_option maxRecDepth 100000 in
theorem m_lookAtReads (l : Launch) (G : qh_G) (b : Nat) {o : Nat} {ad : Nat → Nat} {iv : Nat → Option Nat} (I : md_I o ad iv) (g : qh_H) {A : md_A} {s : Int} (hs : md_B A s) (hw : md_ww A) (hcf : set5 (md_config A s)) (hcm : A 4 s ≤ A 14 s ∧ A 14 s ≤ md_last A s) (hrd : 0 ≤ A 21 0 ∧ A 21 0 ≤ 60) (hk : ∀ i : Int, 0 ≤ i → i < A 21 0 → 0 ≤ A 23 i ∧ A 23 i < 4) (d : Nat) : qv l y_D_lookAtReads c_D_lookAtReads 5 none (d + 6) 0 0 G b [.ref o, .int (iI s)] (md_h G o ad iv g A) (md_h G o ad iv g (md_reads A s)) := by
  have hl : md_last A s = A 4 s + A 8 s := rfl
  refine qx_of (lo := [some (.ref o), some (.int (iI s)), none, none, none]) (by decide) (fun w hw => List.mem_cons_of_mem _ hw) rfl (Nat.le_of_ble_eq_true rfl) rfl ?_
  intro X C
  have L : ∀ (r j : Nat) (q : Int) (B : md_A) (l3 l4 : Option Value), j + r = (A 21 0).toNat → q = j → B = md_rd A s j → X 2 [some (.ref o), some (.int (iI s)), some (.int (iI q)), l3, l4] [] (md_h G o ad iv g B) 0 0 := by
    intro r
    induction r with
    | zero =>
      intro j q B l3 l4 hj hq hB
      have e21 : B 21 0 = A 21 0 := by rw [hB]; exact md_rd_k (by decide) j
      refine qx_iload_n C d_D_lookAtReads_2 rfl rfl ?_
      refine qx_aload_n C d_D_lookAtReads_3 rfl rfl ?_
      refine mx_gi C d_D_lookAtReads_4 fl_D_136 rfl ?_
      refine nx_icmp_ge C 130 d_D_lookAtReads_7 (by decide) (by omega) (by omega) (fun hc => ?_) (fun hc => ?_)
      · refine qx_vret C d_D_lookAtReads_130 (Nat.zero_le _) (Nat.zero_le _) ⟨rfl, ?_⟩
        unfold md_reads
        rw [hB, show j = (A 21 0).toNat by omega]
      · exact absurd hc (by omega)
    | succ r ih =>
      intro j q B l3 l4 hj hq hB
      subst hq
      have e21 : B 21 0 = A 21 0 := by rw [hB]; exact md_rd_k (by decide) j
      have e22 : B 22 j = A 22 j := by rw [hB]; exact md_rd_k (by decide) j
      have e23 : B 23 j = A 23 j := by rw [hB]; exact md_rd_k (by decide) j
      have e24 : B 24 j = A 24 j := by rw [hB]; exact md_rd_k (by decide) j
      have e25 : B 25 j = A 25 j := by rw [hB]; exact md_rd_25 j j (Int.le_refl _)
      have e14 : B 14 s = A 14 s := by rw [hB]; exact md_rd_k (by decide) j
      have e19 : ∀ x, B 19 x = A 19 x := fun x => by rw [hB]; exact md_rd_k (by decide) j
      have lg : md_lg A B := hB ▸ md_rd_lg A s j
      have ww : md_ww B := hB ▸ md_rd_ww hw j
      have h22 := hw.1 22 j
      have h25 := hw.1 25 j
      have hkj := hk j (by omega) (by omega)
      have e1 : md_rd A s (j + 1) = if A 22 j = s ∧ A 25 j = 0 ∧ md_most A s (md_reach A 19 s (A 24 j) 5) = 1 then md_u (md_u B 25 j 1) 26 j (md_val A s (A 23 j) (A 14 s - A 4 s).toNat) else B := by rw [hB]; rfl
      refine qx_iload_n C d_D_lookAtReads_2 rfl rfl ?_
      refine qx_aload_n C d_D_lookAtReads_3 rfl rfl ?_
      refine mx_gi C d_D_lookAtReads_4 fl_D_136 rfl ?_
      refine nx_icmp_ge C 130 d_D_lookAtReads_7 (by decide) (by omega) (by omega) (fun hc => ?_) (fun hc => ?_)
      · exact absurd hc (by omega)
      · refine qx_aload_n C d_D_lookAtReads_10 rfl rfl ?_
        refine mx_gi C d_D_lookAtReads_11 fl_D_71 rfl ?_
        refine qx_iload_n C d_D_lookAtReads_14 rfl rfl ?_
        refine mx_ia C I 22 60 d_D_lookAtReads_15 (by unfold md_a; omega) rfl rfl (by omega) (by omega) ?_
        refine qx_iload_n C d_D_lookAtReads_16 rfl rfl ?_
        rw [e22]
        refine nx_icmp_ne C 124 d_D_lookAtReads_17 (by decide) (by omega) (by omega) (fun h1 => ?_) (fun h1 => ?_)
        · refine nx_iinc C d_D_lookAtReads_124 rfl (lo' := [_, _, some (.int _), _, _]) rfl ?_
          refine qx_goto C d_D_lookAtReads_127 (tgt := 2) (by decide) ?_
          exact ih (j + 1) _ _ _ _ (by omega) (by omega) (by rw [e1, if_neg (fun z => h1 z.1)])
        · refine qx_aload_n C d_D_lookAtReads_20 rfl rfl ?_
          refine mx_gi C d_D_lookAtReads_21 fl_D_80 rfl ?_
          refine qx_iload_n C d_D_lookAtReads_24 rfl rfl ?_
          refine mx_ia C I 25 60 d_D_lookAtReads_25 (by unfold md_a; omega) rfl rfl (by omega) (by omega) ?_
          rw [e25]
          refine nx_if_eq C 32 d_D_lookAtReads_26 (by decide) (by omega) (fun h2 => ?_) (fun h2 => ?_)
          · have h24 := hw.1 24 j
            have L2 : ∀ (r2 i2 : Nat) (f q2 : Int), i2 + r2 = 5 → f = md_reach A 19 s (A 24 j) i2 → q2 = i2 → X 39 [some (.ref o), some (.int (iI s)), some (.int (iI j)), some (.int (iI f)), some (.int (iI q2))] [] (md_h G o ad iv g B) 0 0 := by
              intro r2
              induction r2 with
              | zero =>
                intro i2 f q2 hi2 hf hq2
                have hf5 : f = md_reach A 19 s (A 24 j) 5 := by rw [hf, show i2 = 5 by omega]
                have h5 := md_reach_5 (A := A) (k := 19) (mark := A 24 j) (show 0 ≤ s ∧ s < 5 by omega) 5 (by omega)
                have hm := md_most_01 A s f
                refine qx_iload C d_D_lookAtReads_39 rfl ?_
                refine qx_iconst C d_D_lookAtReads_41 (v := iI (5)) rfl ?_
                refine nx_icmp_ge C 82 d_D_lookAtReads_42 (by decide) (by omega) (by omega) (fun h3 => ?_) (fun h3 => ?_)
                · refine qx_aload_n C d_D_lookAtReads_82 rfl rfl ?_
                  refine qx_iload_n C d_D_lookAtReads_83 rfl rfl ?_
                  refine qx_iload_n C d_D_lookAtReads_84 rfl rfl ?_
                  refine nx_call0 C (s_D_lookAtReads_85 md_o) (m_most l G b I g ww.1 (lg.B hs) (by rw [lg.config]; exact hcf) (hf5 ▸ h5) d) w_D_most rfl rfl (Nat.le_of_ble_eq_true rfl) (by omega) (by decide) ?_
                  rw [lg.most]
                  refine nx_if_ne C 94 d_D_lookAtReads_88 (by decide) (by omega) (fun h4 => ?_) (fun h4 => ?_)
                  · refine qx_aload_n C d_D_lookAtReads_94 rfl rfl ?_
                    refine mx_gi C d_D_lookAtReads_95 fl_D_80 rfl ?_
                    refine qx_iload_n C d_D_lookAtReads_98 rfl rfl ?_
                    refine qx_iconst C d_D_lookAtReads_99 (v := iI (1)) rfl ?_
                    refine mx_is C I 25 60 d_D_lookAtReads_100 (by unfold md_a; omega) rfl rfl (by omega) (by omega) ?_
                    refine qx_aload_n C d_D_lookAtReads_101 rfl rfl ?_
                    refine mx_gi C d_D_lookAtReads_102 fl_D_83 rfl ?_
                    refine qx_iload_n C d_D_lookAtReads_105 rfl rfl ?_
                    refine qx_aload_n C d_D_lookAtReads_106 rfl rfl ?_
                    refine qx_iload_n C d_D_lookAtReads_107 rfl rfl ?_
                    refine qx_aload_n C d_D_lookAtReads_108 rfl rfl ?_
                    refine mx_gi C d_D_lookAtReads_109 fl_D_74 rfl ?_
                    refine qx_iload_n C d_D_lookAtReads_112 rfl rfl ?_
                    refine mx_ia C I 23 60 d_D_lookAtReads_113 (by unfold md_a; omega) rfl rfl (by omega) (by omega) ?_
                    refine qx_aload_n C d_D_lookAtReads_114 rfl rfl ?_
                    refine mx_gi C d_D_lookAtReads_115 fl_D_50 rfl ?_
                    refine qx_iload_n C d_D_lookAtReads_118 rfl rfl ?_
                    refine mx_ia C I 14 5 d_D_lookAtReads_119 (by unfold md_a; omega) rfl rfl (by omega) (by omega) ?_
                    rw [md_uk (k := 25) (j := 23) (by decide), e23, md_uk (k := 25) (j := 14) (by decide), e14]
                    refine nx_call0 C (s_D_lookAtReads_120 md_o) (m_valueAt l G b I g (md_r_u ww.1 (by omega)) ((lg.u (k := 25) (by omega)).B hs) hkj (t := (A 14 s - A 4 s).toNat) (by rw [(lg.u (k := 25) (by omega)) 8 (by decide) (by decide)]; omega) (by rw [(lg.u (k := 25) (by omega)) 4 (by decide) (by decide)]; omega) d) w_D_valueAt rfl rfl (Nat.le_of_ble_eq_true rfl) (by omega) (by decide) ?_
                    rw [(lg.u (k := 25) (by omega)).val]
                    refine mx_is C I 26 60 d_D_lookAtReads_123 (by unfold md_a; omega) rfl rfl (by omega) (by omega) ?_
                    refine nx_iinc C d_D_lookAtReads_124 rfl (lo' := [_, _, some (.int _), _, _]) rfl ?_
                    refine qx_goto C d_D_lookAtReads_127 (tgt := 2) (by decide) ?_
                    exact ih (j + 1) _ _ _ _ (by omega) (by omega) (by rw [e1, if_pos ⟨h1, h2, by rw [← hf5]; omega⟩])
                  · refine qx_goto C d_D_lookAtReads_91 (tgt := 124) (by decide) ?_
                    refine nx_iinc C d_D_lookAtReads_124 rfl (lo' := [_, _, some (.int _), _, _]) rfl ?_
                    refine qx_goto C d_D_lookAtReads_127 (tgt := 2) (by decide) ?_
                    exact ih (j + 1) _ _ _ _ (by omega) (by omega) (by rw [e1, if_neg (fun z => by rw [← hf5] at z; omega)])
                · exact absurd h3 (by omega)
              | succ r2 ih2 =>
                intro i2 f q2 hi2 hf hq2
                have h1 := hw.1 19 (5 * s + q2)
                have h5 := md_reach_5 (A := A) (k := 19) (mark := A 24 j) (show 0 ≤ s ∧ s < 5 by omega) i2 (by omega)
                rw [← hf] at h5
                have h6 := set5_one (k := q2) (by omega) (by omega)
                refine qx_iload C d_D_lookAtReads_39 rfl ?_
                refine qx_iconst C d_D_lookAtReads_41 (v := iI (5)) rfl ?_
                refine nx_icmp_ge C 82 d_D_lookAtReads_42 (by decide) (by omega) (by omega) (fun h3 => ?_) (fun h3 => ?_)
                · exact absurd h3 (by omega)
                · refine qx_iload_n C d_D_lookAtReads_45 rfl rfl ?_
                  refine qx_aload_n C d_D_lookAtReads_46 rfl rfl ?_
                  refine mx_gi C d_D_lookAtReads_47 fl_D_65 rfl ?_
                  refine qx_iconst C d_D_lookAtReads_50 (v := iI (5)) rfl ?_
                  refine qx_iload_n C d_D_lookAtReads_51 rfl rfl ?_
                  refine nx_imul C d_D_lookAtReads_52 ?_
                  refine qx_iload C d_D_lookAtReads_53 rfl ?_
                  refine nx_iadd C d_D_lookAtReads_55 ?_
                  refine mx_ia C I 19 25 d_D_lookAtReads_56 (by unfold md_a; omega) rfl rfl (by omega) (by omega) ?_
                  refine qx_aload_n C d_D_lookAtReads_57 rfl rfl ?_
                  refine mx_gi C d_D_lookAtReads_58 fl_D_77 rfl ?_
                  refine qx_iload_n C d_D_lookAtReads_61 rfl rfl ?_
                  refine mx_ia C I 24 60 d_D_lookAtReads_62 (by unfold md_a; omega) rfl rfl (by omega) (by omega) ?_
                  rw [e19, e24]
                  refine nx_icmp_lt C 73 d_D_lookAtReads_63 (by decide) (by omega) (by omega) (fun h4 => ?_) (fun h4 => ?_)
                  · refine qx_iconst C d_D_lookAtReads_73 (v := iI (0)) rfl ?_
                    refine nx_ior C d_D_lookAtReads_74 (by omega) (by omega) ?_
                    refine nx_istore_n C d_D_lookAtReads_75 rfl (Nat.le_of_ble_eq_true rfl) (lo' := [_, _, _, some (.int _), _]) rfl ?_
                    refine nx_iinc C d_D_lookAtReads_76 rfl (lo' := [_, _, _, _, some (.int _)]) rfl ?_
                    refine qx_goto C d_D_lookAtReads_79 (tgt := 39) (by decide) ?_
                    exact ih2 (i2 + 1) _ _ (by omega) (by rw [md_reach_s, ← hq2, if_pos h4, ← hf]) (by omega)
                  · refine qx_iconst C d_D_lookAtReads_66 (v := iI (1)) rfl ?_
                    refine qx_iload C d_D_lookAtReads_67 rfl ?_
                    refine nx_ishl1 C d_D_lookAtReads_69 (by omega) ?_
                    refine qx_goto C d_D_lookAtReads_70 (tgt := 74) (by decide) ?_
                    refine nx_ior C d_D_lookAtReads_74 (by omega) (by omega) ?_
                    refine nx_istore_n C d_D_lookAtReads_75 rfl (Nat.le_of_ble_eq_true rfl) (lo' := [_, _, _, some (.int _), _]) rfl ?_
                    refine nx_iinc C d_D_lookAtReads_76 rfl (lo' := [_, _, _, _, some (.int _)]) rfl ?_
                    refine qx_goto C d_D_lookAtReads_79 (tgt := 39) (by decide) ?_
                    exact ih2 (i2 + 1) _ _ (by omega) (by rw [md_reach_s, ← hq2, if_neg h4, ← hf]) (by omega)
            refine qx_iconst C d_D_lookAtReads_32 (v := iI (1)) rfl ?_
            refine qx_iload_n C d_D_lookAtReads_33 rfl rfl ?_
            refine nx_ishl1 C d_D_lookAtReads_34 (by omega) ?_
            refine nx_istore_n C d_D_lookAtReads_35 rfl (Nat.le_of_ble_eq_true rfl) (lo' := [_, _, _, some (.int _), _]) rfl ?_
            refine qx_iconst C d_D_lookAtReads_36 (v := iI (0)) rfl ?_
            refine nx_istore C d_D_lookAtReads_37 (Nat.le_of_ble_eq_true rfl) (lo' := [_, _, _, _, some (.int _)]) rfl ?_
            exact L2 5 0 _ _ (by omega) rfl (by omega)
          · refine qx_goto C d_D_lookAtReads_29 (tgt := 124) (by decide) ?_
            refine nx_iinc C d_D_lookAtReads_124 rfl (lo' := [_, _, some (.int _), _, _]) rfl ?_
            refine qx_goto C d_D_lookAtReads_127 (tgt := 2) (by decide) ?_
            exact ih (j + 1) _ _ _ _ (by omega) (by omega) (by rw [e1, if_neg (fun z => h2 z.2.1)])
  refine qx_iconst C d_D_lookAtReads_0 (v := iI (0)) rfl ?_
  refine nx_istore_n C d_D_lookAtReads_1 rfl (Nat.le_of_ble_eq_true rfl) (lo' := [_, _, some (.int _), _, _]) rfl ?_
  exact L (A 21 0).toNat 0 _ _ _ _ (by omega) (by omega) rfl
