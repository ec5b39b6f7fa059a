/-! the reference: APPEND, INSTALL, RESULT -/
/-- one entry of a message taken over: the state -/
noncomputable def md_tk (A : md_A) (s i p : Int) : md_A := if i ≤ A 4 s ∨ (i ≤ md_last A s ∧ md_termAt A s i = A 29 p) then A else if 48 ≤ md_cutx A s i 8 s then md_cutx A s i else md_tkP A s i p
/-- and whether it has found its place -/
noncomputable def md_tkR (A : md_A) (s i p : Int) : Int := if i ≤ A 4 s ∨ (i ≤ md_last A s ∧ md_termAt A s i = A 29 p) then 1 else if 48 ≤ md_cutx A s i 8 s then 0 else 1
theorem md_tkR_01 (A : md_A) (s i p : Int) : md_tkR A s i p = 0 ∨ md_tkR A s i p = 1 := by
  unfold md_tkR
  split
  · exact Or.inr rfl
  · split
    · exact Or.inl rfl
    · exact Or.inr rfl
theorem m_takeEntry2 (l : Launch) (G : qh_G) (b : Nat) {o : Nat} {ad : Nat → Nat} {iv : Nat → Option Nat} (I : md_I o ad iv) (g : qh_H) {A : md_A} {s i p : Int} (hs : md_B A s) (hw : md_ww A) (hi : rng i) (hp : 0 ≤ p ∧ p ≤ 16) (d : Nat) : qj l y_D_takeEntry c_D_takeEntry 4 (some .boolean) (d + 3) 0 0 G b [.ref o, .int (iI s), .int (iI i), .int (iI p)] (md_h G o ad iv g A) (md_tkR A s i p) (md_h G o ad iv g (md_tk A s i p)) := by
  refine m_takeEntry l G b I g hs hw hi hp ⟨fun h => ?_, fun h1 h2 => ?_, fun h1 h2 => ?_⟩ d
  · unfold md_tkS at h
    unfold md_tkR md_tk
    rw [if_pos h, if_pos h]
    exact ⟨rfl, rfl⟩
  · unfold md_tkS at h1
    unfold md_tkF at h2
    unfold md_tkR md_tk
    rw [if_neg h1, if_neg h1, if_pos h2, if_pos h2]
    exact ⟨rfl, rfl⟩
  · unfold md_tkS at h1
    unfold md_tkF at h2
    unfold md_tkR md_tk
    rw [if_neg h1, if_neg h1, if_neg h2, if_neg h2]
    exact ⟨rfl, rfl⟩
theorem md_tk_k {A : md_A} {s i p x : Int} {k : Nat} (h : k < 8 ∨ 12 < k) : md_tk A s i p k x = A k x := by
  unfold md_tk md_tkP
  split
  · rfl
  · split
    · exact md_cutx_k (by omega)
    · rw [md_push_k (by omega), md_cutx_k (by omega)]
theorem md_tk_B {A : md_A} {s i p : Int} (hs : md_B A s) : md_B (md_tk A s i p) s := by
  unfold md_tk
  split
  · exact hs
  · rename_i h
    have hi : A 4 s < i := by omega
    have h1 := md_cutx_B hs hi
    split
    · exact h1
    · exact md_push_B h1 (by omega)
theorem md_tk_ww {A : md_A} {s i p : Int} (hs : md_B A s) (hw : md_ww A) : md_ww (md_tk A s i p) := by
  unfold md_tk
  split
  · exact hw
  · rename_i h
    have hi : A 4 s < i := by omega
    have h1 := md_cutx_B hs hi
    have h2 := md_cutx_ww hw hs hi
    split
    · exact h2
    · exact md_push_ww h2 (by omega) (hw.1 _ _) (hw.1 _ _) (hw.1 _ _) (hw.1 _ _)
/-- all entries of a message taken over -/
noncomputable def md_tks (A : md_A) (s bf m : Int) : md_A × Int :=
  if m ≤ 0 then (A, bf) else if md_tkR A s (bf + 1) 10 = 0 then (md_tk A s (bf + 1) 10, bf) else if m ≤ 1 then (md_tk A s (bf + 1) 10, bf + 1)
  else if md_tkR (md_tk A s (bf + 1) 10) s (bf + 1 + 1) 14 = 0 then (md_tk (md_tk A s (bf + 1) 10) s (bf + 1 + 1) 14, bf + 1) else (md_tk (md_tk A s (bf + 1) 10) s (bf + 1 + 1) 14, bf + 1 + 1)
theorem md_tks_in (A : md_A) (s bf m : Int) : bf ≤ (md_tks A s bf m).2 ∧ (md_tks A s bf m).2 ≤ bf + 2 := by
  unfold md_tks
  split
  · dsimp only; omega
  · split
    · dsimp only; omega
    · split
      · dsimp only; omega
      · split
        · dsimp only; omega
        · dsimp only; omega
theorem md_tks_k {A : md_A} {s bf m x : Int} {k : Nat} (h : k < 8 ∨ 12 < k) : (md_tks A s bf m).1 k x = A k x := by
  unfold md_tks
  split
  · rfl
  · split
    · exact md_tk_k h
    · split
      · exact md_tk_k h
      · split
        · dsimp only; rw [md_tk_k h, md_tk_k h]
        · dsimp only; rw [md_tk_k h, md_tk_k h]
theorem md_tks_ww {A : md_A} {s bf m : Int} (hs : md_B A s) (hw : md_ww A) : md_ww (md_tks A s bf m).1 := by
  unfold md_tks
  split
  · exact hw
  · split
    · exact md_tk_ww hs hw
    · split
      · exact md_tk_ww hs hw
      · split
        · exact md_tk_ww (md_tk_B hs) (md_tk_ww hs hw)
        · exact md_tk_ww (md_tk_B hs) (md_tk_ww hs hw)
def md_fol (A : md_A) (s : Int) : md_A := md_u (md_follow A s) 15 s 1
theorem md_fol_k {A : md_A} {s i : Int} {k : Nat} (h : k ≠ 13 ∧ k ≠ 15 ∧ k ≠ 25) : md_fol A s k i = A k i := by
  unfold md_fol
  rw [md_uk h.2.1, md_follow_k ⟨h.1, h.2.2⟩]
theorem md_fol_lg (A : md_A) (s : Int) : md_lg A (md_fol A s) := fun k h1 h2 => by
  funext x
  exact md_fol_k (by omega)
theorem md_fol_ww {A : md_A} {s : Int} (h : md_ww A) : md_ww (md_fol A s) := (md_follow_ww h).u (by decide) (by omega)
def md_appX (A : md_A) (s : Int) : Prop := md_last A s < A 29 4 ∨ (A 4 s ≤ A 29 4 ∧ ¬ md_termAt A s (A 29 4) = A 29 5)
def md_min (a c : Int) : Int := if a < c then a else c
def md_max (a c : Int) : Int := if c < a then a else c
/-- behind the entries: the commit -/
noncomputable def md_appT (A : md_A) (s : Int) : md_A := md_u (md_tks A s (A 29 4) (A 29 7)).1 14 s (md_max (md_min (A 29 8) (md_tks A s (A 29 4) (A 29 7)).2) (A 14 s))
noncomputable def md_app (A : md_A) (s fr : Int) : md_A :=
  if A 29 3 < A 2 s then md_result A s fr 0 0 0
  else if md_last A s < A 29 4 ∨ (A 4 s ≤ A 29 4 ∧ ¬ md_termAt A s (A 29 4) = A 29 5) then md_result (md_fol A s) s fr 0 (if md_min (md_last A s) (A 29 4 - 1) < 0 then 0 else md_min (md_last A s) (A 29 4 - 1)) (A 29 9)
  else md_result (md_appT (md_fol A s) s) s fr 1 (md_tks (md_fol A s) s (A 29 4) (A 29 7)).2 (A 29 9)
set_option maxRecDepth 100000 in
set_option maxHeartbeats 1000000 in
theorem m_appended (l : Launch) (G : qh_G) (b : Nat) {o : Nat} {ad : Nat → Nat} {iv : Nat → Option Nat} (I : md_I o ad iv) (g : qh_H) {A : md_A} {s fr : Int} (hs : md_B A s) (hw : md_ww A) (hrd : 0 ≤ A 21 0 ∧ A 21 0 ≤ 60) (hb : -1000000 ≤ A 29 4 ∧ A 29 4 ≤ 2000000) (hm : 0 ≤ A 29 7 ∧ A 29 7 ≤ 2) (d : Nat) : qv l y_D_appended c_D_appended 7 none (d + 4) 0 0 G b [.ref o, .int (iI s), .int (iI fr)] (md_h G o ad iv g A) (md_h G o ad iv g (md_app A s fr)) := by
  have h3 := hw.1 29 3
  have h2 := hw.1 2 s
  have h5 := hw.1 29 5
  have h8 := hw.1 29 8
  have h14 := hw.1 14 s
  have ht := md_termAt_r hw.1 s (A 29 4)
  have hl : md_last A s = A 4 s + A 8 s := rfl
  have lg := md_fol_lg A s
  have ww := md_fol_ww (s := s) hw
  have e29 : ∀ x, md_fol A s 29 x = A 29 x := fun x => md_fol_k (by decide)
  have e4 : md_fol A s 4 s = A 4 s := md_fol_k (by decide)
  have e14 : md_fol A s 14 s = A 14 s := md_fol_k (by decide)
  have hBf := lg.B hs
  refine qx_of (lo := [some (.ref o), some (.int (iI s)), some (.int (iI fr)), none, none, none, none]) (by decide) (fun w hw => List.mem_cons_of_mem _ hw) rfl (Nat.le_of_ble_eq_true rfl) rfl ?_
  intro X C
  refine qx_aload_n C d_D_appended_0 rfl rfl ?_
  refine mx_gi C d_D_appended_1 fl_D_89 rfl ?_
  refine qx_iconst C d_D_appended_4 (v := iI (4)) rfl ?_
  refine mx_ia C I 29 20 d_D_appended_5 (by unfold md_a; omega) rfl rfl (by omega) (by omega) ?_
  refine nx_istore_n C d_D_appended_6 rfl (Nat.le_of_ble_eq_true rfl) (lo' := [_, _, _, some (.int _), _, _, _]) rfl ?_
  refine qx_aload_n C d_D_appended_7 rfl rfl ?_
  refine mx_gi C d_D_appended_8 fl_D_89 rfl ?_
  refine qx_bipush C d_D_appended_11 (v := iI (9)) (by decide) ?_
  refine mx_ia C I 29 20 d_D_appended_13 (by unfold md_a; omega) rfl rfl (by omega) (by omega) ?_
  refine nx_istore C d_D_appended_14 (Nat.le_of_ble_eq_true rfl) (lo' := [_, _, _, _, some (.int _), _, _]) rfl ?_
  refine qx_aload_n C d_D_appended_16 rfl rfl ?_
  refine mx_gi C d_D_appended_17 fl_D_89 rfl ?_
  refine qx_iconst C d_D_appended_20 (v := iI (3)) rfl ?_
  refine mx_ia C I 29 20 d_D_appended_21 (by unfold md_a; omega) rfl rfl (by omega) (by omega) ?_
  refine qx_aload_n C d_D_appended_22 rfl rfl ?_
  refine mx_gi C d_D_appended_23 fl_D_13 rfl ?_
  refine qx_iload_n C d_D_appended_26 rfl rfl ?_
  refine mx_ia C I 2 5 d_D_appended_27 (by unfold md_a; omega) rfl rfl (by omega) (by omega) ?_
  refine nx_icmp_ge C 41 d_D_appended_28 (by decide) (by omega) (by omega) (fun z1 => ?_) (fun z1 => ?_)
  · refine qx_aload_n C d_D_appended_41 rfl rfl ?_
    refine qx_iload_n C d_D_appended_42 rfl rfl ?_
    refine nx_callv C (s_D_appended_43 md_o) (m_follow l G b I g hw.1 (by omega) hrd d) w_D_follow rfl rfl (Nat.le_of_ble_eq_true rfl) (by omega) (by decide) ?_
    refine qx_aload_n C d_D_appended_46 rfl rfl ?_
    refine mx_gi C d_D_appended_47 fl_D_53 rfl ?_
    refine qx_iload_n C d_D_appended_50 rfl rfl ?_
    refine qx_iconst C d_D_appended_51 (v := iI (1)) rfl ?_
    refine mx_zs C I 15 5 d_D_appended_52 (by unfold md_a; omega) rfl rfl (by omega) (by omega) (by omega) ?_
    refine qx_iload_n C d_D_appended_53 rfl rfl ?_
    refine qx_aload_n C d_D_appended_54 rfl rfl ?_
    refine qx_iload_n C d_D_appended_55 rfl rfl ?_
    rw [show md_u (md_follow A s) 15 s 1 = md_fol A s from rfl]
    refine nx_call0 C (s_D_appended_56 md_o) (m_last l G b I g hBf d) w_D_last rfl rfl (Nat.le_of_ble_eq_true rfl) (by omega) (by decide) ?_
    rw [lg.last]
    have Fx : (md_last A s < A 29 4 ∨ (A 4 s ≤ A 29 4 ∧ ¬ md_termAt A s (A 29 4) = A 29 5)) → X 87 [some (.ref o), some (.int (iI s)), some (.int (iI fr)), some (.int (iI (A 29 4))), some (.int (iI (A 29 9))), none, none] [] (md_h G o ad iv g (md_fol A s)) 0 0 := by
      intro hX
      have Fy : ∀ q : Int, q = md_min (md_last A s) (A 29 4 - 1) → rng q → X 109 [some (.ref o), some (.int (iI s)), some (.int (iI fr)), some (.int (iI (A 29 4))), some (.int (iI (A 29 9))), none, none] [.int (iI q)] (md_h G o ad iv g (md_fol A s)) 0 0 := by
        intro q hq hqr
        refine nx_istore C d_D_appended_109 (Nat.le_of_ble_eq_true rfl) (lo' := [_, _, _, _, _, some (.int _), _]) rfl ?_
        refine qx_aload_n C d_D_appended_111 rfl rfl ?_
        refine qx_iload_n C d_D_appended_112 rfl rfl ?_
        refine qx_iload_n C d_D_appended_113 rfl rfl ?_
        refine qx_iconst C d_D_appended_114 (v := iI (0)) rfl ?_
        refine qx_iload C d_D_appended_115 rfl ?_
        refine nx_if_ge C 124 d_D_appended_117 (by decide) (by omega) (fun z2 => ?_) (fun z2 => ?_)
        · refine qx_iload C d_D_appended_124 rfl ?_
          refine qx_iload C d_D_appended_126 rfl ?_
          refine nx_callv C (s_D_appended_128 md_o) (m_result l G b I g (by omega) (by omega) ww.2 d) w_D_result rfl rfl (Nat.le_of_ble_eq_true rfl) (by omega) (by decide) ?_
          refine qx_vret C d_D_appended_131 (Nat.zero_le _) (Nat.zero_le _) ⟨rfl, ?_⟩
          unfold md_app
          rw [if_neg (by omega), if_pos hX, ← hq, if_neg (by omega)]
        · refine qx_iconst C d_D_appended_120 (v := iI (0)) rfl ?_
          refine qx_goto C d_D_appended_121 (tgt := 126) (by decide) ?_
          refine qx_iload C d_D_appended_126 rfl ?_
          refine nx_callv C (s_D_appended_128 md_o) (m_result l G b I g (by omega) (by omega) ww.2 d) w_D_result rfl rfl (Nat.le_of_ble_eq_true rfl) (by omega) (by decide) ?_
          refine qx_vret C d_D_appended_131 (Nat.zero_le _) (Nat.zero_le _) ⟨rfl, ?_⟩
          unfold md_app
          rw [if_neg (by omega), if_pos hX, ← hq, if_pos (by omega)]
      refine qx_aload_n C d_D_appended_87 rfl rfl ?_
      refine qx_iload_n C d_D_appended_88 rfl rfl ?_
      refine nx_call0 C (s_D_appended_89 md_o) (m_last l G b I g hBf d) w_D_last rfl rfl (Nat.le_of_ble_eq_true rfl) (by omega) (by decide) ?_
      rw [lg.last]
      refine qx_iload_n C d_D_appended_92 rfl rfl ?_
      refine qx_iconst C d_D_appended_93 (v := iI (1)) rfl ?_
      refine nx_isub C d_D_appended_94 ?_
      refine nx_icmp_ge C 106 d_D_appended_95 (by decide) (by omega) (by omega) (fun z2 => ?_) (fun z2 => ?_)
      · refine qx_iload_n C d_D_appended_106 rfl rfl ?_
        refine qx_iconst C d_D_appended_107 (v := iI (1)) rfl ?_
        refine nx_isub C d_D_appended_108 ?_
        exact Fy _ (by unfold md_min; rw [if_neg (by omega)]) (by omega)
      · refine qx_aload_n C d_D_appended_98 rfl rfl ?_
        refine qx_iload_n C d_D_appended_99 rfl rfl ?_
        refine nx_call0 C (s_D_appended_100 md_o) (m_last l G b I g hBf d) w_D_last rfl rfl (Nat.le_of_ble_eq_true rfl) (by omega) (by decide) ?_
        rw [lg.last]
        refine qx_goto C d_D_appended_103 (tgt := 109) (by decide) ?_
        exact Fy _ (by unfold md_min; rw [if_pos (by omega)]) (by omega)
    have Ft : ¬ (md_last A s < A 29 4 ∨ (A 4 s ≤ A 29 4 ∧ ¬ md_termAt A s (A 29 4) = A 29 5)) → X 132 [some (.ref o), some (.int (iI s)), some (.int (iI fr)), some (.int (iI (A 29 4))), some (.int (iI (A 29 9))), none, none] [] (md_h G o ad iv g (md_fol A s)) 0 0 := by
      intro hX
      have Fz : ∀ (B : md_A) (i : Int) (l6 : Option Value), md_tks (md_fol A s) s (A 29 4) (A 29 7) = (B, i) → X 181 [some (.ref o), some (.int (iI s)), some (.int (iI fr)), some (.int (iI (A 29 4))), some (.int (iI (A 29 9))), some (.int (iI i)), l6] [] (md_h G o ad iv g B) 0 0 := by
        intro B i l6 hB
        have wwB : md_ww B := by have := md_tks_ww (bf := A 29 4) (m := A 29 7) hBf ww; rw [hB] at this; exact this
        have hir : A 29 4 ≤ i ∧ i ≤ A 29 4 + 2 := by have := md_tks_in (md_fol A s) s (A 29 4) (A 29 7); rw [hB] at this; exact this
        have eB29 : ∀ x, B 29 x = A 29 x := fun x => by have := md_tks_k (A := md_fol A s) (s := s) (bf := A 29 4) (m := A 29 7) (x := x) (k := 29) (by omega); rw [hB, e29] at this; exact this
        have eB14 : B 14 s = A 14 s := by have := md_tks_k (A := md_fol A s) (s := s) (bf := A 29 4) (m := A 29 7) (x := s) (k := 14) (by omega); rw [hB, e14] at this; exact this
        have Fw : ∀ q : Int, q = md_min (A 29 8) i → rng q → X 205 [some (.ref o), some (.int (iI s)), some (.int (iI fr)), some (.int (iI (A 29 4))), some (.int (iI (A 29 9))), some (.int (iI i)), l6] [.int (iI q)] (md_h G o ad iv g B) 0 0 := by
          intro q hq hqr
          have fin : ∀ v, v = md_max q (A 14 s) → md_result (md_u B 14 s v) s fr 1 i (A 29 9) = md_app A s fr := by
            intro v hv9
            unfold md_app md_appT
            rw [if_neg (by omega), if_neg hX, e29, e29, e29, e14, hB, ← hq, hv9]
          refine nx_istore C d_D_appended_205 (Nat.le_of_ble_eq_true rfl) (lo' := [_, _, _, _, _, _, some (.int _)]) rfl ?_
          refine qx_aload_n C d_D_appended_207 rfl rfl ?_
          refine mx_gi C d_D_appended_208 fl_D_50 rfl ?_
          refine qx_iload_n C d_D_appended_211 rfl rfl ?_
          refine qx_iload C d_D_appended_212 rfl ?_
          refine qx_aload_n C d_D_appended_214 rfl rfl ?_
          refine mx_gi C d_D_appended_215 fl_D_50 rfl ?_
          refine qx_iload_n C d_D_appended_218 rfl rfl ?_
          refine mx_ia C I 14 5 d_D_appended_219 (by unfold md_a; omega) rfl rfl (by omega) (by omega) ?_
          rw [eB14]
          refine nx_icmp_le C 228 d_D_appended_220 (by decide) (by omega) (by omega) (fun z3 => ?_) (fun z3 => ?_)
          · refine qx_aload_n C d_D_appended_228 rfl rfl ?_
            refine mx_gi C d_D_appended_229 fl_D_50 rfl ?_
            refine qx_iload_n C d_D_appended_232 rfl rfl ?_
            refine mx_ia C I 14 5 d_D_appended_233 (by unfold md_a; omega) rfl rfl (by omega) (by omega) ?_
            rw [eB14]
            refine mx_is C I 14 5 d_D_appended_234 (by unfold md_a; omega) rfl rfl (by omega) (by omega) ?_
            refine qx_aload_n C d_D_appended_235 rfl rfl ?_
            refine qx_iload_n C d_D_appended_236 rfl rfl ?_
            refine qx_iload_n C d_D_appended_237 rfl rfl ?_
            refine qx_iconst C d_D_appended_238 (v := iI (1)) rfl ?_
            refine qx_iload C d_D_appended_239 rfl ?_
            refine qx_iload C d_D_appended_241 rfl ?_
            refine nx_callv C (s_D_appended_243 md_o) (m_result l G b I g (by omega) (by omega) (by rw [md_uk (by decide)]; exact wwB.2) d) w_D_result rfl rfl (Nat.le_of_ble_eq_true rfl) (by omega) (by decide) ?_
            refine qx_vret C d_D_appended_246 (Nat.zero_le _) (Nat.zero_le _) ⟨rfl, ?_⟩
            rw [fin _ (by unfold md_max; rw [if_neg (by omega)])]
          · refine qx_iload C d_D_appended_223 rfl ?_
            refine qx_goto C d_D_appended_225 (tgt := 234) (by decide) ?_
            refine mx_is C I 14 5 d_D_appended_234 (by unfold md_a; omega) rfl rfl (by omega) (by omega) ?_
            refine qx_aload_n C d_D_appended_235 rfl rfl ?_
            refine qx_iload_n C d_D_appended_236 rfl rfl ?_
            refine qx_iload_n C d_D_appended_237 rfl rfl ?_
            refine qx_iconst C d_D_appended_238 (v := iI (1)) rfl ?_
            refine qx_iload C d_D_appended_239 rfl ?_
            refine qx_iload C d_D_appended_241 rfl ?_
            refine nx_callv C (s_D_appended_243 md_o) (m_result l G b I g (by omega) (by omega) (by rw [md_uk (by decide)]; exact wwB.2) d) w_D_result rfl rfl (Nat.le_of_ble_eq_true rfl) (by omega) (by decide) ?_
            refine qx_vret C d_D_appended_246 (Nat.zero_le _) (Nat.zero_le _) ⟨rfl, ?_⟩
            rw [fin _ (by unfold md_max; rw [if_pos (by omega)])]
        refine qx_aload_n C d_D_appended_181 rfl rfl ?_
        refine mx_gi C d_D_appended_182 fl_D_89 rfl ?_
        refine qx_bipush C d_D_appended_185 (v := iI (8)) (by decide) ?_
        refine mx_ia C I 29 20 d_D_appended_187 (by unfold md_a; omega) rfl rfl (by omega) (by omega) ?_
        refine qx_iload C d_D_appended_188 rfl ?_
        rw [eB29]
        refine nx_icmp_ge C 203 d_D_appended_190 (by decide) (by omega) (by omega) (fun z2 => ?_) (fun z2 => ?_)
        · refine qx_iload C d_D_appended_203 rfl ?_
          exact Fw _ (by unfold md_min; rw [if_neg (by omega)]) (by omega)
        · refine qx_aload_n C d_D_appended_193 rfl rfl ?_
          refine mx_gi C d_D_appended_194 fl_D_89 rfl ?_
          refine qx_bipush C d_D_appended_197 (v := iI (8)) (by decide) ?_
          refine mx_ia C I 29 20 d_D_appended_199 (by unfold md_a; omega) rfl rfl (by omega) (by omega) ?_
          refine qx_goto C d_D_appended_200 (tgt := 205) (by decide) ?_
          rw [eB29]
          exact Fw _ (by unfold md_min; rw [if_pos (by omega)]) (by omega)
      refine qx_iload_n C d_D_appended_132 rfl rfl ?_
      refine nx_istore C d_D_appended_133 (Nat.le_of_ble_eq_true rfl) (lo' := [_, _, _, _, _, some (.int _), _]) rfl ?_
      refine qx_iconst C d_D_appended_135 (v := iI (0)) rfl ?_
      refine nx_istore C d_D_appended_136 (Nat.le_of_ble_eq_true rfl) (lo' := [_, _, _, _, _, _, some (.int _)]) rfl ?_
      refine qx_iload C d_D_appended_138 rfl ?_
      refine qx_aload_n C d_D_appended_140 rfl rfl ?_
      refine mx_gi C d_D_appended_141 fl_D_89 rfl ?_
      refine qx_bipush C d_D_appended_144 (v := iI (7)) (by decide) ?_
      refine mx_ia C I 29 20 d_D_appended_146 (by unfold md_a; omega) rfl rfl (by omega) (by omega) ?_
      rw [e29]
      refine nx_icmp_ge C 181 d_D_appended_147 (by decide) (by omega) (by omega) (fun z2 => ?_) (fun z2 => ?_)
      · exact Fz _ _ _ (by unfold md_tks; rw [if_pos (by omega)])
      · have r1 := md_tkR_01 (md_fol A s) s (A 29 4 + 1) 10
        refine qx_aload_n C d_D_appended_150 rfl rfl ?_
        refine qx_iload_n C d_D_appended_151 rfl rfl ?_
        refine qx_iload C d_D_appended_152 rfl ?_
        refine qx_iconst C d_D_appended_154 (v := iI (1)) rfl ?_
        refine nx_iadd C d_D_appended_155 ?_
        refine qx_bipush C d_D_appended_156 (v := iI (10)) (by decide) ?_
        refine qx_iconst C d_D_appended_158 (v := iI (4)) rfl ?_
        refine qx_iload C d_D_appended_159 rfl ?_
        refine nx_imul C d_D_appended_161 ?_
        refine nx_iadd C d_D_appended_162 ?_
        refine nx_call0 C (s_D_appended_163 md_o) (m_takeEntry2 l G b I g hBf ww (by omega) (by omega) d) w_D_takeEntry rfl rfl (Nat.le_of_ble_eq_true rfl) (by omega) (by decide) ?_
        rw [show (10 : Int) + 4 * 0 = 10 from rfl]
        refine nx_if_ne C 172 d_D_appended_166 (by decide) (by omega) (fun z3 => ?_) (fun z3 => ?_)
        · have hB1 := md_tk_B (i := A 29 4 + 1) (p := 10) hBf
          have ww1 := md_tk_ww (i := A 29 4 + 1) (p := 10) hBf ww
          have e1 : md_tk (md_fol A s) s (A 29 4 + 1) 10 29 7 = A 29 7 := by rw [md_tk_k (by omega)]; exact e29 7
          refine nx_iinc C d_D_appended_172 rfl (lo' := [_, _, _, _, _, some (.int _), _]) rfl ?_
          refine nx_iinc C d_D_appended_175 rfl (lo' := [_, _, _, _, _, _, some (.int _)]) rfl ?_
          refine qx_goto C d_D_appended_178 (tgt := 138) (by decide) ?_
          refine qx_iload C d_D_appended_138 rfl ?_
          refine qx_aload_n C d_D_appended_140 rfl rfl ?_
          refine mx_gi C d_D_appended_141 fl_D_89 rfl ?_
          refine qx_bipush C d_D_appended_144 (v := iI (7)) (by decide) ?_
          refine mx_ia C I 29 20 d_D_appended_146 (by unfold md_a; omega) rfl rfl (by omega) (by omega) ?_
          rw [e1]
          refine nx_icmp_ge C 181 d_D_appended_147 (by decide) (by omega) (by omega) (fun z4 => ?_) (fun z4 => ?_)
          · exact Fz _ _ _ (by unfold md_tks; rw [if_neg (by omega), if_neg z3, if_pos (by omega)])
          · have r2 := md_tkR_01 (md_tk (md_fol A s) s (A 29 4 + 1) 10) s (A 29 4 + 1 + 1) 14
            refine qx_aload_n C d_D_appended_150 rfl rfl ?_
            refine qx_iload_n C d_D_appended_151 rfl rfl ?_
            refine qx_iload C d_D_appended_152 rfl ?_
            refine qx_iconst C d_D_appended_154 (v := iI (1)) rfl ?_
            refine nx_iadd C d_D_appended_155 ?_
            refine qx_bipush C d_D_appended_156 (v := iI (10)) (by decide) ?_
            refine qx_iconst C d_D_appended_158 (v := iI (4)) rfl ?_
            refine qx_iload C d_D_appended_159 rfl ?_
            refine nx_imul C d_D_appended_161 ?_
            refine nx_iadd C d_D_appended_162 ?_
            refine nx_call0 C (s_D_appended_163 md_o) (m_takeEntry2 l G b I g hB1 ww1 (by omega) (by omega) d) w_D_takeEntry rfl rfl (Nat.le_of_ble_eq_true rfl) (by omega) (by decide) ?_
            rw [show (10 : Int) + 4 * (0 + 1) = 14 from rfl]
            refine nx_if_ne C 172 d_D_appended_166 (by decide) (by omega) (fun z5 => ?_) (fun z5 => ?_)
            · have e2 : md_tk (md_tk (md_fol A s) s (A 29 4 + 1) 10) s (A 29 4 + 1 + 1) 14 29 7 = A 29 7 := by rw [md_tk_k (by omega)]; exact e1
              refine nx_iinc C d_D_appended_172 rfl (lo' := [_, _, _, _, _, some (.int _), _]) rfl ?_
              refine nx_iinc C d_D_appended_175 rfl (lo' := [_, _, _, _, _, _, some (.int _)]) rfl ?_
              refine qx_goto C d_D_appended_178 (tgt := 138) (by decide) ?_
              refine qx_iload C d_D_appended_138 rfl ?_
              refine qx_aload_n C d_D_appended_140 rfl rfl ?_
              refine mx_gi C d_D_appended_141 fl_D_89 rfl ?_
              refine qx_bipush C d_D_appended_144 (v := iI (7)) (by decide) ?_
              refine mx_ia C I 29 20 d_D_appended_146 (by unfold md_a; omega) rfl rfl (by omega) (by omega) ?_
              rw [e2]
              refine nx_icmp_ge C 181 d_D_appended_147 (by decide) (by omega) (by omega) (fun z6 => ?_) (fun z6 => ?_)
              · exact Fz _ _ _ (by unfold md_tks; rw [if_neg (by omega), if_neg z3, if_neg (by omega), if_neg z5])
              · exact absurd z6 (by omega)
            · refine qx_goto C d_D_appended_169 (tgt := 181) (by decide) ?_
              exact Fz _ _ _ (by unfold md_tks; rw [if_neg (by omega), if_neg z3, if_neg (by omega), if_pos z5])
        · refine qx_goto C d_D_appended_169 (tgt := 181) (by decide) ?_
          exact Fz _ _ _ (by unfold md_tks; rw [if_neg (by omega), if_pos z3])
    refine nx_icmp_gt C 87 d_D_appended_59 (by decide) (by omega) (by omega) (fun z2 => ?_) (fun z2 => ?_)
    · exact Fx (Or.inl (by omega))
    · refine qx_iload_n C d_D_appended_62 rfl rfl ?_
      refine qx_aload_n C d_D_appended_63 rfl rfl ?_
      refine mx_gi C d_D_appended_64 fl_D_20 rfl ?_
      refine qx_iload_n C d_D_appended_67 rfl rfl ?_
      refine mx_ia C I 4 5 d_D_appended_68 (by unfold md_a; omega) rfl rfl (by omega) (by omega) ?_
      rw [e4]
      refine nx_icmp_lt C 132 d_D_appended_69 (by decide) (by omega) (by omega) (fun z3 => ?_) (fun z3 => ?_)
      · exact Ft (by omega)
      · refine qx_aload_n C d_D_appended_72 rfl rfl ?_
        refine qx_iload_n C d_D_appended_73 rfl rfl ?_
        refine qx_iload_n C d_D_appended_74 rfl rfl ?_
        refine nx_call0 C (s_D_appended_75 md_o) (m_termAt l G b I g hBf (by omega) d) w_D_termAt rfl rfl (Nat.le_of_ble_eq_true rfl) (by omega) (by decide) ?_
        rw [lg.termAt]
        refine qx_aload_n C d_D_appended_78 rfl rfl ?_
        refine mx_gi C d_D_appended_79 fl_D_89 rfl ?_
        refine qx_iconst C d_D_appended_82 (v := iI (5)) rfl ?_
        refine mx_ia C I 29 20 d_D_appended_83 (by unfold md_a; omega) rfl rfl (by omega) (by omega) ?_
        rw [e29]
        refine nx_icmp_eq C 132 d_D_appended_84 (by decide) (by omega) (by omega) (fun z4 => ?_) (fun z4 => ?_)
        · exact Ft (by omega)
        · exact Fx (Or.inr ⟨by omega, z4⟩)
  · refine qx_aload_n C d_D_appended_31 rfl rfl ?_
    refine qx_iload_n C d_D_appended_32 rfl rfl ?_
    refine qx_iload_n C d_D_appended_33 rfl rfl ?_
    refine qx_iconst C d_D_appended_34 (v := iI (0)) rfl ?_
    refine qx_iconst C d_D_appended_35 (v := iI (0)) rfl ?_
    refine qx_iconst C d_D_appended_36 (v := iI (0)) rfl ?_
    refine nx_callv C (s_D_appended_37 md_o) (m_result l G b I g (by omega) (by omega) hw.2 d) w_D_result rfl rfl (Nat.le_of_ble_eq_true rfl) (by omega) (by decide) ?_
    refine qx_vret C d_D_appended_40 (Nat.zero_le _) (Nat.zero_le _) ⟨rfl, ?_⟩
    unfold md_app
    rw [if_pos (by omega)]
/-- a snapshot that comes takes the log's place -/
def md_insL (A : md_A) (s : Int) : md_A := if md_termAt A s (A 29 4) = A 29 5 then md_shift A s (A 29 4) else md_u A 8 s 0
def md_insA (A : md_A) (s : Int) : md_A := md_u (md_w (md_u (md_u (md_u (md_insL A s) 4 s (A 29 4)) 5 s (A 29 5)) 6 s (A 29 10)) 7 (4 * s) (4 * s + 4) (fun z => A 29 (11 + (z - 4 * s)))) 14 s (A 29 4)
def md_ins (A : md_A) (s fr : Int) : md_A :=
  if A 29 3 < A 2 s then md_result A s fr 0 0 0
  else if A 14 s < A 29 4 then md_result (md_insA (md_fol A s) s) s fr 1 (A 29 4) (A 29 9)
  else md_result (md_fol A s) s fr 1 (A 29 4) (A 29 9)
theorem md_sh_k {A : md_A} {lo gone x : Int} {n k : Nat} (h : k < 9 ∨ 12 < k) : md_sh A lo n gone k x = A k x := if_neg (by omega)
theorem md_shift_k {A : md_A} {s i x : Int} {k : Nat} (h : k < 8 ∨ 12 < k) : md_shift A s i k x = A k x := by
  unfold md_shift
  rw [md_uk (by omega), md_sh_k (by omega)]
theorem md_insL_k {A : md_A} {s x : Int} {k : Nat} (h : k < 8 ∨ 12 < k) : md_insL A s k x = A k x := by
  unfold md_insL
  split
  · exact md_shift_k h
  · exact md_uk (by omega)
set_option maxRecDepth 100000 in
set_option maxHeartbeats 1000000 in
theorem m_installed (l : Launch) (G : qh_G) (b : Nat) {o : Nat} {ad : Nat → Nat} {iv : Nat → Option Nat} (I : md_I o ad iv) (g : qh_H) {A : md_A} {s fr : Int} (hs : md_B A s) (hw : md_ww A) (hrd : 0 ≤ A 21 0 ∧ A 21 0 ≤ 60) (hcm : A 4 s ≤ A 14 s) (hb : 0 ≤ A 29 4 ∧ A 29 4 ≤ 1000000) (h5 : 0 ≤ A 29 5) (d : Nat) : qv l y_D_installed c_D_installed 5 none (d + 4) 0 0 G b [.ref o, .int (iI s), .int (iI fr)] (md_h G o ad iv g A) (md_h G o ad iv g (md_ins A s fr)) := by
  have h3 := hw.1 29 3
  have h2 := hw.1 2 s
  have h5r := hw.1 29 5
  have h14 := hw.1 14 s
  have ht := md_termAt_r hw.1 s (A 29 4)
  have hl : md_last A s = A 4 s + A 8 s := rfl
  have lg := md_fol_lg A s
  have ww := md_fol_ww (s := s) hw
  have e29 : ∀ x, md_fol A s 29 x = A 29 x := fun x => md_fol_k (by decide)
  have e4 : md_fol A s 4 s = A 4 s := md_fol_k (by decide)
  have e8 : md_fol A s 8 s = A 8 s := md_fol_k (by decide)
  have e14 : md_fol A s 14 s = A 14 s := md_fol_k (by decide)
  have hBf := lg.B hs
  refine qx_of (lo := [some (.ref o), some (.int (iI s)), some (.int (iI fr)), none, none]) (by decide) (fun w hw => List.mem_cons_of_mem _ hw) rfl (Nat.le_of_ble_eq_true rfl) rfl ?_
  intro X C
  refine qx_aload_n C d_D_installed_0 rfl rfl ?_
  refine mx_gi C d_D_installed_1 fl_D_89 rfl ?_
  refine qx_iconst C d_D_installed_4 (v := iI (3)) rfl ?_
  refine mx_ia C I 29 20 d_D_installed_5 (by unfold md_a; omega) rfl rfl (by omega) (by omega) ?_
  refine qx_aload_n C d_D_installed_6 rfl rfl ?_
  refine mx_gi C d_D_installed_7 fl_D_13 rfl ?_
  refine qx_iload_n C d_D_installed_10 rfl rfl ?_
  refine mx_ia C I 2 5 d_D_installed_11 (by unfold md_a; omega) rfl rfl (by omega) (by omega) ?_
  refine nx_icmp_ge C 25 d_D_installed_12 (by decide) (by omega) (by omega) (fun z1 => ?_) (fun z1 => ?_)
  · refine qx_aload_n C d_D_installed_25 rfl rfl ?_
    refine qx_iload_n C d_D_installed_26 rfl rfl ?_
    refine nx_callv C (s_D_installed_27 md_o) (m_follow l G b I g hw.1 (by omega) hrd d) w_D_follow rfl rfl (Nat.le_of_ble_eq_true rfl) (by omega) (by decide) ?_
    refine qx_aload_n C d_D_installed_30 rfl rfl ?_
    refine mx_gi C d_D_installed_31 fl_D_53 rfl ?_
    refine qx_iload_n C d_D_installed_34 rfl rfl ?_
    refine qx_iconst C d_D_installed_35 (v := iI (1)) rfl ?_
    refine mx_zs C I 15 5 d_D_installed_36 (by unfold md_a; omega) rfl rfl (by omega) (by omega) (by omega) ?_
    refine qx_aload_n C d_D_installed_37 rfl rfl ?_
    refine mx_gi C d_D_installed_38 fl_D_89 rfl ?_
    refine qx_iconst C d_D_installed_41 (v := iI (4)) rfl ?_
    refine mx_ia C I 29 20 d_D_installed_42 (by unfold md_a; omega) rfl rfl (by omega) (by omega) ?_
    rw [show md_u (md_follow A s) 15 s 1 = md_fol A s from rfl, e29]
    refine nx_istore_n C d_D_installed_43 rfl (Nat.le_of_ble_eq_true rfl) (lo' := [_, _, _, some (.int _), _]) rfl ?_
    refine qx_iload_n C d_D_installed_44 rfl rfl ?_
    refine qx_aload_n C d_D_installed_45 rfl rfl ?_
    refine mx_gi C d_D_installed_46 fl_D_50 rfl ?_
    refine qx_iload_n C d_D_installed_49 rfl rfl ?_
    refine mx_ia C I 14 5 d_D_installed_50 (by unfold md_a; omega) rfl rfl (by omega) (by omega) ?_
    rw [e14]
    have Fe : ∀ (B : md_A) (l4 : Option Value), 0 ≤ B 27 0 ∧ B 27 0 ≤ 48 → B 29 9 = A 29 9 → md_result B s fr 1 (A 29 4) (A 29 9) = md_ins A s fr → X 160 [some (.ref o), some (.int (iI s)), some (.int (iI fr)), some (.int (iI (A 29 4))), l4] [] (md_h G o ad iv g B) 0 0 := by
      intro B l4 hBw e9 e
      refine qx_aload_n C d_D_installed_160 rfl rfl ?_
      refine qx_iload_n C d_D_installed_161 rfl rfl ?_
      refine qx_iload_n C d_D_installed_162 rfl rfl ?_
      refine qx_iconst C d_D_installed_163 (v := iI (1)) rfl ?_
      refine qx_iload_n C d_D_installed_164 rfl rfl ?_
      refine qx_aload_n C d_D_installed_165 rfl rfl ?_
      refine mx_gi C d_D_installed_166 fl_D_89 rfl ?_
      refine qx_bipush C d_D_installed_169 (v := iI (9)) (by decide) ?_
      refine mx_ia C I 29 20 d_D_installed_171 (by unfold md_a; omega) rfl rfl (by omega) (by omega) ?_
      rw [e9]
      refine nx_callv C (s_D_installed_172 md_o) (m_result l G b I g (by omega) (by omega) hBw d) w_D_result rfl rfl (Nat.le_of_ble_eq_true rfl) (by omega) (by decide) ?_
      refine qx_vret C d_D_installed_175 (Nat.zero_le _) (Nat.zero_le _) ⟨rfl, ?_⟩
      rw [e]
    refine nx_icmp_le C 160 d_D_installed_51 (by decide) (by omega) (by omega) (fun z2 => ?_) (fun z2 => ?_)
    · exact Fe _ _ ww.2 (e29 9) (by unfold md_ins; rw [if_neg (by omega), if_neg (by omega)])
    · have Fl : ∀ B : md_A, B = md_insL (md_fol A s) s → X 85 [some (.ref o), some (.int (iI s)), some (.int (iI fr)), some (.int (iI (A 29 4))), none] [] (md_h G o ad iv g B) 0 0 := by
        intro B hB
        have eB : ∀ x, B 29 x = A 29 x := fun x => by rw [hB, md_insL_k (by omega)]; exact e29 x
        refine qx_aload_n C d_D_installed_85 rfl rfl ?_
        refine mx_gi C d_D_installed_86 fl_D_20 rfl ?_
        refine qx_iload_n C d_D_installed_89 rfl rfl ?_
        refine qx_iload_n C d_D_installed_90 rfl rfl ?_
        refine mx_is C I 4 5 d_D_installed_91 (by unfold md_a; omega) rfl rfl (by omega) (by omega) ?_
        refine qx_aload_n C d_D_installed_92 rfl rfl ?_
        refine mx_gi C d_D_installed_93 fl_D_23 rfl ?_
        refine qx_iload_n C d_D_installed_96 rfl rfl ?_
        refine qx_aload_n C d_D_installed_97 rfl rfl ?_
        refine mx_gi C d_D_installed_98 fl_D_89 rfl ?_
        refine qx_iconst C d_D_installed_101 (v := iI (5)) rfl ?_
        refine mx_ia C I 29 20 d_D_installed_102 (by unfold md_a; omega) rfl rfl (by omega) (by omega) ?_
        rw [md_uk (k := 4) (j := 29) (by decide), eB]
        refine mx_is C I 5 5 d_D_installed_103 (by unfold md_a; omega) rfl rfl (by omega) (by omega) ?_
        refine qx_aload_n C d_D_installed_104 rfl rfl ?_
        refine mx_gi C d_D_installed_105 fl_D_26 rfl ?_
        refine qx_iload_n C d_D_installed_108 rfl rfl ?_
        refine qx_aload_n C d_D_installed_109 rfl rfl ?_
        refine mx_gi C d_D_installed_110 fl_D_89 rfl ?_
        refine qx_bipush C d_D_installed_113 (v := iI (10)) (by decide) ?_
        refine mx_ia C I 29 20 d_D_installed_115 (by unfold md_a; omega) rfl rfl (by omega) (by omega) ?_
        rw [md_uk (k := 5) (j := 29) (by decide), md_uk (k := 4) (j := 29) (by decide), eB]
        refine mx_is C I 6 5 d_D_installed_116 (by unfold md_a; omega) rfl rfl (by omega) (by omega) ?_
        refine qx_iconst C d_D_installed_117 (v := iI (0)) rfl ?_
        refine nx_istore C d_D_installed_118 (Nat.le_of_ble_eq_true rfl) (lo' := [_, _, _, _, some (.int _)]) rfl ?_
        have hBw : B 27 0 = A 27 0 := by rw [hB, md_insL_k (by omega)]; exact md_fol_k (by decide)
        have Lp : ∀ (r0 : Nat) (q : Int) (D : md_A), q + r0 = 4 → 0 ≤ q → D = md_w (md_u (md_u (md_u B 4 s (A 29 4)) 5 s (A 29 5)) 6 s (A 29 10)) 7 (4 * s) (4 * s + q) (fun z => A 29 (11 + (z - 4 * s))) → X 120 [some (.ref o), some (.int (iI s)), some (.int (iI fr)), some (.int (iI (A 29 4))), some (.int (iI q))] [] (md_h G o ad iv g D) 0 0 := by
          intro r0
          induction r0 with
          | zero =>
            intro q D hq h0 hD
            refine qx_iload C d_D_installed_120 rfl ?_
            refine qx_iconst C d_D_installed_122 (v := iI (4)) rfl ?_
            refine nx_icmp_ge C 153 d_D_installed_123 (by decide) (by omega) (by omega) (fun z3 => ?_) (fun z3 => ?_)
            · refine qx_aload_n C d_D_installed_153 rfl rfl ?_
              refine mx_gi C d_D_installed_154 fl_D_50 rfl ?_
              refine qx_iload_n C d_D_installed_157 rfl rfl ?_
              refine qx_iload_n C d_D_installed_158 rfl rfl ?_
              refine mx_is C I 14 5 d_D_installed_159 (by unfold md_a; omega) rfl rfl (by omega) (by omega) ?_
              have hfin : md_u D 14 s (A 29 4) = md_insA (md_fol A s) s := by
                unfold md_insA
                rw [e29, e29, e29, ← hB, hD, show 4 * s + q = 4 * s + 4 by omega]
                congr 2
                funext z
                rw [e29]
              refine Fe _ _ ?_ ?_ ?_
              · rw [md_uk (by decide), hD, md_wk (by decide), md_uk (by decide), md_uk (by decide), md_uk (by decide), hBw]; exact hw.2
              · rw [md_uk (by decide), hD, md_wk (by decide), md_uk (by decide), md_uk (by decide), md_uk (by decide), eB]
              · unfold md_ins
                rw [if_neg (by omega), if_pos (by omega), hfin]
            · exact absurd z3 (by omega)
          | succ r0 ih =>
            intro q D hq h0 hD
            have eD : D 29 (11 + q) = A 29 (11 + q) := by rw [hD, md_wk (by decide), md_uk (by decide), md_uk (by decide), md_uk (by decide), eB]
            refine qx_iload C d_D_installed_120 rfl ?_
            refine qx_iconst C d_D_installed_122 (v := iI (4)) rfl ?_
            refine nx_icmp_ge C 153 d_D_installed_123 (by decide) (by omega) (by omega) (fun z3 => ?_) (fun z3 => ?_)
            · exact absurd z3 (by omega)
            · refine qx_aload_n C d_D_installed_126 rfl rfl ?_
              refine mx_gi C d_D_installed_127 fl_D_29 rfl ?_
              refine qx_iconst C d_D_installed_130 (v := iI (4)) rfl ?_
              refine qx_iload_n C d_D_installed_131 rfl rfl ?_
              refine nx_imul C d_D_installed_132 ?_
              refine qx_iload C d_D_installed_133 rfl ?_
              refine nx_iadd C d_D_installed_135 ?_
              refine qx_aload_n C d_D_installed_136 rfl rfl ?_
              refine mx_gi C d_D_installed_137 fl_D_89 rfl ?_
              refine qx_bipush C d_D_installed_140 (v := iI (11)) (by decide) ?_
              refine qx_iload C d_D_installed_142 rfl ?_
              refine nx_iadd C d_D_installed_144 ?_
              refine mx_ia C I 29 20 d_D_installed_145 (by unfold md_a; omega) rfl rfl (by omega) (by omega) ?_
              refine mx_is C I 7 20 d_D_installed_146 (by unfold md_a; omega) rfl rfl (by omega) (by omega) ?_
              refine nx_iinc C d_D_installed_147 rfl (lo' := [_, _, _, _, some (.int _)]) rfl ?_
              refine qx_goto C d_D_installed_150 (tgt := 120) (by decide) ?_
              refine ih _ _ (by omega) (by omega) ?_
              rw [eD, hD, show 4 * s + (q + 1) = 4 * s + q + 1 by omega]
              exact md_w_s _ 7 _ (by omega) (by rw [show 4 * s + q - 4 * s = q by omega])
        exact Lp 4 0 _ (by omega) (by omega) (by rw [show 4 * s + 0 = 4 * s by omega]; exact (md_w_0 _ 7 _ _).symm)
      refine qx_aload_n C d_D_installed_54 rfl rfl ?_
      refine qx_iload_n C d_D_installed_55 rfl rfl ?_
      refine qx_iload_n C d_D_installed_56 rfl rfl ?_
      refine nx_call0 C (s_D_installed_57 md_o) (m_termAt l G b I g hBf (by omega) d) w_D_termAt rfl rfl (Nat.le_of_ble_eq_true rfl) (by omega) (by decide) ?_
      rw [lg.termAt]
      refine qx_aload_n C d_D_installed_60 rfl rfl ?_
      refine mx_gi C d_D_installed_61 fl_D_89 rfl ?_
      refine qx_iconst C d_D_installed_64 (v := iI (5)) rfl ?_
      refine mx_ia C I 29 20 d_D_installed_65 (by unfold md_a; omega) rfl rfl (by omega) (by omega) ?_
      rw [e29]
      refine nx_icmp_ne C 78 d_D_installed_66 (by decide) (by omega) (by omega) (fun z3 => ?_) (fun z3 => ?_)
      · refine qx_aload_n C d_D_installed_78 rfl rfl ?_
        refine mx_gi C d_D_installed_79 fl_D_32 rfl ?_
        refine qx_iload_n C d_D_installed_82 rfl rfl ?_
        refine qx_iconst C d_D_installed_83 (v := iI (0)) rfl ?_
        refine mx_is C I 8 5 d_D_installed_84 (by unfold md_a; omega) rfl rfl (by omega) (by omega) ?_
        exact Fl _ (by unfold md_insL; rw [lg.termAt, e29, e29, if_neg z3])
      · have hin : A 29 4 ≤ md_last A s := by
          by_cases hz : A 29 4 ≤ md_last A s
          · exact hz
          · exfalso
            have : md_termAt A s (A 29 4) = -1 := by
              have hcl : md_cell A s (A 29 4) = -1 := by unfold md_cell; rw [if_neg (by omega)]
              unfold md_termAt
              rw [if_neg (by omega), hcl, if_pos (by decide)]
            omega
        refine qx_aload_n C d_D_installed_69 rfl rfl ?_
        refine qx_iload_n C d_D_installed_70 rfl rfl ?_
        refine qx_iload_n C d_D_installed_71 rfl rfl ?_
        refine nx_callv C (s_D_installed_72 md_o) (m_shift l G b I g hBf (by rw [e4, e8]; omega) d) w_D_shift rfl rfl (Nat.le_of_ble_eq_true rfl) (by omega) (by decide) ?_
        refine qx_goto C d_D_installed_75 (tgt := 85) (by decide) ?_
        exact Fl _ (by unfold md_insL; rw [lg.termAt, e29, e29, if_pos z3])
  · refine qx_aload_n C d_D_installed_15 rfl rfl ?_
    refine qx_iload_n C d_D_installed_16 rfl rfl ?_
    refine qx_iload_n C d_D_installed_17 rfl rfl ?_
    refine qx_iconst C d_D_installed_18 (v := iI (0)) rfl ?_
    refine qx_iconst C d_D_installed_19 (v := iI (0)) rfl ?_
    refine qx_iconst C d_D_installed_20 (v := iI (0)) rfl ?_
    refine nx_callv C (s_D_installed_21 md_o) (m_result l G b I g (by omega) (by omega) hw.2 d) w_D_result rfl rfl (Nat.le_of_ble_eq_true rfl) (by omega) (by decide) ?_
    refine qx_vret C d_D_installed_24 (Nat.zero_le _) (Nat.zero_le _) ⟨rfl, ?_⟩
    unfold md_ins
    rw [if_pos (by omega)]
