/-! the reference: messages that come -/
def md_cutx (A : md_A) (s i : Int) : md_A := if i ≤ md_last A s then md_u A 8 s (i - A 4 s - 1) else A
def md_tkS (A : md_A) (s i p : Int) : Prop := i ≤ A 4 s ∨ (i ≤ md_last A s ∧ md_termAt A s i = A 29 p)
def md_tkF (A : md_A) (s i : Int) : Prop := 48 ≤ md_cutx A s i 8 s
def md_tkP (A : md_A) (s i p : Int) : md_A := md_push (md_cutx A s i) s (A 29 p) (A 29 (p + 1)) (A 29 (p + 2)) (A 29 (p + 3))
theorem md_cutx_k {A : md_A} {s i x : Int} {k : Nat} (h : k ≠ 8) : md_cutx A s i k x = A k x := by
  unfold md_cutx
  split
  · exact md_uk h
  · rfl
theorem md_cutx_B {A : md_A} {s i : Int} (hs : md_B A s) (hi : A 4 s < i) : md_B (md_cutx A s i) s := by
  have hl : md_last A s = A 4 s + A 8 s := rfl
  unfold md_B
  rw [md_cutx_k (by decide)]
  unfold md_cutx
  split
  · rw [md_us]; omega
  · exact hs
theorem md_cutx_ww {A : md_A} {s i : Int} (h : md_ww A) (hs : md_B A s) (hi : A 4 s < i) : md_ww (md_cutx A s i) := by
  have hl : md_last A s = A 4 s + A 8 s := rfl
  unfold md_cutx
  split
  · exact h.u (by decide) (by omega)
  · exact h
set_option maxRecDepth 100000 in
theorem m_takeEntry (l : Launch) (G : qh_G) (b : Nat) {o : Nat} {ad : Nat → Nat} {iv : Nat → Option Nat} (I : md_I o ad iv) (g : qh_H) {A : md_A} {s i p : Int} (hs : md_B A s) (hw : md_ww A) (hi : rng i) (hp : 0 ≤ p ∧ p ≤ 16) {r : Int} {A2 : md_A} (hr : (md_tkS A s i p → r = 1 ∧ A2 = A) ∧ (¬ md_tkS A s i p → md_tkF A s i → r = 0 ∧ A2 = md_cutx A s i) ∧ (¬ md_tkS A s i p → ¬ md_tkF A s i → r = 1 ∧ A2 = md_tkP A s i p)) (d : Nat) : qj l y_D_takeEntry c_D_takeEntry 4 (some .boolean) (d + 3) 0 0 G b [.ref o, .int (iI s), .int (iI i), .int (iI p)] (md_h G o ad iv g A) r (md_h G o ad iv g A2) := by
  have hl : md_last A s = A 4 s + A 8 s := rfl
  have ht := md_termAt_r hw.1 s i
  have h29 := hw.1 29 p
  refine qx_of (lo := [some (.ref o), some (.int (iI s)), some (.int (iI i)), some (.int (iI p))]) (by decide) (fun w hw => List.mem_cons_of_mem _ hw) rfl (Nat.le_of_ble_eq_true rfl) rfl ?_
  intro X C
  refine qx_iload_n C d_D_takeEntry_0 rfl rfl ?_
  refine qx_aload_n C d_D_takeEntry_1 rfl rfl ?_
  refine mx_gi C d_D_takeEntry_2 fl_D_20 rfl ?_
  refine qx_iload_n C d_D_takeEntry_5 rfl rfl ?_
  refine mx_ia C I 4 5 d_D_takeEntry_6 (by unfold md_a; omega) rfl rfl (by omega) (by omega) ?_
  refine nx_icmp_gt C 12 d_D_takeEntry_7 (by decide) (by omega) (by omega) (fun h1 => ?_) (fun h1 => ?_)
  · have Fin : ¬ md_tkS A s i p → ∀ B, B = md_cutx A s i → X 63 [some (.ref o), some (.int (iI s)), some (.int (iI i)), some (.int (iI p))] [] (md_h G o ad iv g B) 0 0 := by
      intro hS B hB
      have hBB : md_B B s := hB ▸ md_cutx_B hs h1
      have eF : md_tkF A s i ↔ 48 ≤ B 8 s := by unfold md_tkF; rw [hB]
      have e29 : ∀ x, B 29 x = A 29 x := fun x => by rw [hB]; exact md_cutx_k (by decide)
      refine qx_aload_n C d_D_takeEntry_63 rfl rfl ?_
      refine mx_gi C d_D_takeEntry_64 fl_D_32 rfl ?_
      refine qx_iload_n C d_D_takeEntry_67 rfl rfl ?_
      refine mx_ia C I 8 5 d_D_takeEntry_68 (by unfold md_a; omega) rfl rfl (by omega) (by omega) ?_
      refine qx_bipush C d_D_takeEntry_69 (v := iI (48)) (by decide) ?_
      refine nx_icmp_lt C 76 d_D_takeEntry_71 (by decide) (by omega) (by omega) (fun q1 => ?_) (fun q1 => ?_)
      · obtain ⟨rfl, rfl⟩ := hr.2.2 hS (fun z => by have := eF.mp z; omega)
        refine qx_aload_n C d_D_takeEntry_76 rfl rfl ?_
        refine qx_iload_n C d_D_takeEntry_77 rfl rfl ?_
        refine qx_aload_n C d_D_takeEntry_78 rfl rfl ?_
        refine mx_gi C d_D_takeEntry_79 fl_D_89 rfl ?_
        refine qx_iload_n C d_D_takeEntry_82 rfl rfl ?_
        refine mx_ia C I 29 20 d_D_takeEntry_83 (by unfold md_a; omega) rfl rfl (by omega) (by omega) ?_
        refine qx_aload_n C d_D_takeEntry_84 rfl rfl ?_
        refine mx_gi C d_D_takeEntry_85 fl_D_89 rfl ?_
        refine qx_iload_n C d_D_takeEntry_88 rfl rfl ?_
        refine qx_iconst C d_D_takeEntry_89 (v := iI (1)) rfl ?_
        refine nx_iadd C d_D_takeEntry_90 ?_
        refine mx_ia C I 29 20 d_D_takeEntry_91 (by unfold md_a; omega) rfl rfl (by omega) (by omega) ?_
        refine qx_aload_n C d_D_takeEntry_92 rfl rfl ?_
        refine mx_gi C d_D_takeEntry_93 fl_D_89 rfl ?_
        refine qx_iload_n C d_D_takeEntry_96 rfl rfl ?_
        refine qx_iconst C d_D_takeEntry_97 (v := iI (2)) rfl ?_
        refine nx_iadd C d_D_takeEntry_98 ?_
        refine mx_ia C I 29 20 d_D_takeEntry_99 (by unfold md_a; omega) rfl rfl (by omega) (by omega) ?_
        refine qx_aload_n C d_D_takeEntry_100 rfl rfl ?_
        refine mx_gi C d_D_takeEntry_101 fl_D_89 rfl ?_
        refine qx_iload_n C d_D_takeEntry_104 rfl rfl ?_
        refine qx_iconst C d_D_takeEntry_105 (v := iI (3)) rfl ?_
        refine nx_iadd C d_D_takeEntry_106 ?_
        refine mx_ia C I 29 20 d_D_takeEntry_107 (by unfold md_a; omega) rfl rfl (by omega) (by omega) ?_
        rw [e29, e29, e29, e29]
        refine nx_callv C (s_D_takeEntry_108 md_o) (m_push l G b I g (by omega) (by omega) d) w_D_push rfl rfl (Nat.le_of_ble_eq_true rfl) (by omega) (by decide) ?_
        refine qx_iconst C d_D_takeEntry_111 (v := iI (1)) rfl ?_
        subst hB
        refine qx_zret C d_D_takeEntry_112 (by decide) (Nat.zero_le _) (Nat.zero_le _) ⟨_, rfl, ?_, rfl⟩
        rfl
      · obtain ⟨rfl, rfl⟩ := hr.2.1 hS (eF.mpr (by omega))
        refine qx_iconst C d_D_takeEntry_74 (v := iI (0)) rfl ?_
        subst hB
        refine qx_zret C d_D_takeEntry_75 (by decide) (Nat.zero_le _) (Nat.zero_le _) ⟨_, rfl, ?_, rfl⟩
        rfl
    have Cut : ¬ md_tkS A s i p → X 38 [some (.ref o), some (.int (iI s)), some (.int (iI i)), some (.int (iI p))] [] (md_h G o ad iv g A) 0 0 := by
      intro hS
      refine qx_iload_n C d_D_takeEntry_38 rfl rfl ?_
      refine qx_aload_n C d_D_takeEntry_39 rfl rfl ?_
      refine qx_iload_n C d_D_takeEntry_40 rfl rfl ?_
      refine nx_call0 C (s_D_takeEntry_41 md_o) (m_last l G b I g hs d) w_D_last rfl rfl (Nat.le_of_ble_eq_true rfl) (by omega) (by decide) ?_
      refine nx_icmp_gt C 63 d_D_takeEntry_44 (by decide) (by omega) (by omega) (fun q1 => ?_) (fun q1 => ?_)
      · exact Fin hS _ (by unfold md_cutx; rw [if_neg (by omega)])
      · refine qx_aload_n C d_D_takeEntry_47 rfl rfl ?_
        refine mx_gi C d_D_takeEntry_48 fl_D_32 rfl ?_
        refine qx_iload_n C d_D_takeEntry_51 rfl rfl ?_
        refine qx_iload_n C d_D_takeEntry_52 rfl rfl ?_
        refine qx_aload_n C d_D_takeEntry_53 rfl rfl ?_
        refine mx_gi C d_D_takeEntry_54 fl_D_20 rfl ?_
        refine qx_iload_n C d_D_takeEntry_57 rfl rfl ?_
        refine mx_ia C I 4 5 d_D_takeEntry_58 (by unfold md_a; omega) rfl rfl (by omega) (by omega) ?_
        refine nx_isub C d_D_takeEntry_59 ?_
        refine qx_iconst C d_D_takeEntry_60 (v := iI (1)) rfl ?_
        refine nx_isub C d_D_takeEntry_61 ?_
        refine mx_is C I 8 5 d_D_takeEntry_62 (by unfold md_a; omega) rfl rfl (by omega) (by omega) ?_
        exact Fin hS _ (by unfold md_cutx; rw [if_pos (by omega)])
    refine qx_iload_n C d_D_takeEntry_12 rfl rfl ?_
    refine qx_aload_n C d_D_takeEntry_13 rfl rfl ?_
    refine qx_iload_n C d_D_takeEntry_14 rfl rfl ?_
    refine nx_call0 C (s_D_takeEntry_15 md_o) (m_last l G b I g hs d) w_D_last rfl rfl (Nat.le_of_ble_eq_true rfl) (by omega) (by decide) ?_
    refine nx_icmp_gt C 38 d_D_takeEntry_18 (by decide) (by omega) (by omega) (fun q1 => ?_) (fun q1 => ?_)
    · exact Cut (by unfold md_tkS; omega)
    · refine qx_aload_n C d_D_takeEntry_21 rfl rfl ?_
      refine qx_iload_n C d_D_takeEntry_22 rfl rfl ?_
      refine qx_iload_n C d_D_takeEntry_23 rfl rfl ?_
      refine nx_call0 C (s_D_takeEntry_24 md_o) (m_termAt l G b I g hs hi d) w_D_termAt rfl rfl (Nat.le_of_ble_eq_true rfl) (by omega) (by decide) ?_
      refine qx_aload_n C d_D_takeEntry_27 rfl rfl ?_
      refine mx_gi C d_D_takeEntry_28 fl_D_89 rfl ?_
      refine qx_iload_n C d_D_takeEntry_31 rfl rfl ?_
      refine mx_ia C I 29 20 d_D_takeEntry_32 (by unfold md_a; omega) rfl rfl (by omega) (by omega) ?_
      refine nx_icmp_ne C 38 d_D_takeEntry_33 (by decide) (by omega) (by omega) (fun q2 => ?_) (fun q2 => ?_)
      · exact Cut (by unfold md_tkS; omega)
      · obtain ⟨rfl, rfl⟩ := hr.1 (Or.inr ⟨by omega, q2⟩)
        refine qx_iconst C d_D_takeEntry_36 (v := iI (1)) rfl ?_
        refine qx_zret C d_D_takeEntry_37 (by decide) (Nat.zero_le _) (Nat.zero_le _) ⟨_, rfl, ?_, rfl⟩
        rfl
  · obtain ⟨rfl, rfl⟩ := hr.1 (Or.inl (by omega))
    refine qx_iconst C d_D_takeEntry_10 (v := iI (1)) rfl ?_
    refine qx_zret C d_D_takeEntry_11 (by decide) (Nat.zero_le _) (Nat.zero_le _) ⟨_, rfl, ?_, rfl⟩
    rfl
/-- what is asked of the state and of the server to which a message comes -/
abbrev md_Hk (A : md_A) : Prop := ∀ i : Int, 0 ≤ i → i < A 21 0 → 0 ≤ A 23 i ∧ A 23 i < 4
def md_quesG (A : md_A) (s t : Int) : Int := if A 15 s = 0 ∧ A 2 s < t ∧ md_lies A (A 29 4) (A 29 5) s = 0 then 1 else 0
def md_ques (A : md_A) (s fr t : Int) : md_A := md_reply A 1 s fr (md_quesG A s t) (if md_quesG A s t = 0 then A 2 s else t)
theorem md_lies_01 (A : md_A) (i t s : Int) : md_lies A i t s = 0 ∨ md_lies A i t s = 1 := by
  unfold md_lies
  split
  · exact Or.inr rfl
  · exact Or.inl rfl
set_option maxRecDepth 100000 in
theorem m_question (l : Launch) (G : qh_G) (b : Nat) {o : Nat} {ad : Nat → Nat} {iv : Nat → Option Nat} (I : md_I o ad iv) (g : qh_H) {A : md_A} {s fr t : Int} (hs : md_B A s) (hw : md_ww A) (ht : rng t) (d : Nat) : qv l y_D_question c_D_question 5 none (d + 5) 0 0 G b [.ref o, .int (iI s), .int (iI fr), .int (iI t)] (md_h G o ad iv g A) (md_h G o ad iv g (md_ques A s fr t)) := by
  have h15 := hw.1 15 s
  have h2 := hw.1 2 s
  have hli := md_lies_01 A (A 29 4) (A 29 5) s
  refine qx_of (lo := [some (.ref o), some (.int (iI s)), some (.int (iI fr)), some (.int (iI t)), none]) (by decide) (fun w hw => List.mem_cons_of_mem _ hw) rfl (Nat.le_of_ble_eq_true rfl) rfl ?_
  intro X C
  have F : ∀ q : Int, (q = 0 ∨ q = 1) → q = md_quesG A s t → X 44 [some (.ref o), some (.int (iI s)), some (.int (iI fr)), some (.int (iI t)), none] [.int (iI q)] (md_h G o ad iv g A) 0 0 := by
    intro q hq e
    refine nx_istore C d_D_question_44 (Nat.le_of_ble_eq_true rfl) (lo' := [_, _, _, _, some (.int _)]) rfl ?_
    refine qx_aload_n C d_D_question_46 rfl rfl ?_
    refine qx_iconst C d_D_question_47 (v := iI (1)) rfl ?_
    refine qx_iload_n C d_D_question_48 rfl rfl ?_
    refine qx_iload_n C d_D_question_49 rfl rfl ?_
    refine qx_iload C d_D_question_50 rfl ?_
    refine qx_iload C d_D_question_52 rfl ?_
    refine nx_if_eq C 61 d_D_question_54 (by decide) (by omega) (fun z => ?_) (fun z => ?_)
    · refine qx_aload_n C d_D_question_61 rfl rfl ?_
      refine mx_gi C d_D_question_62 fl_D_13 rfl ?_
      refine qx_iload_n C d_D_question_65 rfl rfl ?_
      refine mx_ia C I 2 5 d_D_question_66 (by unfold md_a; omega) rfl rfl (by omega) (by omega) ?_
      refine nx_callv C (s_D_question_67 md_o) (m_reply l G b I g (by omega) hw.2 d) w_D_reply rfl rfl (Nat.le_of_ble_eq_true rfl) (by omega) (by decide) ?_
      refine qx_vret C d_D_question_70 (Nat.zero_le _) (Nat.zero_le _) ⟨rfl, ?_⟩
      unfold md_ques
      rw [← e, if_pos z]
    · refine qx_iload_n C d_D_question_57 rfl rfl ?_
      refine qx_goto C d_D_question_58 (tgt := 67) (by decide) ?_
      refine nx_callv C (s_D_question_67 md_o) (m_reply l G b I g (by omega) hw.2 d) w_D_reply rfl rfl (Nat.le_of_ble_eq_true rfl) (by omega) (by decide) ?_
      refine qx_vret C d_D_question_70 (Nat.zero_le _) (Nat.zero_le _) ⟨rfl, ?_⟩
      unfold md_ques
      rw [← e, if_neg z]
  refine qx_aload_n C d_D_question_0 rfl rfl ?_
  refine mx_gi C d_D_question_1 fl_D_53 rfl ?_
  refine qx_iload_n C d_D_question_4 rfl rfl ?_
  refine mx_za C I 15 5 d_D_question_5 (by unfold md_a; omega) rfl rfl (by omega) (by omega) ?_
  refine nx_if_ne C 43 d_D_question_6 (by decide) (by omega) (fun z1 => ?_) (fun z1 => ?_)
  · refine qx_iconst C d_D_question_43 (v := iI (0)) rfl ?_
    exact F 0 (Or.inl rfl) (by unfold md_quesG; rw [if_neg (fun z => z1 z.1)])
  · refine qx_iload_n C d_D_question_9 rfl rfl ?_
    refine qx_aload_n C d_D_question_10 rfl rfl ?_
    refine mx_gi C d_D_question_11 fl_D_13 rfl ?_
    refine qx_iload_n C d_D_question_14 rfl rfl ?_
    refine mx_ia C I 2 5 d_D_question_15 (by unfold md_a; omega) rfl rfl (by omega) (by omega) ?_
    refine nx_icmp_le C 43 d_D_question_16 (by decide) (by omega) (by omega) (fun z2 => ?_) (fun z2 => ?_)
    · refine qx_iconst C d_D_question_43 (v := iI (0)) rfl ?_
      exact F 0 (Or.inl rfl) (by unfold md_quesG; rw [if_neg (by omega)])
    · refine qx_aload_n C d_D_question_19 rfl rfl ?_
      refine qx_aload_n C d_D_question_20 rfl rfl ?_
      refine mx_gi C d_D_question_21 fl_D_89 rfl ?_
      refine qx_iconst C d_D_question_24 (v := iI (4)) rfl ?_
      refine mx_ia C I 29 20 d_D_question_25 (by unfold md_a; omega) rfl rfl (by omega) (by omega) ?_
      refine qx_aload_n C d_D_question_26 rfl rfl ?_
      refine mx_gi C d_D_question_27 fl_D_89 rfl ?_
      refine qx_iconst C d_D_question_30 (v := iI (5)) rfl ?_
      refine mx_ia C I 29 20 d_D_question_31 (by unfold md_a; omega) rfl rfl (by omega) (by omega) ?_
      refine qx_iload_n C d_D_question_32 rfl rfl ?_
      refine nx_call0 C (s_D_question_33 md_o) (m_liesBefore l G b I g hw.1 hs (hw.1 29 4) (hw.1 29 5) d) w_D_liesBefore rfl rfl (Nat.le_of_ble_eq_true rfl) (by omega) (by decide) ?_
      refine nx_if_ne C 43 d_D_question_36 (by decide) (by omega) (fun z3 => ?_) (fun z3 => ?_)
      · refine qx_iconst C d_D_question_43 (v := iI (0)) rfl ?_
        exact F 0 (Or.inl rfl) (by unfold md_quesG; rw [if_neg (by omega)])
      · refine qx_iconst C d_D_question_39 (v := iI (1)) rfl ?_
        refine qx_goto C d_D_question_40 (tgt := 44) (by decide) ?_
        exact F 1 (Or.inr rfl) (by unfold md_quesG; rw [if_pos (by omega)])
def md_callG (A : md_A) (s fr t : Int) : Int := if t = A 2 s ∧ (A 3 s = -1 ∨ A 3 s = fr) ∧ md_lies A (A 29 4) (A 29 5) s = 0 then 1 else 0
def md_callA (A : md_A) (s fr t : Int) : md_A := if md_callG A s fr t = 0 then A else md_u A 3 s fr
def md_called (A : md_A) (s fr t : Int) : md_A := md_reply (md_callA A s fr t) 3 s fr (md_callG A s fr t) (A 2 s)
set_option maxRecDepth 100000 in
theorem m_called (l : Launch) (G : qh_G) (b : Nat) {o : Nat} {ad : Nat → Nat} {iv : Nat → Option Nat} (I : md_I o ad iv) (g : qh_H) {A : md_A} {s fr t : Int} (hs : md_B A s) (hw : md_ww A) (ht : rng t) (hf : rng fr) (d : Nat) : qv l y_D_called c_D_called 5 none (d + 5) 0 0 G b [.ref o, .int (iI s), .int (iI fr), .int (iI t)] (md_h G o ad iv g A) (md_h G o ad iv g (md_called A s fr t)) := by
  have h3 := hw.1 3 s
  have h2 := hw.1 2 s
  have hli := md_lies_01 A (A 29 4) (A 29 5) s
  refine qx_of (lo := [some (.ref o), some (.int (iI s)), some (.int (iI fr)), some (.int (iI t)), none]) (by decide) (fun w hw => List.mem_cons_of_mem _ hw) rfl (Nat.le_of_ble_eq_true rfl) rfl ?_
  intro X C
  have F : ∀ q : Int, (q = 0 ∨ q = 1) → q = md_callG A s fr t → X 55 [some (.ref o), some (.int (iI s)), some (.int (iI fr)), some (.int (iI t)), none] [.int (iI q)] (md_h G o ad iv g A) 0 0 := by
    intro q hq e
    refine nx_istore C d_D_called_55 (Nat.le_of_ble_eq_true rfl) (lo' := [_, _, _, _, some (.int _)]) rfl ?_
    refine qx_iload C d_D_called_57 rfl ?_
    refine nx_if_eq C 69 d_D_called_59 (by decide) (by omega) (fun z => ?_) (fun z => ?_)
    · refine qx_aload_n C d_D_called_69 rfl rfl ?_
      refine qx_iconst C d_D_called_70 (v := iI (3)) rfl ?_
      refine qx_iload_n C d_D_called_71 rfl rfl ?_
      refine qx_iload_n C d_D_called_72 rfl rfl ?_
      refine qx_iload C d_D_called_73 rfl ?_
      refine qx_aload_n C d_D_called_75 rfl rfl ?_
      refine mx_gi C d_D_called_76 fl_D_13 rfl ?_
      refine qx_iload_n C d_D_called_79 rfl rfl ?_
      refine mx_ia C I 2 5 d_D_called_80 (by unfold md_a; omega) rfl rfl (by omega) (by omega) ?_
      refine nx_callv C (s_D_called_81 md_o) (m_reply l G b I g (by omega) hw.2 d) w_D_reply rfl rfl (Nat.le_of_ble_eq_true rfl) (by omega) (by decide) ?_
      refine qx_vret C d_D_called_84 (Nat.zero_le _) (Nat.zero_le _) ⟨rfl, ?_⟩
      unfold md_called md_callA
      rw [← e, if_pos z]
    · refine qx_aload_n C d_D_called_62 rfl rfl ?_
      refine mx_gi C d_D_called_63 fl_D_17 rfl ?_
      refine qx_iload_n C d_D_called_66 rfl rfl ?_
      refine qx_iload_n C d_D_called_67 rfl rfl ?_
      refine mx_is C I 3 5 d_D_called_68 (by unfold md_a; omega) rfl rfl (by omega) (by omega) ?_
      refine qx_aload_n C d_D_called_69 rfl rfl ?_
      refine qx_iconst C d_D_called_70 (v := iI (3)) rfl ?_
      refine qx_iload_n C d_D_called_71 rfl rfl ?_
      refine qx_iload_n C d_D_called_72 rfl rfl ?_
      refine qx_iload C d_D_called_73 rfl ?_
      refine qx_aload_n C d_D_called_75 rfl rfl ?_
      refine mx_gi C d_D_called_76 fl_D_13 rfl ?_
      refine qx_iload_n C d_D_called_79 rfl rfl ?_
      refine mx_ia C I 2 5 d_D_called_80 (by unfold md_a; omega) rfl rfl (by omega) (by omega) ?_
      rw [md_uk (k := 3) (j := 2) (by decide)]
      refine nx_callv C (s_D_called_81 md_o) (m_reply l G b I g (by omega) (by rw [md_uk (by decide)]; exact hw.2) d) w_D_reply rfl rfl (Nat.le_of_ble_eq_true rfl) (by omega) (by decide) ?_
      refine qx_vret C d_D_called_84 (Nat.zero_le _) (Nat.zero_le _) ⟨rfl, ?_⟩
      unfold md_called md_callA
      rw [← e, if_neg z]
  have F0 : md_callG A s fr t = 0 → X 54 [some (.ref o), some (.int (iI s)), some (.int (iI fr)), some (.int (iI t)), none] [] (md_h G o ad iv g A) 0 0 := by
    intro e
    refine qx_iconst C d_D_called_54 (v := iI (0)) rfl ?_
    exact F 0 (Or.inl rfl) e.symm
  have F1 : t = A 2 s → (A 3 s = -1 ∨ A 3 s = fr) → X 30 [some (.ref o), some (.int (iI s)), some (.int (iI fr)), some (.int (iI t)), none] [] (md_h G o ad iv g A) 0 0 := by
    intro e1 e2
    refine qx_aload_n C d_D_called_30 rfl rfl ?_
    refine qx_aload_n C d_D_called_31 rfl rfl ?_
    refine mx_gi C d_D_called_32 fl_D_89 rfl ?_
    refine qx_iconst C d_D_called_35 (v := iI (4)) rfl ?_
    refine mx_ia C I 29 20 d_D_called_36 (by unfold md_a; omega) rfl rfl (by omega) (by omega) ?_
    refine qx_aload_n C d_D_called_37 rfl rfl ?_
    refine mx_gi C d_D_called_38 fl_D_89 rfl ?_
    refine qx_iconst C d_D_called_41 (v := iI (5)) rfl ?_
    refine mx_ia C I 29 20 d_D_called_42 (by unfold md_a; omega) rfl rfl (by omega) (by omega) ?_
    refine qx_iload_n C d_D_called_43 rfl rfl ?_
    refine nx_call0 C (s_D_called_44 md_o) (m_liesBefore l G b I g hw.1 hs (hw.1 29 4) (hw.1 29 5) d) w_D_liesBefore rfl rfl (Nat.le_of_ble_eq_true rfl) (by omega) (by decide) ?_
    refine nx_if_ne C 54 d_D_called_47 (by decide) (by omega) (fun z3 => ?_) (fun z3 => ?_)
    · exact F0 (by unfold md_callG; rw [if_neg (by omega)])
    · refine qx_iconst C d_D_called_50 (v := iI (1)) rfl ?_
      refine qx_goto C d_D_called_51 (tgt := 55) (by decide) ?_
      exact F 1 (Or.inr rfl) (by unfold md_callG; rw [if_pos ⟨e1, e2, z3⟩])
  refine qx_iload_n C d_D_called_0 rfl rfl ?_
  refine qx_aload_n C d_D_called_1 rfl rfl ?_
  refine mx_gi C d_D_called_2 fl_D_13 rfl ?_
  refine qx_iload_n C d_D_called_5 rfl rfl ?_
  refine mx_ia C I 2 5 d_D_called_6 (by unfold md_a; omega) rfl rfl (by omega) (by omega) ?_
  refine nx_icmp_ne C 54 d_D_called_7 (by decide) (by omega) (by omega) (fun z1 => ?_) (fun z1 => ?_)
  · exact F0 (by unfold md_callG; rw [if_neg (fun z => z1 z.1)])
  · refine qx_aload_n C d_D_called_10 rfl rfl ?_
    refine mx_gi C d_D_called_11 fl_D_17 rfl ?_
    refine qx_iload_n C d_D_called_14 rfl rfl ?_
    refine mx_ia C I 3 5 d_D_called_15 (by unfold md_a; omega) rfl rfl (by omega) (by omega) ?_
    refine qx_iconst C d_D_called_16 (v := iI (-1)) rfl ?_
    refine nx_icmp_eq C 30 d_D_called_17 (by decide) (by omega) (by omega) (fun z2 => ?_) (fun z2 => ?_)
    · exact F1 z1 (Or.inl z2)
    · refine qx_aload_n C d_D_called_20 rfl rfl ?_
      refine mx_gi C d_D_called_21 fl_D_17 rfl ?_
      refine qx_iload_n C d_D_called_24 rfl rfl ?_
      refine mx_ia C I 3 5 d_D_called_25 (by unfold md_a; omega) rfl rfl (by omega) (by omega) ?_
      refine qx_iload_n C d_D_called_26 rfl rfl ?_
      refine nx_icmp_ne C 54 d_D_called_27 (by decide) (by omega) (by omega) (fun z3 => ?_) (fun z3 => ?_)
      · exact F0 (by unfold md_callG; rw [if_neg (by omega)])
      · exact F1 z1 (Or.inr z3)
def md_yes (A : md_A) (s fr : Int) : md_A := md_weigh (md_u A 16 s (io (A 16 s) (one fr))) s
def md_ans (A : md_A) (s fr t : Int) : md_A := if A 29 6 = 1 then (if A 13 s = 1 ∧ t = A 2 s + 1 then md_yes A s fr else A) else if A 2 s < t then md_newTerm A s t else A
def md_voted (A : md_A) (s fr t : Int) : md_A := if ¬ A 29 6 = 0 ∧ A 13 s = 2 ∧ t = A 2 s then md_yes A s fr else A
theorem md_yes_T {A : md_A} {s v : Int} (hT : md_T A s) (h5 : set5 v) : md_T (md_u A 16 s v) s := by
  have lg : md_lg A (md_u A 16 s v) := (md_lg.rf A).u (by omega)
  refine ⟨lg.B hT.1, by rw [lg.config]; exact hT.2.1, ?_, ?_, by rw [md_us]; exact h5⟩
  · rw [lg.last, lg 4 (by decide) (by decide), md_uk (by decide)]; exact hT.2.2.1
  · rw [md_uk (by decide)]; exact hT.2.2.2.1
set_option maxRecDepth 100000 in
theorem m_weighT (l : Launch) (G : qh_G) (b : Nat) {o : Nat} {ad : Nat → Nat} {iv : Nat → Option Nat} (I : md_I o ad iv) (g : qh_H) {A : md_A} {s : Int} (hT : md_T A s) (hz : A 8 s < 48) (hv : md_V A) (hn : md_nx A s) (d : Nat) : qv l y_D_weigh c_D_weigh 2 none (d + 9) 0 0 G b [.ref o, .int (iI s)] (md_h G o ad iv g A) (md_h G o ad iv g (md_weigh A s)) :=
  m_weigh l G b I g hT.1 hz hv.1 hT.2.1 (md_weigh_cf hT.1 hT.2.1) hT.2.2.2.2 (by have := hT.2.2.2.1; omega) hT.cm hv.2 hn d
set_option maxRecDepth 100000 in
theorem m_answered (l : Launch) (G : qh_G) (b : Nat) {o : Nat} {ad : Nat → Nat} {iv : Nat → Option Nat} (I : md_I o ad iv) (g : qh_H) {A : md_A} {s fr t : Int} (hT : md_T A s) (hz : A 13 s = 1 → A 8 s < 48) (hv : md_V A) (hn : md_nx A s) (ht : rng t) (hf : 0 ≤ fr ∧ fr < 5) (d : Nat) : qv l y_D_answered c_D_answered 4 none (d + 10) 0 0 G b [.ref o, .int (iI s), .int (iI fr), .int (iI t)] (md_h G o ad iv g A) (md_h G o ad iv g (md_ans A s fr t)) := by
  have h6 := hv.1.1 29 6
  have h13 := hv.1.1 13 s
  have h16 := hT.2.2.2.2
  have hsB := hT.1
  have h1 := set5_one hf.1 hf.2
  have hto := hT.2.2.2.1
  refine qx_of (lo := [some (.ref o), some (.int (iI s)), some (.int (iI fr)), some (.int (iI t))]) (by decide) (fun w hw => List.mem_cons_of_mem _ hw) rfl (Nat.le_of_ble_eq_true rfl) rfl ?_
  intro X C
  refine qx_aload_n C d_D_answered_0 rfl rfl ?_
  refine mx_gi C d_D_answered_1 fl_D_89 rfl ?_
  refine qx_bipush C d_D_answered_4 (v := iI (6)) (by decide) ?_
  refine mx_ia C I 29 20 d_D_answered_6 (by unfold md_a; omega) rfl rfl (by omega) (by omega) ?_
  refine qx_iconst C d_D_answered_7 (v := iI (1)) rfl ?_
  refine nx_icmp_ne C 54 d_D_answered_8 (by decide) (by omega) (by omega) (fun z1 => ?_) (fun z1 => ?_)
  · refine qx_iload_n C d_D_answered_54 rfl rfl ?_
    refine qx_aload_n C d_D_answered_55 rfl rfl ?_
    refine mx_gi C d_D_answered_56 fl_D_13 rfl ?_
    refine qx_iload_n C d_D_answered_59 rfl rfl ?_
    refine mx_ia C I 2 5 d_D_answered_60 (by unfold md_a; omega) rfl rfl (by omega) (by omega) ?_
    refine nx_icmp_le C 70 d_D_answered_61 (by decide) (by omega) (by omega) (fun z2 => ?_) (fun z2 => ?_)
    · refine qx_vret C d_D_answered_70 (Nat.zero_le _) (Nat.zero_le _) ⟨rfl, ?_⟩
      unfold md_ans
      rw [if_neg z1, if_neg (by omega)]
    · refine qx_aload_n C d_D_answered_64 rfl rfl ?_
      refine qx_iload_n C d_D_answered_65 rfl rfl ?_
      refine qx_iload_n C d_D_answered_66 rfl rfl ?_
      refine nx_callv C (s_D_answered_67 md_o) (m_newTerm l G b I g hv.1.1 (by omega) ht hv.2 d) w_D_newTerm rfl rfl (Nat.le_of_ble_eq_true rfl) (by omega) (by decide) ?_
      refine qx_vret C d_D_answered_70 (Nat.zero_le _) (Nat.zero_le _) ⟨rfl, ?_⟩
      unfold md_ans
      rw [if_neg z1, if_pos (by omega)]
  · refine qx_aload_n C d_D_answered_11 rfl rfl ?_
    refine mx_gi C d_D_answered_12 fl_D_47 rfl ?_
    refine qx_iload_n C d_D_answered_15 rfl rfl ?_
    refine mx_ia C I 13 5 d_D_answered_16 (by unfold md_a; omega) rfl rfl (by omega) (by omega) ?_
    refine qx_iconst C d_D_answered_17 (v := iI (1)) rfl ?_
    refine nx_icmp_ne C 33 d_D_answered_18 (by decide) (by omega) (by omega) (fun z2 => ?_) (fun z2 => ?_)
    · refine qx_vret C d_D_answered_33 (Nat.zero_le _) (Nat.zero_le _) ⟨rfl, ?_⟩
      unfold md_ans
      rw [if_pos z1, if_neg (fun z => z2 z.1)]
    · refine qx_iload_n C d_D_answered_21 rfl rfl ?_
      refine qx_aload_n C d_D_answered_22 rfl rfl ?_
      refine mx_gi C d_D_answered_23 fl_D_13 rfl ?_
      refine qx_iload_n C d_D_answered_26 rfl rfl ?_
      refine mx_ia C I 2 5 d_D_answered_27 (by unfold md_a; omega) rfl rfl (by omega) (by omega) ?_
      refine qx_iconst C d_D_answered_28 (v := iI (1)) rfl ?_
      refine nx_iadd C d_D_answered_29 ?_
      refine nx_icmp_eq C 34 d_D_answered_30 (by decide) (by omega) (by omega) (fun z3 => ?_) (fun z3 => ?_)
      · have h5 := set5_or h16 h1
        refine qx_aload_n C d_D_answered_34 rfl rfl ?_
        refine mx_gi C d_D_answered_35 fl_D_56 rfl ?_
        refine qx_iload_n C d_D_answered_38 rfl rfl ?_
        refine qx_dup2 C d_D_answered_39 rfl rfl ?_
        refine mx_ia C I 16 5 d_D_answered_40 (by unfold md_a; omega) rfl rfl (by omega) (by omega) ?_
        refine qx_iconst C d_D_answered_41 (v := iI (1)) rfl ?_
        refine qx_iload_n C d_D_answered_42 rfl rfl ?_
        refine nx_ishl1 C d_D_answered_43 (by omega) ?_
        refine nx_ior C d_D_answered_44 (by omega) (by omega) ?_
        refine mx_is C I 16 5 d_D_answered_45 (by unfold md_a; omega) rfl rfl (by omega) (by omega) ?_
        refine qx_aload_n C d_D_answered_46 rfl rfl ?_
        refine qx_iload_n C d_D_answered_47 rfl rfl ?_
        refine nx_callv C (s_D_answered_48 md_o) (m_weighT l G b I g (md_yes_T hT h5) (by rw [md_uk (by decide)]; exact hz z2) ⟨hv.1.u (by decide) (by omega), by rw [md_uk (by decide)]; exact hv.2⟩ (fun i => by rw [md_uk (by decide)]; exact hn i) d) w_D_weigh rfl rfl (Nat.le_of_ble_eq_true rfl) (by omega) (by decide) ?_
        refine qx_goto C d_D_answered_51 (tgt := 70) (by decide) ?_
        refine qx_vret C d_D_answered_70 (Nat.zero_le _) (Nat.zero_le _) ⟨rfl, ?_⟩
        unfold md_ans md_yes
        rw [if_pos z1, if_pos ⟨z2, z3⟩]
      · refine qx_vret C d_D_answered_33 (Nat.zero_le _) (Nat.zero_le _) ⟨rfl, ?_⟩
        unfold md_ans
        rw [if_pos z1, if_neg (fun z => z3 z.2)]
set_option maxRecDepth 100000 in
theorem m_voted (l : Launch) (G : qh_G) (b : Nat) {o : Nat} {ad : Nat → Nat} {iv : Nat → Option Nat} (I : md_I o ad iv) (g : qh_H) {A : md_A} {s fr t : Int} (hT : md_T A s) (hz : A 13 s = 2 → A 8 s < 48) (hv : md_V A) (hn : md_nx A s) (ht : rng t) (hf : 0 ≤ fr ∧ fr < 5) (d : Nat) : qv l y_D_voted c_D_voted 4 none (d + 10) 0 0 G b [.ref o, .int (iI s), .int (iI fr), .int (iI t)] (md_h G o ad iv g A) (md_h G o ad iv g (md_voted A s fr t)) := by
  have h6 := hv.1.1 29 6
  have h13 := hv.1.1 13 s
  have h16 := hT.2.2.2.2
  have hsB := hT.1
  have h1 := set5_one hf.1 hf.2
  have hto := hT.2.2.2.1
  refine qx_of (lo := [some (.ref o), some (.int (iI s)), some (.int (iI fr)), some (.int (iI t))]) (by decide) (fun w hw => List.mem_cons_of_mem _ hw) rfl (Nat.le_of_ble_eq_true rfl) rfl ?_
  intro X C
  have F : ¬ (¬ A 29 6 = 0 ∧ A 13 s = 2 ∧ t = A 2 s) → X 30 [some (.ref o), some (.int (iI s)), some (.int (iI fr)), some (.int (iI t))] [] (md_h G o ad iv g A) 0 0 := by
    intro h
    refine qx_vret C d_D_voted_30 (Nat.zero_le _) (Nat.zero_le _) ⟨rfl, ?_⟩
    unfold md_voted
    rw [if_neg h]
  refine qx_aload_n C d_D_voted_0 rfl rfl ?_
  refine mx_gi C d_D_voted_1 fl_D_89 rfl ?_
  refine qx_bipush C d_D_voted_4 (v := iI (6)) (by decide) ?_
  refine mx_ia C I 29 20 d_D_voted_6 (by unfold md_a; omega) rfl rfl (by omega) (by omega) ?_
  refine nx_if_eq C 30 d_D_voted_7 (by decide) (by omega) (fun z1 => ?_) (fun z1 => ?_)
  · exact F (fun z => z.1 z1)
  · refine qx_aload_n C d_D_voted_10 rfl rfl ?_
    refine mx_gi C d_D_voted_11 fl_D_47 rfl ?_
    refine qx_iload_n C d_D_voted_14 rfl rfl ?_
    refine mx_ia C I 13 5 d_D_voted_15 (by unfold md_a; omega) rfl rfl (by omega) (by omega) ?_
    refine qx_iconst C d_D_voted_16 (v := iI (2)) rfl ?_
    refine nx_icmp_ne C 30 d_D_voted_17 (by decide) (by omega) (by omega) (fun z2 => ?_) (fun z2 => ?_)
    · exact F (fun z => z2 z.2.1)
    · refine qx_iload_n C d_D_voted_20 rfl rfl ?_
      refine qx_aload_n C d_D_voted_21 rfl rfl ?_
      refine mx_gi C d_D_voted_22 fl_D_13 rfl ?_
      refine qx_iload_n C d_D_voted_25 rfl rfl ?_
      refine mx_ia C I 2 5 d_D_voted_26 (by unfold md_a; omega) rfl rfl (by omega) (by omega) ?_
      refine nx_icmp_eq C 31 d_D_voted_27 (by decide) (by omega) (by omega) (fun z3 => ?_) (fun z3 => ?_)
      · have h5 := set5_or h16 h1
        refine qx_aload_n C d_D_voted_31 rfl rfl ?_
        refine mx_gi C d_D_voted_32 fl_D_56 rfl ?_
        refine qx_iload_n C d_D_voted_35 rfl rfl ?_
        refine qx_dup2 C d_D_voted_36 rfl rfl ?_
        refine mx_ia C I 16 5 d_D_voted_37 (by unfold md_a; omega) rfl rfl (by omega) (by omega) ?_
        refine qx_iconst C d_D_voted_38 (v := iI (1)) rfl ?_
        refine qx_iload_n C d_D_voted_39 rfl rfl ?_
        refine nx_ishl1 C d_D_voted_40 (by omega) ?_
        refine nx_ior C d_D_voted_41 (by omega) (by omega) ?_
        refine mx_is C I 16 5 d_D_voted_42 (by unfold md_a; omega) rfl rfl (by omega) (by omega) ?_
        refine qx_aload_n C d_D_voted_43 rfl rfl ?_
        refine qx_iload_n C d_D_voted_44 rfl rfl ?_
        refine nx_callv C (s_D_voted_45 md_o) (m_weighT l G b I g (md_yes_T hT h5) (by rw [md_uk (by decide)]; exact hz z2) ⟨hv.1.u (by decide) (by omega), by rw [md_uk (by decide)]; exact hv.2⟩ (fun i => by rw [md_uk (by decide)]; exact hn i) d) w_D_weigh rfl rfl (Nat.le_of_ble_eq_true rfl) (by omega) (by decide) ?_
        refine qx_vret C d_D_voted_48 (Nat.zero_le _) (Nat.zero_le _) ⟨rfl, ?_⟩
        unfold md_voted md_yes
        rw [if_pos ⟨z1, z2, z3⟩]
      · exact F (fun z => z3 z.2.2)
