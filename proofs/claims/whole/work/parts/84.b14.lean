theorem bX11_person_0 {X : pX} {Q : Option Value → pMem → Prop} {m : pMem} {x1 : Int32} {x2 : Int32} (hW : Wf m)
    (h1 : ¬ x1 < 0 ∧ ¬ mI m 31 3 ≤ x1 ∧ ¬ (4 : Int32) ≤ x1 → x2 = 0 → vp_in x1 4)
    (h2 : ¬ x1 < 0 ∧ ¬ mI m 31 3 ≤ x1 ∧ ¬ (4 : Int32) ≤ x1 → x2 = 0 → Q (some (.int (mI m 33 x1.toNatClampNeg))) m)
    (h3 : ¬ x1 < 0 ∧ ¬ mI m 31 3 ≤ x1 ∧ ¬ (4 : Int32) ≤ x1 → ¬ x2 = 0 → x2 = 1 → vp_in x1 4)
    (h4 : ¬ x1 < 0 ∧ ¬ mI m 31 3 ≤ x1 ∧ ¬ (4 : Int32) ≤ x1 → ¬ x2 = 0 → x2 = 1 → Q (some (.int (mI m 38 x1.toNatClampNeg))) m)
    (h5 : ¬ x1 < 0 ∧ ¬ mI m 31 3 ≤ x1 ∧ ¬ (4 : Int32) ≤ x1 → ¬ x2 = 0 → ¬ x2 = 1 → x2 = 2 → vp_in x1 4)
    (h6 : ¬ x1 < 0 ∧ ¬ mI m 31 3 ≤ x1 ∧ ¬ (4 : Int32) ≤ x1 → ¬ x2 = 0 → ¬ x2 = 1 → x2 = 2 → Q (some (.int (mI m 39 x1.toNatClampNeg))) m)
    (h7 : ¬ x1 < 0 ∧ ¬ mI m 31 3 ≤ x1 ∧ ¬ (4 : Int32) ≤ x1 → ¬ x2 = 0 → ¬ x2 = 1 → ¬ x2 = 2 → x2 = 3 → Q (some (.int (tAt (mI m 40) x1 6))) m)
    (h8 : ¬ x1 < 0 ∧ ¬ mI m 31 3 ≤ x1 ∧ ¬ (4 : Int32) ≤ x1 → ¬ x2 = 0 → ¬ x2 = 1 → ¬ x2 = 2 → ¬ x2 = 3 → x2 = 4 → Q (some (.int (wSum (mI m 34) (tAt (mI m 40) x1 6) 6))) m)
    (h9 : ¬ x1 < 0 ∧ ¬ mI m 31 3 ≤ x1 ∧ ¬ (4 : Int32) ≤ x1 → ¬ x2 = 0 → ¬ x2 = 1 → ¬ x2 = 2 → ¬ x2 = 3 → ¬ x2 = 4 → x2 = 5 → Q (some (.int (wSum (mI m 35) (tAt (mI m 40) x1 6) 6))) m)
    (h10 : ¬ x1 < 0 ∧ ¬ mI m 31 3 ≤ x1 ∧ ¬ (4 : Int32) ≤ x1 → ¬ x2 = 0 → ¬ x2 = 1 → ¬ x2 = 2 → ¬ x2 = 3 → ¬ x2 = 4 → ¬ x2 = 5 → Q (some (.int (-1 : Int32))) m)
    (h11 : ¬ (¬ x1 < 0 ∧ ¬ mI m 31 3 ≤ x1 ∧ ¬ (4 : Int32) ≤ x1) → Q (some (.int (-1 : Int32))) m) :
    Go X 2 mX11_person Q 0 [(0, .ref 0), (1, .int x1), (2, .int x2)] [] m := by
  refine g_aload_n 0 dX11_person_0 rfl rfl ?_
  refine g_getR dX11_person_1 fl11_42 rfl sh0 (w11_5 hW sh0) ?_
  refine g_getR dX11_person_4 fl11_56 rfl sh30 (w10_0 hW sh30) ?_
  refine g_iload_n 1 dX11_person_7 rfl rfl ?_
  refine g_callV (As := [.int x1]) (st := []) dX11_person_8 clX11_135 (s10_0 sh30) rfl rfl (Nat.le_of_ble_eq_true rfl) (rmSH (by decide) (by decide)) (s_isPerson hW (s10_0 sh30) (fun q1 => ?_) (fun q1 => ?_))
  · refine g_if_ne 16 dX11_person_11 (by decide) (fun q2 => ?_) (fun q2 => absurd q2 (by decide))
    refine g_aload_n 0 dX11_person_16 rfl rfl ?_
    refine g_getR dX11_person_17 fl11_42 rfl sh0 (w11_5 hW sh0) ?_
    refine g_getR dX11_person_20 fl11_69 rfl sh30 (w10_1 hW sh30) ?_
    refine g_iload_n 1 dX11_person_23 rfl rfl ?_
    refine g_callV (As := [.int x1]) (st := []) dX11_person_24 clX11_138 (s10_1 sh30) rfl rfl (Nat.le_of_ble_eq_true rfl) (rmSH (by decide) (by decide)) (s_hadBy hW (s10_1 sh30) ?_)
    show Go X 2 mX11_person Q 27 [(0, .ref 0), (1, .int x1), (2, .int x2)] [.int (tAt (mI m 40) x1 6)] m
    refine g_istore_n (ls2 := [(3, .int (tAt (mI m 40) x1 6)), (0, .ref 0), (1, .int x1), (2, .int x2)]) dX11_person_27 rfl (by decide) rfl ?_
    refine g_iload_n 3 dX11_person_28 rfl rfl ?_
    by_cases q3 : x2 = 0
    · refine g_tabIn 68 dX11_person_29 (by rw [q3]; decide) (by rw [q3]; decide) (by rw [q3]; rfl) (by decide) ?_
      refine g_aload_n 1 dX11_person_68 rfl rfl ?_
      refine g_getR dX11_person_69 fl11_42 rfl sh0 (w11_5 hW sh0) ?_
      refine g_getR dX11_person_72 fl11_56 rfl sh30 (w10_0 hW sh30) ?_
      refine g_getR dX11_person_75 fl11_142 rfl (s10_0 sh30) (w4_6 hW (s10_0 sh30)) ?_
      refine g_iload_n 2 dX11_person_78 rfl rfl ?_
      refine g_iald (j := x1.toNatClampNeg) dX11_person_79 (s4_6 (s10_0 sh30)) (h1 q1 q3) rfl ?_
      exact g_iret dX11_person_80 rfl enSH (h2 q1 q3)
    by_cases q4 : x2 = 1
    · refine g_tabIn 81 dX11_person_29 (by rw [q4]; decide) (by rw [q4]; decide) (by rw [q4]; rfl) (by decide) ?_
      refine g_aload_n 1 dX11_person_81 rfl rfl ?_
      refine g_getR dX11_person_82 fl11_42 rfl sh0 (w11_5 hW sh0) ?_
      refine g_getR dX11_person_85 fl11_69 rfl sh30 (w10_1 hW sh30) ?_
      refine g_getR dX11_person_88 fl11_146 rfl (s10_1 sh30) (w8_1 hW (s10_1 sh30)) ?_
      refine g_iload_n 2 dX11_person_91 rfl rfl ?_
      refine g_iald (j := x1.toNatClampNeg) dX11_person_92 (s8_1 (s10_1 sh30)) (h3 q1 q3 q4) rfl ?_
      exact g_iret dX11_person_93 rfl enSH (h4 q1 q3 q4)
    by_cases q5 : x2 = 2
    · refine g_tabIn 94 dX11_person_29 (by rw [q5]; decide) (by rw [q5]; decide) (by rw [q5]; rfl) (by decide) ?_
      refine g_aload_n 1 dX11_person_94 rfl rfl ?_
      refine g_getR dX11_person_95 fl11_42 rfl sh0 (w11_5 hW sh0) ?_
      refine g_getR dX11_person_98 fl11_69 rfl sh30 (w10_1 hW sh30) ?_
      refine g_getR dX11_person_101 fl11_149 rfl (s10_1 sh30) (w8_2 hW (s10_1 sh30)) ?_
      refine g_iload_n 2 dX11_person_104 rfl rfl ?_
      refine g_iald (j := x1.toNatClampNeg) dX11_person_105 (s8_2 (s10_1 sh30)) (h5 q1 q3 q4 q5) rfl ?_
      exact g_iret dX11_person_106 rfl enSH (h6 q1 q3 q4 q5)
    by_cases q6 : x2 = 3
    · refine g_tabIn 107 dX11_person_29 (by rw [q6]; decide) (by rw [q6]; decide) (by rw [q6]; rfl) (by decide) ?_
      refine g_iload_n 0 dX11_person_107 rfl rfl ?_
      exact g_iret dX11_person_108 rfl enSH (h7 q1 q3 q4 q5 q6)
    by_cases q7 : x2 = 4
    · refine g_tabIn 109 dX11_person_29 (by rw [q7]; decide) (by rw [q7]; decide) (by rw [q7]; rfl) (by decide) ?_
      refine g_aload_n 1 dX11_person_109 rfl rfl ?_
      refine g_getR dX11_person_110 fl11_42 rfl sh0 (w11_5 hW sh0) ?_
      refine g_getR dX11_person_113 fl11_56 rfl sh30 (w10_0 hW sh30) ?_
      refine g_iload_n 0 dX11_person_116 rfl rfl ?_
      refine g_callV (As := [.int (tAt (mI m 40) x1 6)]) (st := []) dX11_person_117 clX11_152 (s10_0 sh30) rfl rfl (Nat.le_of_ble_eq_true rfl) (rmSH (by decide) (by decide)) (s_weightOf hW (s10_0 sh30) ?_)
      show Go X 2 mX11_person Q 120 [(3, .int (tAt (mI m 40) x1 6)), (0, .ref 0), (1, .int x1), (2, .int x2)] [.int (wSum (mI m 34) (tAt (mI m 40) x1 6) 6)] m
      exact g_iret dX11_person_120 rfl enSH (h8 q1 q3 q4 q5 q6 q7)
    by_cases q8 : x2 = 5
    · refine g_tabIn 121 dX11_person_29 (by rw [q8]; decide) (by rw [q8]; decide) (by rw [q8]; rfl) (by decide) ?_
      refine g_aload_n 1 dX11_person_121 rfl rfl ?_
      refine g_getR dX11_person_122 fl11_42 rfl sh0 (w11_5 hW sh0) ?_
      refine g_getR dX11_person_125 fl11_56 rfl sh30 (w10_0 hW sh30) ?_
      refine g_iload_n 0 dX11_person_128 rfl rfl ?_
      refine g_callV (As := [.int (tAt (mI m 40) x1 6)]) (st := []) dX11_person_129 clX11_155 (s10_0 sh30) rfl rfl (Nat.le_of_ble_eq_true rfl) (rmSH (by decide) (by decide)) (s_worthOf hW (s10_0 sh30) ?_)
      show Go X 2 mX11_person Q 132 [(3, .int (tAt (mI m 40) x1 6)), (0, .ref 0), (1, .int x1), (2, .int x2)] [.int (wSum (mI m 35) (tAt (mI m 40) x1 6) 6)] m
      exact g_iret dX11_person_132 rfl enSH (h9 q1 q3 q4 q5 q6 q7 q8)
    refine g_tabOut 133 dX11_person_29 (p_tabD (fun k hk1 hk2 => ?_)) (by decide) ?_
    · have hk : k = 0 ∨ k = 1 ∨ k = 2 ∨ k = 3 ∨ k = 4 ∨ k = 5 := by omega
      rcases hk with rfl | rfl | rfl | rfl | rfl | rfl
      · exact q3
      · exact q4
      · exact q5
      · exact q6
      · exact q7
      · exact q8
    refine g_iconst (v := -1) dX11_person_133 (by decide) ?_
    exact g_iret dX11_person_134 rfl enSH (h10 q1 q3 q4 q5 q6 q7 q8)
  · refine g_if_ne 16 dX11_person_11 (by decide) (fun q9 => absurd q9 (by decide)) (fun q9 => ?_)
    refine g_iconst (v := -1) dX11_person_14 (by decide) ?_
    exact g_iret dX11_person_15 rfl enSH (h11 q1)
theorem bX11_thing_0 {X : pX} {Q : Option Value → pMem → Prop} {m : pMem} {x1 : Int32} {x2 : Int32} (hW : Wf m)
    (h1 : ¬ x1 < 0 ∧ ¬ mI m 31 4 ≤ x1 ∧ ¬ (6 : Int32) ≤ x1 → x2 = 0 → vp_in x1 6)
    (h2 : ¬ x1 < 0 ∧ ¬ mI m 31 4 ≤ x1 ∧ ¬ (6 : Int32) ≤ x1 → x2 = 0 → Q (some (.int (mI m 34 x1.toNatClampNeg))) m)
    (h3 : ¬ x1 < 0 ∧ ¬ mI m 31 4 ≤ x1 ∧ ¬ (6 : Int32) ≤ x1 → ¬ x2 = 0 → x2 = 1 → vp_in x1 6)
    (h4 : ¬ x1 < 0 ∧ ¬ mI m 31 4 ≤ x1 ∧ ¬ (6 : Int32) ≤ x1 → ¬ x2 = 0 → x2 = 1 → Q (some (.int (mI m 35 x1.toNatClampNeg))) m)
    (h5 : ¬ x1 < 0 ∧ ¬ mI m 31 4 ≤ x1 ∧ ¬ (6 : Int32) ≤ x1 → ¬ x2 = 0 → ¬ x2 = 1 → x2 = 2 → vp_in x1 6)
    (h6 : ¬ x1 < 0 ∧ ¬ mI m 31 4 ≤ x1 ∧ ¬ (6 : Int32) ≤ x1 → ¬ x2 = 0 → ¬ x2 = 1 → x2 = 2 → Q (some (.int (mI m 40 x1.toNatClampNeg))) m)
    (h7 : ¬ x1 < 0 ∧ ¬ mI m 31 4 ≤ x1 ∧ ¬ (6 : Int32) ≤ x1 → ¬ x2 = 0 → ¬ x2 = 1 → ¬ x2 = 2 → Q (some (.int (-2 : Int32))) m)
    (h8 : ¬ (¬ x1 < 0 ∧ ¬ mI m 31 4 ≤ x1 ∧ ¬ (6 : Int32) ≤ x1) → Q (some (.int (-2 : Int32))) m) :
    Go X 1 mX11_thing Q 0 [(0, .ref 0), (1, .int x1), (2, .int x2)] [] m := by
  refine g_aload_n 0 dX11_thing_0 rfl rfl ?_
  refine g_getR dX11_thing_1 fl11_42 rfl sh0 (w11_5 hW sh0) ?_
  refine g_getR dX11_thing_4 fl11_56 rfl sh30 (w10_0 hW sh30) ?_
  refine g_iload_n 1 dX11_thing_7 rfl rfl ?_
  refine g_callV (As := [.int x1]) (st := []) dX11_thing_8 clX11_158 (s10_0 sh30) rfl rfl (Nat.le_of_ble_eq_true rfl) (rmSH (by decide) (by decide)) (s_isThing hW (s10_0 sh30) (fun q1 => ?_) (fun q1 => ?_))
  · refine g_if_ne 17 dX11_thing_11 (by decide) (fun q2 => ?_) (fun q2 => absurd q2 (by decide))
    refine g_iload_n 2 dX11_thing_17 rfl rfl ?_
    by_cases q3 : x2 = 0
    · refine g_tabIn 44 dX11_thing_18 (by rw [q3]; decide) (by rw [q3]; decide) (by rw [q3]; rfl) (by decide) ?_
      refine g_aload_n 0 dX11_thing_44 rfl rfl ?_
      refine g_getR dX11_thing_45 fl11_42 rfl sh0 (w11_5 hW sh0) ?_
      refine g_getR dX11_thing_48 fl11_56 rfl sh30 (w10_0 hW sh30) ?_
      refine g_getR dX11_thing_51 fl11_161 rfl (s10_0 sh30) (w4_7 hW (s10_0 sh30)) ?_
      refine g_iload_n 1 dX11_thing_54 rfl rfl ?_
      refine g_iald (j := x1.toNatClampNeg) dX11_thing_55 (s4_7 (s10_0 sh30)) (h1 q1 q3) rfl ?_
      exact g_iret dX11_thing_56 rfl enSH (h2 q1 q3)
    by_cases q4 : x2 = 1
    · refine g_tabIn 57 dX11_thing_18 (by rw [q4]; decide) (by rw [q4]; decide) (by rw [q4]; rfl) (by decide) ?_
      refine g_aload_n 0 dX11_thing_57 rfl rfl ?_
      refine g_getR dX11_thing_58 fl11_42 rfl sh0 (w11_5 hW sh0) ?_
      refine g_getR dX11_thing_61 fl11_56 rfl sh30 (w10_0 hW sh30) ?_
      refine g_getR dX11_thing_64 fl11_164 rfl (s10_0 sh30) (w4_8 hW (s10_0 sh30)) ?_
      refine g_iload_n 1 dX11_thing_67 rfl rfl ?_
      refine g_iald (j := x1.toNatClampNeg) dX11_thing_68 (s4_8 (s10_0 sh30)) (h3 q1 q3 q4) rfl ?_
      exact g_iret dX11_thing_69 rfl enSH (h4 q1 q3 q4)
    by_cases q5 : x2 = 2
    · refine g_tabIn 70 dX11_thing_18 (by rw [q5]; decide) (by rw [q5]; decide) (by rw [q5]; rfl) (by decide) ?_
      refine g_aload_n 0 dX11_thing_70 rfl rfl ?_
      refine g_getR dX11_thing_71 fl11_42 rfl sh0 (w11_5 hW sh0) ?_
      refine g_getR dX11_thing_74 fl11_69 rfl sh30 (w10_1 hW sh30) ?_
      refine g_getR dX11_thing_77 fl11_167 rfl (s10_1 sh30) (w8_3 hW (s10_1 sh30)) ?_
      refine g_iload_n 1 dX11_thing_80 rfl rfl ?_
      refine g_iald (j := x1.toNatClampNeg) dX11_thing_81 (s8_3 (s10_1 sh30)) (h5 q1 q3 q4 q5) rfl ?_
      exact g_iret dX11_thing_82 rfl enSH (h6 q1 q3 q4 q5)
    refine g_tabOut 83 dX11_thing_18 (p_tabD (fun k hk1 hk2 => ?_)) (by decide) ?_
    · have hk : k = 0 ∨ k = 1 ∨ k = 2 := by omega
      rcases hk with rfl | rfl | rfl
      · exact q3
      · exact q4
      · exact q5
    refine g_bipush (v := -2) dX11_thing_83 (by decide) ?_
    exact g_iret dX11_thing_85 rfl enSH (h7 q1 q3 q4 q5)
  · refine g_if_ne 17 dX11_thing_11 (by decide) (fun q6 => absurd q6 (by decide)) (fun q6 => ?_)
    refine g_bipush (v := -2) dX11_thing_14 (by decide) ?_
    exact g_iret dX11_thing_16 rfl enSH (h8 q1)
theorem bX11_stage_0 {X : pX} {Q : Option Value → pMem → Prop} {m : pMem} {x1 : Int32} (hW : Wf m)
    (h1 : ¬ x1 < 0 ∧ ¬ mI m 31 2 ≤ x1 ∧ ¬ (8 : Int32) ≤ x1 → vp_in x1 8)
    (h2 : ¬ x1 < 0 ∧ ¬ mI m 31 2 ≤ x1 ∧ ¬ (8 : Int32) ≤ x1 → Q (some (.int (mI m 32 x1.toNatClampNeg))) m)
    (h3 : ¬ (¬ x1 < 0 ∧ ¬ mI m 31 2 ≤ x1 ∧ ¬ (8 : Int32) ≤ x1) → Q (some (.int (-1 : Int32))) m) :
    Go X 1 mX11_stage Q 0 [(0, .ref 0), (1, .int x1)] [] m := by
  refine g_aload_n 0 dX11_stage_0 rfl rfl ?_
  refine g_getR dX11_stage_1 fl11_42 rfl sh0 (w11_5 hW sh0) ?_
  refine g_getR dX11_stage_4 fl11_56 rfl sh30 (w10_0 hW sh30) ?_
  refine g_iload_n 1 dX11_stage_7 rfl rfl ?_
  refine g_callV (As := [.int x1]) (st := []) dX11_stage_8 clX11_170 (s10_0 sh30) rfl rfl (Nat.le_of_ble_eq_true rfl) (rmSH (by decide) (by decide)) (s_isStage hW (s10_0 sh30) (fun q1 => ?_) (fun q1 => ?_))
  · refine g_if_eq 29 dX11_stage_11 (by decide) (fun q2 => absurd q2 (by decide)) (fun q2 => ?_)
    refine g_aload_n 0 dX11_stage_14 rfl rfl ?_
    refine g_getR dX11_stage_15 fl11_42 rfl sh0 (w11_5 hW sh0) ?_
    refine g_getR dX11_stage_18 fl11_56 rfl sh30 (w10_0 hW sh30) ?_
    refine g_getR dX11_stage_21 fl11_173 rfl (s10_0 sh30) (w4_5 hW (s10_0 sh30)) ?_
    refine g_iload_n 1 dX11_stage_24 rfl rfl ?_
    refine g_iald (j := x1.toNatClampNeg) dX11_stage_25 (s4_5 (s10_0 sh30)) (h1 q1) rfl ?_
    refine g_goto 30 dX11_stage_26 (by decide) ?_
    exact g_iret dX11_stage_30 rfl enSH (h2 q1)
  · refine g_if_eq 29 dX11_stage_11 (by decide) (fun q3 => ?_) (fun q3 => absurd q3 (by decide))
    refine g_iconst (v := -1) dX11_stage_29 (by decide) ?_
    exact g_iret dX11_stage_30 rfl enSH (h3 q1)
theorem bX11_count_0 {X : pX} {Q : Option Value → pMem → Prop} {m : pMem} {x1 : Int32} (hW : Wf m)
    (h1 : x1 = 0 → Q (some (.int (mI m 31 1))) m)
    (h2 : ¬ x1 = 0 → x1 = 1 → Q (some (.int (mI m 31 2))) m)
    (h3 : ¬ x1 = 0 → ¬ x1 = 1 → x1 = 2 → Q (some (.int (mI m 31 3))) m)
    (h4 : ¬ x1 = 0 → ¬ x1 = 1 → ¬ x1 = 2 → x1 = 3 → Q (some (.int (mI m 31 4))) m)
    (h5 : ¬ x1 = 0 → ¬ x1 = 1 → ¬ x1 = 2 → ¬ x1 = 3 → x1 = 4 → Q (some (.int (mI m 0 4))) m)
    (h6 : ¬ x1 = 0 → ¬ x1 = 1 → ¬ x1 = 2 → ¬ x1 = 3 → ¬ x1 = 4 → x1 = 5 → Q (some (.int (mI m 30 3))) m)
    (h7 : ¬ x1 = 0 → ¬ x1 = 1 → ¬ x1 = 2 → ¬ x1 = 3 → ¬ x1 = 4 → ¬ x1 = 5 → x1 = 6 → Q (some (.int (mI m 37 0))) m)
    (h8 : ¬ x1 = 0 → ¬ x1 = 1 → ¬ x1 = 2 → ¬ x1 = 3 → ¬ x1 = 4 → ¬ x1 = 5 → ¬ x1 = 6 → x1 = 7 → vp_in (mI m 31 3) 5)
    (h9 : ¬ x1 = 0 → ¬ x1 = 1 → ¬ x1 = 2 → ¬ x1 = 3 → ¬ x1 = 4 → ¬ x1 = 5 → ¬ x1 = 6 → x1 = 7 → Q (some (.int (tAt (mI m 38) (mI m 31 2) (mI m 31 3).toNatClampNeg))) m)
    (h10 : ¬ x1 = 0 → ¬ x1 = 1 → ¬ x1 = 2 → ¬ x1 = 3 → ¬ x1 = 4 → ¬ x1 = 5 → ¬ x1 = 6 → ¬ x1 = 7 → x1 = 8 → vp_in (mI m 31 3) 5)
    (h11 : ¬ x1 = 0 → ¬ x1 = 1 → ¬ x1 = 2 → ¬ x1 = 3 → ¬ x1 = 4 → ¬ x1 = 5 → ¬ x1 = 6 → ¬ x1 = 7 → x1 = 8 → Q (some (.int (wSum (mI m 35) (tTown (mI m 38) (mI m 40) (mI m 31 2) 6 (mI m 31 3).toNatClampNeg) 6))) m)
    (h12 : ¬ x1 = 0 → ¬ x1 = 1 → ¬ x1 = 2 → ¬ x1 = 3 → ¬ x1 = 4 → ¬ x1 = 5 → ¬ x1 = 6 → ¬ x1 = 7 → ¬ x1 = 8 → x1 = 9 → Q (some (.int ((((1 : Int32) <<< (mI m 31 4 &&& 31)) - (1 : Int32)) &&& (tAt (mI m 40) (-1 : Int32) 6)))) m)
    (h13 : ¬ x1 = 0 → ¬ x1 = 1 → ¬ x1 = 2 → ¬ x1 = 3 → ¬ x1 = 4 → ¬ x1 = 5 → ¬ x1 = 6 → ¬ x1 = 7 → ¬ x1 = 8 → ¬ x1 = 9 → x1 = 10 → Q (some (.int (mI m 30 5))) m)
    (h14 : ¬ x1 = 0 → ¬ x1 = 1 → ¬ x1 = 2 → ¬ x1 = 3 → ¬ x1 = 4 → ¬ x1 = 5 → ¬ x1 = 6 → ¬ x1 = 7 → ¬ x1 = 8 → ¬ x1 = 9 → ¬ x1 = 10 → x1 = 11 → Q (some (.int (mI m 41 2))) m)
    (h15 : ¬ x1 = 0 → ¬ x1 = 1 → ¬ x1 = 2 → ¬ x1 = 3 → ¬ x1 = 4 → ¬ x1 = 5 → ¬ x1 = 6 → ¬ x1 = 7 → ¬ x1 = 8 → ¬ x1 = 9 → ¬ x1 = 10 → ¬ x1 = 11 → x1 = 12 → Q (some (.int (mI m 30 4))) m)
    (h16 : ¬ x1 = 0 → ¬ x1 = 1 → ¬ x1 = 2 → ¬ x1 = 3 → ¬ x1 = 4 → ¬ x1 = 5 → ¬ x1 = 6 → ¬ x1 = 7 → ¬ x1 = 8 → ¬ x1 = 9 → ¬ x1 = 10 → ¬ x1 = 11 → ¬ x1 = 12 → x1 = 13 → Q (some (.int (mI m 1 1))) m)
    (h17 : ¬ x1 = 0 → ¬ x1 = 1 → ¬ x1 = 2 → ¬ x1 = 3 → ¬ x1 = 4 → ¬ x1 = 5 → ¬ x1 = 6 → ¬ x1 = 7 → ¬ x1 = 8 → ¬ x1 = 9 → ¬ x1 = 10 → ¬ x1 = 11 → ¬ x1 = 12 → ¬ x1 = 13 → Q (some (.int (-1 : Int32))) m) :
    Go X 3 mX11_count Q 0 [(0, .ref 0), (1, .int x1)] [] m := by
  refine g_iload_n 1 dX11_count_0 rfl rfl ?_
  by_cases q1 : x1 = 0
  · refine g_tabIn 72 dX11_count_1 (by rw [q1]; decide) (by rw [q1]; decide) (by rw [q1]; rfl) (by decide) ?_
    refine g_aload_n 0 dX11_count_72 rfl rfl ?_
    refine g_getR dX11_count_73 fl11_42 rfl sh0 (w11_5 hW sh0) ?_
    refine g_getR dX11_count_76 fl11_56 rfl sh30 (w10_0 hW sh30) ?_
    refine g_getI dX11_count_79 fl11_176 (s10_0 sh30) ?_
    exact g_iret dX11_count_82 rfl enSH (h1 q1)
  by_cases q2 : x1 = 1
  · refine g_tabIn 83 dX11_count_1 (by rw [q2]; decide) (by rw [q2]; decide) (by rw [q2]; rfl) (by decide) ?_
    refine g_aload_n 0 dX11_count_83 rfl rfl ?_
    refine g_getR dX11_count_84 fl11_42 rfl sh0 (w11_5 hW sh0) ?_
    refine g_getR dX11_count_87 fl11_56 rfl sh30 (w10_0 hW sh30) ?_
    refine g_getI dX11_count_90 fl11_179 (s10_0 sh30) ?_
    exact g_iret dX11_count_93 rfl enSH (h2 q1 q2)
  by_cases q3 : x1 = 2
  · refine g_tabIn 94 dX11_count_1 (by rw [q3]; decide) (by rw [q3]; decide) (by rw [q3]; rfl) (by decide) ?_
    refine g_aload_n 0 dX11_count_94 rfl rfl ?_
    refine g_getR dX11_count_95 fl11_42 rfl sh0 (w11_5 hW sh0) ?_
    refine g_getR dX11_count_98 fl11_56 rfl sh30 (w10_0 hW sh30) ?_
    refine g_getI dX11_count_101 fl11_121 (s10_0 sh30) ?_
    exact g_iret dX11_count_104 rfl enSH (h3 q1 q2 q3)
  by_cases q4 : x1 = 3
  · refine g_tabIn 105 dX11_count_1 (by rw [q4]; decide) (by rw [q4]; decide) (by rw [q4]; rfl) (by decide) ?_
    refine g_aload_n 0 dX11_count_105 rfl rfl ?_
    refine g_getR dX11_count_106 fl11_42 rfl sh0 (w11_5 hW sh0) ?_
    refine g_getR dX11_count_109 fl11_56 rfl sh30 (w10_0 hW sh30) ?_
    refine g_getI dX11_count_112 fl11_182 (s10_0 sh30) ?_
    exact g_iret dX11_count_115 rfl enSH (h4 q1 q2 q3 q4)
  by_cases q5 : x1 = 4
  · refine g_tabIn 116 dX11_count_1 (by rw [q5]; decide) (by rw [q5]; decide) (by rw [q5]; rfl) (by decide) ?_
    refine g_aload_n 0 dX11_count_116 rfl rfl ?_
    refine g_getI dX11_count_117 fl11_126 sh0 ?_
    exact g_iret dX11_count_120 rfl enSH (h5 q1 q2 q3 q4 q5)
  by_cases q6 : x1 = 5
  · refine g_tabIn 121 dX11_count_1 (by rw [q6]; decide) (by rw [q6]; decide) (by rw [q6]; rfl) (by decide) ?_
    refine g_aload_n 0 dX11_count_121 rfl rfl ?_
    refine g_getR dX11_count_122 fl11_42 rfl sh0 (w11_5 hW sh0) ?_
    refine g_getI dX11_count_125 fl11_132 sh30 ?_
    exact g_iret dX11_count_128 rfl enSH (h6 q1 q2 q3 q4 q5 q6)
  by_cases q7 : x1 = 6
  · refine g_tabIn 129 dX11_count_1 (by rw [q7]; decide) (by rw [q7]; decide) (by rw [q7]; rfl) (by decide) ?_
    refine g_aload_n 0 dX11_count_129 rfl rfl ?_
    refine g_getR dX11_count_130 fl11_42 rfl sh0 (w11_5 hW sh0) ?_
    refine g_getR dX11_count_133 fl11_69 rfl sh30 (w10_1 hW sh30) ?_
    refine g_getI dX11_count_136 fl11_185 (s10_1 sh30) ?_
    exact g_iret dX11_count_139 rfl enSH (h7 q1 q2 q3 q4 q5 q6 q7)
  by_cases q8 : x1 = 7
  · refine g_tabIn 140 dX11_count_1 (by rw [q8]; decide) (by rw [q8]; decide) (by rw [q8]; rfl) (by decide) ?_
    refine g_aload_n 0 dX11_count_140 rfl rfl ?_
    refine g_getR dX11_count_141 fl11_63 rfl sh0 (w11_8 hW sh0) ?_
    refine g_aload_n 0 dX11_count_144 rfl rfl ?_
    refine g_getR dX11_count_145 fl11_42 rfl sh0 (w11_5 hW sh0) ?_
    refine g_getR dX11_count_148 fl11_69 rfl sh30 (w10_1 hW sh30) ?_
    refine g_callV (As := [.ref 37]) (st := []) dX11_count_151 clX11_188 sh512 rfl rfl (Nat.le_of_ble_eq_true rfl) (rmSH (by decide) (by decide)) (s_cTown37 hW (h8 q1 q2 q3 q4 q5 q6 q7 q8) ?_)
    show Go X 3 mX11_count Q 154 [(0, .ref 0), (1, .int x1)] [.int (tAt (mI m 38) (mI m 31 2) (mI m 31 3).toNatClampNeg)] m
    exact g_iret dX11_count_154 rfl enSH (h9 q1 q2 q3 q4 q5 q6 q7 q8)
  by_cases q9 : x1 = 8
  · refine g_tabIn 155 dX11_count_1 (by rw [q9]; decide) (by rw [q9]; decide) (by rw [q9]; rfl) (by decide) ?_
    refine g_aload_n 0 dX11_count_155 rfl rfl ?_
    refine g_getR dX11_count_156 fl11_63 rfl sh0 (w11_8 hW sh0) ?_
    refine g_aload_n 0 dX11_count_159 rfl rfl ?_
    refine g_getR dX11_count_160 fl11_42 rfl sh0 (w11_5 hW sh0) ?_
    refine g_getR dX11_count_163 fl11_69 rfl sh30 (w10_1 hW sh30) ?_
    refine g_callV (As := [.ref 37]) (st := []) dX11_count_166 clX11_192 sh512 rfl rfl (Nat.le_of_ble_eq_true rfl) (rmSH (by decide) (by decide)) (s_cWorth37 hW (h10 q1 q2 q3 q4 q5 q6 q7 q8 q9) ?_)
    show Go X 3 mX11_count Q 169 [(0, .ref 0), (1, .int x1)] [.int (wSum (mI m 35) (tTown (mI m 38) (mI m 40) (mI m 31 2) 6 (mI m 31 3).toNatClampNeg) 6)] m
    exact g_iret dX11_count_169 rfl enSH (h11 q1 q2 q3 q4 q5 q6 q7 q8 q9)
  by_cases q10 : x1 = 9
  · refine g_tabIn 170 dX11_count_1 (by rw [q10]; decide) (by rw [q10]; decide) (by rw [q10]; rfl) (by decide) ?_
    refine g_aload_n 0 dX11_count_170 rfl rfl ?_
    refine g_getR dX11_count_171 fl11_42 rfl sh0 (w11_5 hW sh0) ?_
    refine g_getR dX11_count_174 fl11_56 rfl sh30 (w10_0 hW sh30) ?_
    refine g_callV (As := []) (st := []) dX11_count_177 clX11_195 (s10_0 sh30) rfl rfl (Nat.le_of_ble_eq_true rfl) (rmSH (by decide) (by decide)) (s_allThings hW (s10_0 sh30) ?_)
    show Go X 3 mX11_count Q 180 [(0, .ref 0), (1, .int x1)] [.int (((1 : Int32) <<< (mI m 31 4 &&& 31)) - (1 : Int32))] m
    refine g_aload_n 0 dX11_count_180 rfl rfl ?_
    refine g_getR dX11_count_181 fl11_42 rfl sh0 (w11_5 hW sh0) ?_
    refine g_getR dX11_count_184 fl11_69 rfl sh30 (w10_1 hW sh30) ?_
    refine g_iconst (v := -1) dX11_count_187 (by decide) ?_
    refine g_callV (As := [.int (-1 : Int32)]) (st := [.int (((1 : Int32) <<< (mI m 31 4 &&& 31)) - (1 : Int32))]) dX11_count_188 clX11_199 (s10_1 sh30) rfl rfl (Nat.le_of_ble_eq_true rfl) (rmSH (by decide) (by decide)) (s_thingsAt hW (s10_1 sh30) ?_)
    show Go X 3 mX11_count Q 191 [(0, .ref 0), (1, .int x1)] [.int (tAt (mI m 40) (-1 : Int32) 6), .int (((1 : Int32) <<< (mI m 31 4 &&& 31)) - (1 : Int32))] m
    refine g_iand dX11_count_191 ?_
    exact g_iret dX11_count_192 rfl enSH (h12 q1 q2 q3 q4 q5 q6 q7 q8 q9 q10)
  by_cases q11 : x1 = 10
  · refine g_tabIn 193 dX11_count_1 (by rw [q11]; decide) (by rw [q11]; decide) (by rw [q11]; rfl) (by decide) ?_
    refine g_aload_n 0 dX11_count_193 rfl rfl ?_
    refine g_getR dX11_count_194 fl11_42 rfl sh0 (w11_5 hW sh0) ?_
    refine g_getI dX11_count_197 fl11_202 sh30 ?_
    exact g_iret dX11_count_200 rfl enSH (h13 q1 q2 q3 q4 q5 q6 q7 q8 q9 q10 q11)
  by_cases q12 : x1 = 11
  · refine g_tabIn 201 dX11_count_1 (by rw [q12]; decide) (by rw [q12]; decide) (by rw [q12]; rfl) (by decide) ?_
    refine g_aload_n 0 dX11_count_201 rfl rfl ?_
    refine g_getR dX11_count_202 fl11_42 rfl sh0 (w11_5 hW sh0) ?_
    refine g_getR dX11_count_205 fl11_205 rfl sh30 (w10_2 hW sh30) ?_
    refine g_getI dX11_count_208 fl11_209 (s10_2 sh30) ?_
    exact g_iret dX11_count_211 rfl enSH (h14 q1 q2 q3 q4 q5 q6 q7 q8 q9 q10 q11 q12)
  by_cases q13 : x1 = 12
  · refine g_tabIn 212 dX11_count_1 (by rw [q13]; decide) (by rw [q13]; decide) (by rw [q13]; rfl) (by decide) ?_
    refine g_aload_n 0 dX11_count_212 rfl rfl ?_
    refine g_getR dX11_count_213 fl11_42 rfl sh0 (w11_5 hW sh0) ?_
    refine g_getI dX11_count_216 fl11_214 sh30 ?_
    exact g_iret dX11_count_219 rfl enSH (h15 q1 q2 q3 q4 q5 q6 q7 q8 q9 q10 q11 q12 q13)
  by_cases q14 : x1 = 13
  · refine g_tabIn 220 dX11_count_1 (by rw [q14]; decide) (by rw [q14]; decide) (by rw [q14]; rfl) (by decide) ?_
    refine g_aload_n 0 dX11_count_220 rfl rfl ?_
    refine g_getR dX11_count_221 fl11_10 rfl sh0 (w11_0 hW sh0) ?_
    refine g_getI dX11_count_224 fl11_106 sh1 ?_
    exact g_iret dX11_count_227 rfl enSH (h16 q1 q2 q3 q4 q5 q6 q7 q8 q9 q10 q11 q12 q13 q14)
  refine g_tabOut 228 dX11_count_1 (p_tabD (fun k hk1 hk2 => ?_)) (by decide) ?_
  · have hk : k = 0 ∨ k = 1 ∨ k = 2 ∨ k = 3 ∨ k = 4 ∨ k = 5 ∨ k = 6 ∨ k = 7 ∨ k = 8 ∨ k = 9 ∨ k = 10 ∨ k = 11 ∨ k = 12 ∨ k = 13 := by omega
    rcases hk with rfl | rfl | rfl | rfl | rfl | rfl | rfl | rfl | rfl | rfl | rfl | rfl | rfl | rfl
    · exact q1
    · exact q2
    · exact q3
    · exact q4
    · exact q5
    · exact q6
    · exact q7
    · exact q8
    · exact q9
    · exact q10
    · exact q11
    · exact q12
    · exact q13
    · exact q14
  refine g_iconst (v := -1) dX11_count_228 (by decide) ?_
  exact g_iret dX11_count_229 rfl enSH (h17 q1 q2 q3 q4 q5 q6 q7 q8 q9 q10 q11 q12 q13 q14)
theorem bX12_person_0 {X : pX} {Q : Option Value → pMem → Prop} {m : pMem} {x1 : Int32} {x2 : Int32} (hW : Wf m)
    (h1 : ¬ x1 < 0 ∧ ¬ (mI m 536 3 - (1 : Int32)) < x1 → x2 = 0 → vp_in x1 4)
    (h2 : ¬ x1 < 0 ∧ ¬ (mI m 536 3 - (1 : Int32)) < x1 → x2 = 0 → Q (some (.int (mI m 541 x1.toNatClampNeg))) m)
    (h3 : ¬ x1 < 0 ∧ ¬ (mI m 536 3 - (1 : Int32)) < x1 → ¬ x2 = 0 → x2 = 1 → vp_in x1 4)
    (h4 : ¬ x1 < 0 ∧ ¬ (mI m 536 3 - (1 : Int32)) < x1 → ¬ x2 = 0 → x2 = 1 → Q (some (.int (mI m 537 x1.toNatClampNeg))) m)
    (h5 : ¬ x1 < 0 ∧ ¬ (mI m 536 3 - (1 : Int32)) < x1 → ¬ x2 = 0 → ¬ x2 = 1 → x2 = 2 → vp_in x1 4)
    (h6 : ¬ x1 < 0 ∧ ¬ (mI m 536 3 - (1 : Int32)) < x1 → ¬ x2 = 0 → ¬ x2 = 1 → x2 = 2 → Q (some (.int (mI m 538 x1.toNatClampNeg))) m)
    (h7 : ¬ x1 < 0 ∧ ¬ (mI m 536 3 - (1 : Int32)) < x1 → ¬ x2 = 0 → ¬ x2 = 1 → ¬ x2 = 2 → x2 = 3 → vp_in (mI m 536 4) 7)
    (h8 : ¬ x1 < 0 ∧ ¬ (mI m 536 3 - (1 : Int32)) < x1 → ¬ x2 = 0 → ¬ x2 = 1 → ¬ x2 = 2 → x2 = 3 → Q (some (.int (tAt (mI m 539) x1 (mI m 536 4).toNatClampNeg))) m)
    (h9 : ¬ x1 < 0 ∧ ¬ (mI m 536 3 - (1 : Int32)) < x1 → ¬ x2 = 0 → ¬ x2 = 1 → ¬ x2 = 2 → ¬ x2 = 3 → x2 = 4 → vp_in (mI m 536 4) 7)
    (h10 : ¬ x1 < 0 ∧ ¬ (mI m 536 3 - (1 : Int32)) < x1 → ¬ x2 = 0 → ¬ x2 = 1 → ¬ x2 = 2 → ¬ x2 = 3 → x2 = 4 → Q (some (.int (wSum (mI m 542) (tAt (mI m 539) x1 (mI m 536 4).toNatClampNeg) (mI m 536 4).toNatClampNeg))) m)
    (h11 : ¬ x1 < 0 ∧ ¬ (mI m 536 3 - (1 : Int32)) < x1 → ¬ x2 = 0 → ¬ x2 = 1 → ¬ x2 = 2 → ¬ x2 = 3 → ¬ x2 = 4 → x2 = 5 → vp_in (mI m 536 4) 7)
    (h12 : ¬ x1 < 0 ∧ ¬ (mI m 536 3 - (1 : Int32)) < x1 → ¬ x2 = 0 → ¬ x2 = 1 → ¬ x2 = 2 → ¬ x2 = 3 → ¬ x2 = 4 → x2 = 5 → Q (some (.int (wSum (mI m 543) (tAt (mI m 539) x1 (mI m 536 4).toNatClampNeg) (mI m 536 4).toNatClampNeg))) m)
    (h13 : ¬ x1 < 0 ∧ ¬ (mI m 536 3 - (1 : Int32)) < x1 → ¬ x2 = 0 → ¬ x2 = 1 → ¬ x2 = 2 → ¬ x2 = 3 → ¬ x2 = 4 → ¬ x2 = 5 → Q (some (.int (-1 : Int32))) m)
    (h14 : ¬ (¬ x1 < 0 ∧ ¬ (mI m 536 3 - (1 : Int32)) < x1) → Q (some (.int (-1 : Int32))) m) :
    Go X 2 mX12_person Q 0 [(0, .ref 535), (1, .int x1), (2, .int x2)] [] m := by
  refine g_aload_n 0 dX12_person_0 rfl rfl ?_
  refine g_iload_n 1 dX12_person_1 rfl rfl ?_
  refine g_callV (As := [.int x1]) (st := []) dX12_person_2 clX12_334 sh535 rfl rfl (Nat.le_of_ble_eq_true rfl) (rmSH (by decide) (by decide)) (s_mPerson hW (fun q1 => ?_) (fun q1 => ?_))
  · refine g_if_ne 10 dX12_person_5 (by decide) (fun q2 => ?_) (fun q2 => absurd q2 (by decide))
    refine g_iload_n 2 dX12_person_10 rfl rfl ?_
    by_cases q3 : x2 = 0
    · refine g_tabIn 48 dX12_person_11 (by rw [q3]; decide) (by rw [q3]; decide) (by rw [q3]; rfl) (by decide) ?_
      refine g_aload_n 0 dX12_person_48 rfl rfl ?_
      refine g_getR dX12_person_49 fl12_25 rfl sh535 (w12_6 hW sh535) ?_
      refine g_iload_n 1 dX12_person_52 rfl rfl ?_
      refine g_iald (j := x1.toNatClampNeg) dX12_person_53 (s12_6 sh535) (h1 q1 q3) rfl ?_
      exact g_iret dX12_person_54 rfl enSH (h2 q1 q3)
    by_cases q4 : x2 = 1
    · refine g_tabIn 55 dX12_person_11 (by rw [q4]; decide) (by rw [q4]; decide) (by rw [q4]; rfl) (by decide) ?_
      refine g_aload_n 0 dX12_person_55 rfl rfl ?_
      refine g_getR dX12_person_56 fl12_13 rfl sh535 (w12_2 hW sh535) ?_
      refine g_iload_n 1 dX12_person_59 rfl rfl ?_
      refine g_iald (j := x1.toNatClampNeg) dX12_person_60 (s12_2 sh535) (h3 q1 q3 q4) rfl ?_
      exact g_iret dX12_person_61 rfl enSH (h4 q1 q3 q4)
    by_cases q5 : x2 = 2
    · refine g_tabIn 62 dX12_person_11 (by rw [q5]; decide) (by rw [q5]; decide) (by rw [q5]; rfl) (by decide) ?_
      refine g_aload_n 0 dX12_person_62 rfl rfl ?_
      refine g_getR dX12_person_63 fl12_16 rfl sh535 (w12_3 hW sh535) ?_
      refine g_iload_n 1 dX12_person_66 rfl rfl ?_
      refine g_iald (j := x1.toNatClampNeg) dX12_person_67 (s12_3 sh535) (h5 q1 q3 q4 q5) rfl ?_
      exact g_iret dX12_person_68 rfl enSH (h6 q1 q3 q4 q5)
    by_cases q6 : x2 = 3
    · refine g_tabIn 69 dX12_person_11 (by rw [q6]; decide) (by rw [q6]; decide) (by rw [q6]; rfl) (by decide) ?_
      refine g_aload_n 0 dX12_person_69 rfl rfl ?_
      refine g_iload_n 1 dX12_person_70 rfl rfl ?_
      refine g_callV (As := [.int x1]) (st := []) dX12_person_71 clX12_338 sh535 rfl rfl (Nat.le_of_ble_eq_true rfl) (rmSH (by decide) (by decide)) (s_mThings hW (h7 q1 q3 q4 q5 q6) ?_)
      show Go X 2 mX12_person Q 74 [(0, .ref 535), (1, .int x1), (2, .int x2)] [.int (tAt (mI m 539) x1 (mI m 536 4).toNatClampNeg)] m
      exact g_iret dX12_person_74 rfl enSH (h8 q1 q3 q4 q5 q6)
    by_cases q7 : x2 = 4
    · refine g_tabIn 75 dX12_person_11 (by rw [q7]; decide) (by rw [q7]; decide) (by rw [q7]; rfl) (by decide) ?_
      refine g_aload_n 0 dX12_person_75 rfl rfl ?_
      refine g_aload_n 0 dX12_person_76 rfl rfl ?_
      refine g_iload_n 1 dX12_person_77 rfl rfl ?_
      refine g_callV (As := [.int x1]) (st := [.ref 535]) dX12_person_78 clX12_338 sh535 rfl rfl (Nat.le_of_ble_eq_true rfl) (rmSH (by decide) (by decide)) (s_mThings hW (h9 q1 q3 q4 q5 q6 q7) ?_)
      show Go X 2 mX12_person Q 81 [(0, .ref 535), (1, .int x1), (2, .int x2)] [.int (tAt (mI m 539) x1 (mI m 536 4).toNatClampNeg), .ref 535] m
      refine g_callV (As := [.int (tAt (mI m 539) x1 (mI m 536 4).toNatClampNeg)]) (st := []) dX12_person_81 clX12_341 sh535 rfl rfl (Nat.le_of_ble_eq_true rfl) (rmSH (by decide) (by decide)) (s_mWeight hW (h9 q1 q3 q4 q5 q6 q7) ?_)
      show Go X 2 mX12_person Q 84 [(0, .ref 535), (1, .int x1), (2, .int x2)] [.int (wSum (mI m 542) (tAt (mI m 539) x1 (mI m 536 4).toNatClampNeg) (mI m 536 4).toNatClampNeg)] m
      exact g_iret dX12_person_84 rfl enSH (h10 q1 q3 q4 q5 q6 q7)
    by_cases q8 : x2 = 5
    · refine g_tabIn 85 dX12_person_11 (by rw [q8]; decide) (by rw [q8]; decide) (by rw [q8]; rfl) (by decide) ?_
      refine g_aload_n 0 dX12_person_85 rfl rfl ?_
      refine g_aload_n 0 dX12_person_86 rfl rfl ?_
      refine g_iload_n 1 dX12_person_87 rfl rfl ?_
      refine g_callV (As := [.int x1]) (st := [.ref 535]) dX12_person_88 clX12_338 sh535 rfl rfl (Nat.le_of_ble_eq_true rfl) (rmSH (by decide) (by decide)) (s_mThings hW (h11 q1 q3 q4 q5 q6 q7 q8) ?_)
      show Go X 2 mX12_person Q 91 [(0, .ref 535), (1, .int x1), (2, .int x2)] [.int (tAt (mI m 539) x1 (mI m 536 4).toNatClampNeg), .ref 535] m
      refine g_callV (As := [.int (tAt (mI m 539) x1 (mI m 536 4).toNatClampNeg)]) (st := []) dX12_person_91 clX12_344 sh535 rfl rfl (Nat.le_of_ble_eq_true rfl) (rmSH (by decide) (by decide)) (s_mWorth hW (h11 q1 q3 q4 q5 q6 q7 q8) ?_)
      show Go X 2 mX12_person Q 94 [(0, .ref 535), (1, .int x1), (2, .int x2)] [.int (wSum (mI m 543) (tAt (mI m 539) x1 (mI m 536 4).toNatClampNeg) (mI m 536 4).toNatClampNeg)] m
      exact g_iret dX12_person_94 rfl enSH (h12 q1 q3 q4 q5 q6 q7 q8)
    refine g_tabOut 95 dX12_person_11 (p_tabD (fun k hk1 hk2 => ?_)) (by decide) ?_
    · have hk : k = 0 ∨ k = 1 ∨ k = 2 ∨ k = 3 ∨ k = 4 ∨ k = 5 := by omega
      rcases hk with rfl | rfl | rfl | rfl | rfl | rfl
      · exact q3
      · exact q4
      · exact q5
      · exact q6
      · exact q7
      · exact q8
    refine g_iconst (v := -1) dX12_person_95 (by decide) ?_
    exact g_iret dX12_person_96 rfl enSH (h13 q1 q3 q4 q5 q6 q7 q8)
  · refine g_if_ne 10 dX12_person_5 (by decide) (fun q9 => absurd q9 (by decide)) (fun q9 => ?_)
    refine g_iconst (v := -1) dX12_person_8 (by decide) ?_
    exact g_iret dX12_person_9 rfl enSH (h14 q1)
theorem bX12_thing_0 {X : pX} {Q : Option Value → pMem → Prop} {m : pMem} {x1 : Int32} {x2 : Int32} (hW : Wf m)
    (h1 : ¬ x1 < 0 ∧ ¬ (mI m 536 4 - (1 : Int32)) < x1 → ¬ x2 < (0 : Int32) ∧ ¬ (2 : Int32) < x2 → ¬ x2 = 0 → ¬ x2 = (1 : Int32) → vp_in x1 6)
    (h2 : ¬ x1 < 0 ∧ ¬ (mI m 536 4 - (1 : Int32)) < x1 → ¬ x2 < (0 : Int32) ∧ ¬ (2 : Int32) < x2 → ¬ x2 = 0 → ¬ x2 = (1 : Int32) → Q (some (.int (mI m 539 x1.toNatClampNeg))) m)
    (h3 : ¬ x1 < 0 ∧ ¬ (mI m 536 4 - (1 : Int32)) < x1 → ¬ x2 < (0 : Int32) ∧ ¬ (2 : Int32) < x2 → ¬ x2 = 0 → x2 = (1 : Int32) → vp_in x1 6)
    (h4 : ¬ x1 < 0 ∧ ¬ (mI m 536 4 - (1 : Int32)) < x1 → ¬ x2 < (0 : Int32) ∧ ¬ (2 : Int32) < x2 → ¬ x2 = 0 → x2 = (1 : Int32) → Q (some (.int (mI m 543 x1.toNatClampNeg))) m)
    (h5 : ¬ x1 < 0 ∧ ¬ (mI m 536 4 - (1 : Int32)) < x1 → ¬ x2 < (0 : Int32) ∧ ¬ (2 : Int32) < x2 → x2 = 0 → vp_in x1 6)
    (h6 : ¬ x1 < 0 ∧ ¬ (mI m 536 4 - (1 : Int32)) < x1 → ¬ x2 < (0 : Int32) ∧ ¬ (2 : Int32) < x2 → x2 = 0 → Q (some (.int (mI m 542 x1.toNatClampNeg))) m)
    (h7 : ¬ x1 < 0 ∧ ¬ (mI m 536 4 - (1 : Int32)) < x1 → ¬ (¬ x2 < (0 : Int32) ∧ ¬ (2 : Int32) < x2) → Q (some (.int (-2 : Int32))) m)
    (h8 : ¬ (¬ x1 < 0 ∧ ¬ (mI m 536 4 - (1 : Int32)) < x1) → Q (some (.int (-2 : Int32))) m) :
    Go X 2 mX12_thing Q 0 [(0, .ref 535), (1, .int x1), (2, .int x2)] [] m := by
  refine g_aload_n 0 dX12_thing_0 rfl rfl ?_
  refine g_iload_n 1 dX12_thing_1 rfl rfl ?_
  refine g_callV (As := [.int x1]) (st := []) dX12_thing_2 clX12_347 sh535 rfl rfl (Nat.le_of_ble_eq_true rfl) (rmSH (by decide) (by decide)) (s_mThing hW (fun q1 => ?_) (fun q1 => ?_))
  · refine g_if_eq 20 dX12_thing_5 (by decide) (fun q2 => absurd q2 (by decide)) (fun q2 => ?_)
    refine g_iload_n 2 dX12_thing_8 rfl rfl ?_
    refine g_i2l dX12_thing_9 ?_
    refine g_lconst (v := 0) dX12_thing_10 (by decide) ?_
    refine g_ldc2 (v := 2) dX12_thing_11 cjX12_350 ?_
    refine g_callS (As := [.long x2.toInt64, .long (0 : Int64), .long (2 : Int64)]) (st := []) dX12_thing_14 clX12_128 rfl rfl (Nat.le_of_ble_eq_true rfl) (rmSH (by decide) (by decide)) (s_in (x := x2) (lo := (0 : Int32)) (hi := (2 : Int32)) hW (by first | rfl | decide) (by first | rfl | decide) (by first | rfl | decide) (fun q3 => ?_) (fun q3 => ?_))
    · refine g_if_ne 23 dX12_thing_17 (by decide) (fun q4 => ?_) (fun q4 => absurd q4 (by decide))
      refine g_iload_n 2 dX12_thing_23 rfl rfl ?_
      refine g_if_ne 36 dX12_thing_24 (by decide) (fun q5 => ?_) (fun q5 => ?_)
      · refine g_iload_n 2 dX12_thing_36 rfl rfl ?_
        refine g_iconst (v := 1) dX12_thing_37 (by decide) ?_
        refine g_icmp_ne 50 dX12_thing_38 (by decide) (fun q6 => ?_) (fun q6 => ?_)
        · refine g_aload_n 0 dX12_thing_50 rfl rfl ?_
          refine g_getR dX12_thing_51 fl12_19 rfl sh535 (w12_4 hW sh535) ?_
          refine g_iload_n 1 dX12_thing_54 rfl rfl ?_
          refine g_iald (j := x1.toNatClampNeg) dX12_thing_55 (s12_4 sh535) (h1 q1 q3 q5 q6) rfl ?_
          exact g_iret dX12_thing_56 rfl enSH (h2 q1 q3 q5 q6)
        · refine g_aload_n 0 dX12_thing_41 rfl rfl ?_
          refine g_getR dX12_thing_42 fl12_31 rfl sh535 (w12_8 hW sh535) ?_
          refine g_iload_n 1 dX12_thing_45 rfl rfl ?_
          refine g_iald (j := x1.toNatClampNeg) dX12_thing_46 (s12_8 sh535) (h3 q1 q3 q5 q6) rfl ?_
          refine g_goto 56 dX12_thing_47 (by decide) ?_
          exact g_iret dX12_thing_56 rfl enSH (h4 q1 q3 q5 q6)
      · refine g_aload_n 0 dX12_thing_27 rfl rfl ?_
        refine g_getR dX12_thing_28 fl12_28 rfl sh535 (w12_7 hW sh535) ?_
        refine g_iload_n 1 dX12_thing_31 rfl rfl ?_
        refine g_iald (j := x1.toNatClampNeg) dX12_thing_32 (s12_7 sh535) (h5 q1 q3 q5) rfl ?_
        refine g_goto 56 dX12_thing_33 (by decide) ?_
        exact g_iret dX12_thing_56 rfl enSH (h6 q1 q3 q5)
    · refine g_if_ne 23 dX12_thing_17 (by decide) (fun q7 => absurd q7 (by decide)) (fun q7 => ?_)
      refine g_bipush (v := -2) dX12_thing_20 (by decide) ?_
      exact g_iret dX12_thing_22 rfl enSH (h7 q1 q3)
  · refine g_if_eq 20 dX12_thing_5 (by decide) (fun q8 => ?_) (fun q8 => absurd q8 (by decide))
    refine g_bipush (v := -2) dX12_thing_20 (by decide) ?_
    exact g_iret dX12_thing_22 rfl enSH (h8 q1)
theorem bX12_stage_0 {X : pX} {Q : Option Value → pMem → Prop} {m : pMem} {x1 : Int32} (hW : Wf m)
    (h1 : ¬ x1 < (0 : Int32) ∧ ¬ ((mI m 536 2) - (1 : Int32)) < x1 → vp_in x1 8)
    (h2 : ¬ x1 < (0 : Int32) ∧ ¬ ((mI m 536 2) - (1 : Int32)) < x1 → Q (some (.int (mI m 540 x1.toNatClampNeg))) m)
    (h3 : ¬ (¬ x1 < (0 : Int32) ∧ ¬ ((mI m 536 2) - (1 : Int32)) < x1) → Q (some (.int (-1 : Int32))) m) :
    Go X 1 mX12_stage Q 0 [(0, .ref 535), (1, .int x1)] [] m := by
  refine g_iload_n 1 dX12_stage_0 rfl rfl ?_
  refine g_i2l dX12_stage_1 ?_
  refine g_lconst (v := 0) dX12_stage_2 (by decide) ?_
  refine g_aload_n 0 dX12_stage_3 rfl rfl ?_
  refine g_getR dX12_stage_4 fl12_9 rfl sh535 (w12_1 hW sh535) ?_
  refine g_iconst (v := 2) dX12_stage_7 (by decide) ?_
  refine g_iald (j := 2) dX12_stage_8 (s12_1 sh535) (by unfold vp_in; decide) (by decide) ?_
  refine g_iconst (v := 1) dX12_stage_9 (by decide) ?_
  refine g_isub dX12_stage_10 ?_
  refine g_i2l dX12_stage_11 ?_
  refine g_callS (As := [.long x1.toInt64, .long (0 : Int64), .long (((mI m 536 2) - (1 : Int32)).toInt64)]) (st := []) dX12_stage_12 clX12_128 rfl rfl (Nat.le_of_ble_eq_true rfl) (rmSH (by decide) (by decide)) (s_in (x := x1) (lo := (0 : Int32)) (hi := ((mI m 536 2) - (1 : Int32))) hW (by first | rfl | decide) (by first | rfl | decide) (by first | rfl | decide) (fun q1 => ?_) (fun q1 => ?_))
  · refine g_if_eq 27 dX12_stage_15 (by decide) (fun q2 => absurd q2 (by decide)) (fun q2 => ?_)
    refine g_aload_n 0 dX12_stage_18 rfl rfl ?_
    refine g_getR dX12_stage_19 fl12_22 rfl sh535 (w12_5 hW sh535) ?_
    refine g_iload_n 1 dX12_stage_22 rfl rfl ?_
    refine g_iald (j := x1.toNatClampNeg) dX12_stage_23 (s12_5 sh535) (h1 q1) rfl ?_
    refine g_goto 28 dX12_stage_24 (by decide) ?_
    exact g_iret dX12_stage_28 rfl enSH (h2 q1)
  · refine g_if_eq 27 dX12_stage_15 (by decide) (fun q3 => ?_) (fun q3 => absurd q3 (by decide))
    refine g_iconst (v := -1) dX12_stage_27 (by decide) ?_
    exact g_iret dX12_stage_28 rfl enSH (h3 q1)
theorem bX12_count_0 {X : pX} {Q : Option Value → pMem → Prop} {m : pMem} {x1 : Int32} (hW : Wf m)
    (h1 : x1 = 0 → Q (some (.int (mI m 536 1))) m)
    (h2 : ¬ x1 = 0 → x1 = 1 → Q (some (.int (mI m 536 2))) m)
    (h3 : ¬ x1 = 0 → ¬ x1 = 1 → x1 = 2 → Q (some (.int (mI m 536 3))) m)
    (h4 : ¬ x1 = 0 → ¬ x1 = 1 → ¬ x1 = 2 → x1 = 3 → Q (some (.int (mI m 536 4))) m)
    (h5 : ¬ x1 = 0 → ¬ x1 = 1 → ¬ x1 = 2 → ¬ x1 = 3 → x1 = 4 → Q (some (.int (mI m 535 23))) m)
    (h6 : ¬ x1 = 0 → ¬ x1 = 1 → ¬ x1 = 2 → ¬ x1 = 3 → ¬ x1 = 4 → x1 = 5 → Q (some (.int (mI m 536 8))) m)
    (h7 : ¬ x1 = 0 → ¬ x1 = 1 → ¬ x1 = 2 → ¬ x1 = 3 → ¬ x1 = 4 → ¬ x1 = 5 → x1 = 6 → Q (some (.int (mI m 536 5))) m)
    (h8 : ¬ x1 = 0 → ¬ x1 = 1 → ¬ x1 = 2 → ¬ x1 = 3 → ¬ x1 = 4 → ¬ x1 = 5 → ¬ x1 = 6 → x1 = 7 → vp_in (mI m 536 3) 5)
    (h9 : ¬ x1 = 0 → ¬ x1 = 1 → ¬ x1 = 2 → ¬ x1 = 3 → ¬ x1 = 4 → ¬ x1 = 5 → ¬ x1 = 6 → x1 = 7 → Q (some (.int (tAt (mI m 537) (mI m 536 2) (mI m 536 3).toNatClampNeg))) m)
    (h10 : ¬ x1 = 0 → ¬ x1 = 1 → ¬ x1 = 2 → ¬ x1 = 3 → ¬ x1 = 4 → ¬ x1 = 5 → ¬ x1 = 6 → ¬ x1 = 7 → x1 = 8 → vp_in (mI m 536 3) 5)
    (h11 : ¬ x1 = 0 → ¬ x1 = 1 → ¬ x1 = 2 → ¬ x1 = 3 → ¬ x1 = 4 → ¬ x1 = 5 → ¬ x1 = 6 → ¬ x1 = 7 → x1 = 8 → vp_in (mI m 536 4) 7)
    (h12 : ¬ x1 = 0 → ¬ x1 = 1 → ¬ x1 = 2 → ¬ x1 = 3 → ¬ x1 = 4 → ¬ x1 = 5 → ¬ x1 = 6 → ¬ x1 = 7 → x1 = 8 → Q (some (.int (wTown (mI m 543) (mI m 537) (mI m 539) (mI m 536 2) (mI m 536 4).toNatClampNeg (mI m 536 3).toNatClampNeg))) m)
    (h13 : ¬ x1 = 0 → ¬ x1 = 1 → ¬ x1 = 2 → ¬ x1 = 3 → ¬ x1 = 4 → ¬ x1 = 5 → ¬ x1 = 6 → ¬ x1 = 7 → ¬ x1 = 8 → x1 = 9 → vp_in (mI m 536 4) 7)
    (h14 : ¬ x1 = 0 → ¬ x1 = 1 → ¬ x1 = 2 → ¬ x1 = 3 → ¬ x1 = 4 → ¬ x1 = 5 → ¬ x1 = 6 → ¬ x1 = 7 → ¬ x1 = 8 → x1 = 9 → Q (some (.int (tAt (mI m 539) (-1 : Int32) (mI m 536 4).toNatClampNeg))) m)
    (h15 : ¬ x1 = 0 → ¬ x1 = 1 → ¬ x1 = 2 → ¬ x1 = 3 → ¬ x1 = 4 → ¬ x1 = 5 → ¬ x1 = 6 → ¬ x1 = 7 → ¬ x1 = 8 → ¬ x1 = 9 → x1 = 10 → Q (some (.int (mI m 536 6))) m)
    (h16 : ¬ x1 = 0 → ¬ x1 = 1 → ¬ x1 = 2 → ¬ x1 = 3 → ¬ x1 = 4 → ¬ x1 = 5 → ¬ x1 = 6 → ¬ x1 = 7 → ¬ x1 = 8 → ¬ x1 = 9 → ¬ x1 = 10 → x1 = 11 → Q (some (.int (mI m 535 41))) m)
    (h17 : ¬ x1 = 0 → ¬ x1 = 1 → ¬ x1 = 2 → ¬ x1 = 3 → ¬ x1 = 4 → ¬ x1 = 5 → ¬ x1 = 6 → ¬ x1 = 7 → ¬ x1 = 8 → ¬ x1 = 9 → ¬ x1 = 10 → ¬ x1 = 11 → x1 = 12 → Q (some (.int (mI m 536 7))) m)
    (h18 : ¬ x1 = 0 → ¬ x1 = 1 → ¬ x1 = 2 → ¬ x1 = 3 → ¬ x1 = 4 → ¬ x1 = 5 → ¬ x1 = 6 → ¬ x1 = 7 → ¬ x1 = 8 → ¬ x1 = 9 → ¬ x1 = 10 → ¬ x1 = 11 → ¬ x1 = 12 → x1 = 13 → Q (some (.int (mI m 535 19))) m)
    (h19 : ¬ x1 = 0 → ¬ x1 = 1 → ¬ x1 = 2 → ¬ x1 = 3 → ¬ x1 = 4 → ¬ x1 = 5 → ¬ x1 = 6 → ¬ x1 = 7 → ¬ x1 = 8 → ¬ x1 = 9 → ¬ x1 = 10 → ¬ x1 = 11 → ¬ x1 = 12 → ¬ x1 = 13 → Q (some (.int (-1 : Int32))) m) :
    Go X 3 mX12_count Q 0 [(0, .ref 535), (1, .int x1)] [] m := by
  refine g_iload_n 1 dX12_count_0 rfl rfl ?_
  by_cases q1 : x1 = 0
  · refine g_tabIn 72 dX12_count_1 (by rw [q1]; decide) (by rw [q1]; decide) (by rw [q1]; rfl) (by decide) ?_
    refine g_aload_n 0 dX12_count_72 rfl rfl ?_
    refine g_getR dX12_count_73 fl12_9 rfl sh535 (w12_1 hW sh535) ?_
    refine g_iconst (v := 1) dX12_count_76 (by decide) ?_
    refine g_iald (j := 1) dX12_count_77 (s12_1 sh535) (by unfold vp_in; decide) (by decide) ?_
    exact g_iret dX12_count_78 rfl enSH (h1 q1)
  by_cases q2 : x1 = 1
  · refine g_tabIn 79 dX12_count_1 (by rw [q2]; decide) (by rw [q2]; decide) (by rw [q2]; rfl) (by decide) ?_
    refine g_aload_n 0 dX12_count_79 rfl rfl ?_
    refine g_getR dX12_count_80 fl12_9 rfl sh535 (w12_1 hW sh535) ?_
    refine g_iconst (v := 2) dX12_count_83 (by decide) ?_
    refine g_iald (j := 2) dX12_count_84 (s12_1 sh535) (by unfold vp_in; decide) (by decide) ?_
    exact g_iret dX12_count_85 rfl enSH (h2 q1 q2)
  by_cases q3 : x1 = 2
  · refine g_tabIn 86 dX12_count_1 (by rw [q3]; decide) (by rw [q3]; decide) (by rw [q3]; rfl) (by decide) ?_
    refine g_aload_n 0 dX12_count_86 rfl rfl ?_
    refine g_getR dX12_count_87 fl12_9 rfl sh535 (w12_1 hW sh535) ?_
    refine g_iconst (v := 3) dX12_count_90 (by decide) ?_
    refine g_iald (j := 3) dX12_count_91 (s12_1 sh535) (by unfold vp_in; decide) (by decide) ?_
    exact g_iret dX12_count_92 rfl enSH (h3 q1 q2 q3)
  by_cases q4 : x1 = 3
  · refine g_tabIn 93 dX12_count_1 (by rw [q4]; decide) (by rw [q4]; decide) (by rw [q4]; rfl) (by decide) ?_
    refine g_aload_n 0 dX12_count_93 rfl rfl ?_
    refine g_getR dX12_count_94 fl12_9 rfl sh535 (w12_1 hW sh535) ?_
    refine g_iconst (v := 4) dX12_count_97 (by decide) ?_
    refine g_iald (j := 4) dX12_count_98 (s12_1 sh535) (by unfold vp_in; decide) (by decide) ?_
    exact g_iret dX12_count_99 rfl enSH (h4 q1 q2 q3 q4)
  by_cases q5 : x1 = 4
  · refine g_tabIn 100 dX12_count_1 (by rw [q5]; decide) (by rw [q5]; decide) (by rw [q5]; rfl) (by decide) ?_
    refine g_aload_n 0 dX12_count_100 rfl rfl ?_
    refine g_getI dX12_count_101 fl12_312 sh535 ?_
    exact g_iret dX12_count_104 rfl enSH (h5 q1 q2 q3 q4 q5)
  by_cases q6 : x1 = 5
  · refine g_tabIn 105 dX12_count_1 (by rw [q6]; decide) (by rw [q6]; decide) (by rw [q6]; rfl) (by decide) ?_
    refine g_aload_n 0 dX12_count_105 rfl rfl ?_
    refine g_getR dX12_count_106 fl12_9 rfl sh535 (w12_1 hW sh535) ?_
    refine g_bipush (v := 8) dX12_count_109 (by decide) ?_
    refine g_iald (j := 8) dX12_count_111 (s12_1 sh535) (by unfold vp_in; decide) (by decide) ?_
    exact g_iret dX12_count_112 rfl enSH (h6 q1 q2 q3 q4 q5 q6)
  by_cases q7 : x1 = 6
  · refine g_tabIn 113 dX12_count_1 (by rw [q7]; decide) (by rw [q7]; decide) (by rw [q7]; rfl) (by decide) ?_
    refine g_aload_n 0 dX12_count_113 rfl rfl ?_
    refine g_getR dX12_count_114 fl12_9 rfl sh535 (w12_1 hW sh535) ?_
    refine g_iconst (v := 5) dX12_count_117 (by decide) ?_
    refine g_iald (j := 5) dX12_count_118 (s12_1 sh535) (by unfold vp_in; decide) (by decide) ?_
    exact g_iret dX12_count_119 rfl enSH (h7 q1 q2 q3 q4 q5 q6 q7)
  by_cases q8 : x1 = 7
  · refine g_tabIn 120 dX12_count_1 (by rw [q8]; decide) (by rw [q8]; decide) (by rw [q8]; rfl) (by decide) ?_
    refine g_aload_n 0 dX12_count_120 rfl rfl ?_
    refine g_callV (As := []) (st := []) dX12_count_121 clX12_481 sh535 rfl rfl (Nat.le_of_ble_eq_true rfl) (rmSH (by decide) (by decide)) (s_mInTown hW (h8 q1 q2 q3 q4 q5 q6 q7 q8) ?_)
    show Go X 3 mX12_count Q 124 [(0, .ref 535), (1, .int x1)] [.int (tAt (mI m 537) (mI m 536 2) (mI m 536 3).toNatClampNeg)] m
    exact g_iret dX12_count_124 rfl enSH (h9 q1 q2 q3 q4 q5 q6 q7 q8)
  by_cases q9 : x1 = 8
  · refine g_tabIn 125 dX12_count_1 (by rw [q9]; decide) (by rw [q9]; decide) (by rw [q9]; rfl) (by decide) ?_
    refine g_aload_n 0 dX12_count_125 rfl rfl ?_
    refine g_callV (As := []) (st := []) dX12_count_126 clX12_418 sh535 rfl rfl (Nat.le_of_ble_eq_true rfl) (rmSH (by decide) (by decide)) (s_wealthNow hW (h10 q1 q2 q3 q4 q5 q6 q7 q8 q9) (h11 q1 q2 q3 q4 q5 q6 q7 q8 q9) ?_)
    show Go X 3 mX12_count Q 129 [(0, .ref 535), (1, .int x1)] [.int (wTown (mI m 543) (mI m 537) (mI m 539) (mI m 536 2) (mI m 536 4).toNatClampNeg (mI m 536 3).toNatClampNeg)] m
    exact g_iret dX12_count_129 rfl enSH (h12 q1 q2 q3 q4 q5 q6 q7 q8 q9)
  by_cases q10 : x1 = 9
  · refine g_tabIn 130 dX12_count_1 (by rw [q10]; decide) (by rw [q10]; decide) (by rw [q10]; rfl) (by decide) ?_
    refine g_aload_n 0 dX12_count_130 rfl rfl ?_
    refine g_iconst (v := -1) dX12_count_131 (by decide) ?_
    refine g_callV (As := [.int (-1 : Int32)]) (st := []) dX12_count_132 clX12_338 sh535 rfl rfl (Nat.le_of_ble_eq_true rfl) (rmSH (by decide) (by decide)) (s_mThings hW (h13 q1 q2 q3 q4 q5 q6 q7 q8 q9 q10) ?_)
    show Go X 3 mX12_count Q 135 [(0, .ref 535), (1, .int x1)] [.int (tAt (mI m 539) (-1 : Int32) (mI m 536 4).toNatClampNeg)] m
    exact g_iret dX12_count_135 rfl enSH (h14 q1 q2 q3 q4 q5 q6 q7 q8 q9 q10)
  by_cases q11 : x1 = 10
  · refine g_tabIn 136 dX12_count_1 (by rw [q11]; decide) (by rw [q11]; decide) (by rw [q11]; rfl) (by decide) ?_
    refine g_aload_n 0 dX12_count_136 rfl rfl ?_
    refine g_getR dX12_count_137 fl12_9 rfl sh535 (w12_1 hW sh535) ?_
    refine g_bipush (v := 6) dX12_count_140 (by decide) ?_
    refine g_iald (j := 6) dX12_count_142 (s12_1 sh535) (by unfold vp_in; decide) (by decide) ?_
    exact g_iret dX12_count_143 rfl enSH (h15 q1 q2 q3 q4 q5 q6 q7 q8 q9 q10 q11)
  by_cases q12 : x1 = 11
  · refine g_tabIn 144 dX12_count_1 (by rw [q12]; decide) (by rw [q12]; decide) (by rw [q12]; rfl) (by decide) ?_
    refine g_aload_n 0 dX12_count_144 rfl rfl ?_
    refine g_getI dX12_count_145 fl12_299 sh535 ?_
    exact g_iret dX12_count_148 rfl enSH (h16 q1 q2 q3 q4 q5 q6 q7 q8 q9 q10 q11 q12)
  by_cases q13 : x1 = 12
  · refine g_tabIn 149 dX12_count_1 (by rw [q13]; decide) (by rw [q13]; decide) (by rw [q13]; rfl) (by decide) ?_
    refine g_aload_n 0 dX12_count_149 rfl rfl ?_
    refine g_getR dX12_count_150 fl12_9 rfl sh535 (w12_1 hW sh535) ?_
    refine g_bipush (v := 7) dX12_count_153 (by decide) ?_
    refine g_iald (j := 7) dX12_count_155 (s12_1 sh535) (by unfold vp_in; decide) (by decide) ?_
    exact g_iret dX12_count_156 rfl enSH (h17 q1 q2 q3 q4 q5 q6 q7 q8 q9 q10 q11 q12 q13)
  by_cases q14 : x1 = 13
  · refine g_tabIn 157 dX12_count_1 (by rw [q14]; decide) (by rw [q14]; decide) (by rw [q14]; rfl) (by decide) ?_
    refine g_aload_n 0 dX12_count_157 rfl rfl ?_
    refine g_getI dX12_count_158 fl12_132 sh535 ?_
    exact g_iret dX12_count_161 rfl enSH (h18 q1 q2 q3 q4 q5 q6 q7 q8 q9 q10 q11 q12 q13 q14)
  refine g_tabOut 162 dX12_count_1 (p_tabD (fun k hk1 hk2 => ?_)) (by decide) ?_
  · have hk : k = 0 ∨ k = 1 ∨ k = 2 ∨ k = 3 ∨ k = 4 ∨ k = 5 ∨ k = 6 ∨ k = 7 ∨ k = 8 ∨ k = 9 ∨ k = 10 ∨ k = 11 ∨ k = 12 ∨ k = 13 := by omega
    rcases hk with rfl | rfl | rfl | rfl | rfl | rfl | rfl | rfl | rfl | rfl | rfl | rfl | rfl | rfl
    · exact q1
    · exact q2
    · exact q3
    · exact q4
    · exact q5
    · exact q6
    · exact q7
    · exact q8
    · exact q9
    · exact q10
    · exact q11
    · exact q12
    · exact q13
    · exact q14
  refine g_iconst (v := -1) dX12_count_162 (by decide) ?_
  exact g_iret dX12_count_163 rfl enSH (h19 q1 q2 q3 q4 q5 q6 q7 q8 q9 q10 q11 q12 q13 q14)
theorem bX12_force_0 {X : pX} {Q : Option Value → pMem → Prop} {m : pMem} {x1 : Int32} (hW : Wf m)
    (h1 : ¬ x1 < (-1 : Int32) ∧ ¬ ((mI m 535 23) - (1 : Int32)) < x1 → Q (some (.int (mI m 536 8))) (uI m 536 8 x1))
    (h2 : ¬ (¬ x1 < (-1 : Int32) ∧ ¬ ((mI m 535 23) - (1 : Int32)) < x1) → Q (some (.int (-2 : Int32))) m) :
    Go X 1 mX12_force Q 0 [(0, .ref 535), (1, .int x1)] [] m := by
  refine g_iload_n 1 dX12_force_0 rfl rfl ?_
  refine g_i2l dX12_force_1 ?_
  refine g_ldc2 (v := -1) dX12_force_2 cjX12_318 ?_
  refine g_aload_n 0 dX12_force_5 rfl rfl ?_
  refine g_getI dX12_force_6 fl12_312 sh535 ?_
  refine g_iconst (v := 1) dX12_force_9 (by decide) ?_
  refine g_isub dX12_force_10 ?_
  refine g_i2l dX12_force_11 ?_
  refine g_callS (As := [.long x1.toInt64, .long (-1 : Int64), .long (((mI m 535 23) - (1 : Int32)).toInt64)]) (st := []) dX12_force_12 clX12_128 rfl rfl (Nat.le_of_ble_eq_true rfl) (rmSH (by decide) (by decide)) (s_in (x := x1) (lo := (-1 : Int32)) (hi := ((mI m 535 23) - (1 : Int32))) hW (by first | rfl | decide) (by first | rfl | decide) (by first | rfl | decide) (fun q1 => ?_) (fun q1 => ?_))
  · refine g_if_ne 21 dX12_force_15 (by decide) (fun q2 => ?_) (fun q2 => absurd q2 (by decide))
    refine g_aload_n 0 dX12_force_21 rfl rfl ?_
    refine g_getR dX12_force_22 fl12_9 rfl sh535 (w12_1 hW sh535) ?_
    refine g_bipush (v := 8) dX12_force_25 (by decide) ?_
    refine g_iald (j := 8) dX12_force_27 (s12_1 sh535) (by unfold vp_in; decide) (by decide) ?_
    refine g_istore_n (ls2 := [(2, .int (mI m 536 8)), (0, .ref 535), (1, .int x1)]) dX12_force_28 rfl (by decide) rfl ?_
    refine g_aload_n 1 dX12_force_29 rfl rfl ?_
    refine g_getR dX12_force_30 fl12_9 rfl sh535 (w12_1 hW sh535) ?_
    refine g_bipush (v := 8) dX12_force_33 (by decide) ?_
    refine g_iload_n 2 dX12_force_35 rfl rfl ?_
    refine g_iast (j := 8) dX12_force_36 (s12_1 sh535) (by unfold vp_in; decide) (by decide) ?_
    refine g_iload_n 0 dX12_force_37 rfl rfl ?_
    exact g_iret dX12_force_38 rfl enSH (h1 q1)
  · refine g_if_ne 21 dX12_force_15 (by decide) (fun q3 => absurd q3 (by decide)) (fun q3 => ?_)
    refine g_bipush (v := -2) dX12_force_18 (by decide) ?_
    exact g_iret dX12_force_20 rfl enSH (h2 q1)
theorem bX11_drop_0 {X : pX} {Q : Option Value → pMem → Prop} {m : pMem} {x1 : Int32} {x2 : Int32} (hW : Wf m)
    (h1 : ((¬ x1 < 0 ∧ ¬ mI m 31 3 ≤ x1 ∧ ¬ (4 : Int32) ≤ x1) ∧ mI m 39 x1.toNatClampNeg = 0) → ¬ x2 < 0 ∧ ¬ mI m 31 4 ≤ x2 ∧ ¬ (6 : Int32) ≤ x2 → vp_in x2 6)
    (h2 : ((¬ x1 < 0 ∧ ¬ mI m 31 3 ≤ x1 ∧ ¬ (4 : Int32) ≤ x1) ∧ mI m 39 x1.toNatClampNeg = 0) → ¬ x2 < 0 ∧ ¬ mI m 31 4 ≤ x2 ∧ ¬ (6 : Int32) ≤ x2 → (mI m 40 x2.toNatClampNeg) = x1 → Cl X 2 mX2_keep [.ref 41, .ref 37] m (fun v m2 => Go X 3 mX11_drop Q 53 [(0, .ref 0), (1, .int x1), (2, .int x2), (3, .ref 37)] (v.toList ++ []) m2))
    (h3 : ((¬ x1 < 0 ∧ ¬ mI m 31 3 ≤ x1 ∧ ¬ (4 : Int32) ≤ x1) ∧ mI m 39 x1.toNatClampNeg = 0) → ¬ x2 < 0 ∧ ¬ mI m 31 4 ≤ x2 ∧ ¬ (6 : Int32) ≤ x2 → ¬ ((mI m 40 x2.toNatClampNeg) = x1) → Q (some (.int (-1 : Int32))) m)
    (h4 : ((¬ x1 < 0 ∧ ¬ mI m 31 3 ≤ x1 ∧ ¬ (4 : Int32) ≤ x1) ∧ mI m 39 x1.toNatClampNeg = 0) → ¬ (¬ x2 < 0 ∧ ¬ mI m 31 4 ≤ x2 ∧ ¬ (6 : Int32) ≤ x2) → Q (some (.int (-1 : Int32))) m)
    (h5 : ¬ (((¬ x1 < 0 ∧ ¬ mI m 31 3 ≤ x1 ∧ ¬ (4 : Int32) ≤ x1) ∧ mI m 39 x1.toNatClampNeg = 0)) → Q (some (.int (-1 : Int32))) m) :
    Go X 3 mX11_drop Q 0 [(0, .ref 0), (1, .int x1), (2, .int x2)] [] m := by
  refine g_aload_n 0 dX11_drop_0 rfl rfl ?_
  refine g_getR dX11_drop_1 fl11_42 rfl sh0 (w11_5 hW sh0) ?_
  refine g_getR dX11_drop_4 fl11_69 rfl sh30 (w10_1 hW sh30) ?_
  refine g_astore_n (ls2 := [(3, .ref 37), (0, .ref 0), (1, .int x1), (2, .int x2)]) dX11_drop_7 rfl (by decide) rfl ?_
  refine g_aload_n 1 dX11_drop_8 rfl rfl ?_
  refine g_iload_n 2 dX11_drop_9 rfl rfl ?_
  refine g_callV (As := [.int x1]) (st := []) dX11_drop_10 clX11_233 sh0 rfl rfl (Nat.le_of_ble_eq_true rfl) (rmSH (by decide) (by decide)) (s_cAt hW (fun q1 => ?_) (fun q1 => ?_))
  · refine g_if_eq 40 dX11_drop_13 (by decide) (fun q2 => absurd q2 (by decide)) (fun q2 => ?_)
    refine g_aload_n 1 dX11_drop_16 rfl rfl ?_
    refine g_getR dX11_drop_17 fl11_42 rfl sh0 (w11_5 hW sh0) ?_
    refine g_getR dX11_drop_20 fl11_56 rfl sh30 (w10_0 hW sh30) ?_
    refine g_iload_n 3 dX11_drop_23 rfl rfl ?_
    refine g_callV (As := [.int x2]) (st := []) dX11_drop_24 clX11_158 (s10_0 sh30) rfl rfl (Nat.le_of_ble_eq_true rfl) (rmSH (by decide) (by decide)) (s_isThing hW (s10_0 sh30) (fun q3 => ?_) (fun q3 => ?_))
    · refine g_if_eq 40 dX11_drop_27 (by decide) (fun q4 => absurd q4 (by decide)) (fun q4 => ?_)
      refine g_aload_n 0 dX11_drop_30 rfl rfl ?_
      refine g_getR dX11_drop_31 fl11_167 rfl (s10_1 sh30) (w8_3 hW (s10_1 sh30)) ?_
      refine g_iload_n 3 dX11_drop_34 rfl rfl ?_
      refine g_iald (j := x2.toNatClampNeg) dX11_drop_35 (s8_3 (s10_1 sh30)) (h1 q1 q3) rfl ?_
      refine g_iload_n 2 dX11_drop_36 rfl rfl ?_
      refine g_icmp_eq 42 dX11_drop_37 (by decide) (fun q5 => ?_) (fun q5 => ?_)
      · refine g_aload_n 1 dX11_drop_42 rfl rfl ?_
        refine g_getR dX11_drop_43 fl11_42 rfl sh0 (w11_5 hW sh0) ?_
        refine g_getR dX11_drop_46 fl11_205 rfl sh30 (w10_2 hW sh30) ?_
        refine g_aload_n 0 dX11_drop_49 rfl rfl ?_
        refine g_ls [1, 2, 3, 0] (ls2 := [(0, .ref 0), (1, .int x1), (2, .int x2), (3, .ref 37)]) rfl ?_
        exact g_callV (As := [.ref 37]) (st := []) dX11_drop_50 clX11_221 (s10_2 sh30) rfl rfl (Nat.le_of_ble_eq_true rfl) (rmSH (by decide) (by decide)) (h2 q1 q3 q5)
      · refine g_iconst (v := -1) dX11_drop_40 (by decide) ?_
        exact g_iret dX11_drop_41 rfl enSH (h3 q1 q3 q5)
    · refine g_if_eq 40 dX11_drop_27 (by decide) (fun q6 => ?_) (fun q6 => absurd q6 (by decide))
      refine g_iconst (v := -1) dX11_drop_40 (by decide) ?_
      exact g_iret dX11_drop_41 rfl enSH (h4 q1 q3)
  · refine g_if_eq 40 dX11_drop_13 (by decide) (fun q7 => ?_) (fun q7 => absurd q7 (by decide))
    refine g_iconst (v := -1) dX11_drop_40 (by decide) ?_
    exact g_iret dX11_drop_41 rfl enSH (h5 q1)
theorem bX11_drop_53 {X : pX} {Q : Option Value → pMem → Prop} {m : pMem} {x1 : Int32} {x2 : Int32} {a3 : Nat} (hW : Wf m) (c3 : SH[a3]? = some (.inl 8))
    (h1 : vp_in x1 4)
    (h2 : vp_in x2 6)
    (h3 : Q (some (.int (nI (cnt (mI (uI m (a3 + 3) x2.toNatClampNeg ((10 : Int32) + (mI m (a3 + 1) x1.toNatClampNeg))) (a3 + 3)) x1 6)))) (uI m (a3 + 3) x2.toNatClampNeg ((10 : Int32) + (mI m (a3 + 1) x1.toNatClampNeg)))) :
    Go X 3 mX11_drop Q 53 [(0, .ref 0), (1, .int x1), (2, .int x2), (3, .ref a3)] [] m := by
  refine g_aload_n 3 dX11_drop_53 rfl rfl ?_
  refine g_getR dX11_drop_54 fl11_167 rfl c3 (w8_3 hW c3) ?_
  refine g_iload_n 2 dX11_drop_57 rfl rfl ?_
  refine g_bipush (v := 10) dX11_drop_58 (by decide) ?_
  refine g_aload_n 3 dX11_drop_60 rfl rfl ?_
  refine g_getR dX11_drop_61 fl11_146 rfl c3 (w8_1 hW c3) ?_
  refine g_iload_n 1 dX11_drop_64 rfl rfl ?_
  refine g_iald (j := x1.toNatClampNeg) dX11_drop_65 (s8_1 c3) h1 rfl ?_
  refine g_iadd dX11_drop_66 ?_
  refine g_iast (j := x2.toNatClampNeg) dX11_drop_67 (s8_3 c3) h2 rfl ?_
  refine g_aload_n 3 dX11_drop_68 rfl rfl ?_
  refine g_iload_n 1 dX11_drop_69 rfl rfl ?_
  refine g_callV (As := [.int x1]) (st := []) dX11_drop_70 clX11_236 c3 rfl rfl (Nat.le_of_ble_eq_true rfl) (rmSH (by decide) (by decide)) (s_manyOf hW c3 ?_)
  show Go X 3 mX11_drop Q 73 [(0, .ref 0), (1, .int x1), (2, .int x2), (3, .ref a3)] [.int (nI (cnt (mI (uI m (a3 + 3) x2.toNatClampNeg ((10 : Int32) + (mI m (a3 + 1) x1.toNatClampNeg))) (a3 + 3)) x1 6))] (uI m (a3 + 3) x2.toNatClampNeg ((10 : Int32) + (mI m (a3 + 1) x1.toNatClampNeg)))
  exact g_iret dX11_drop_73 rfl enSH h3
theorem bX11_take_0 {X : pX} {Q : Option Value → pMem → Prop} {m : pMem} {x1 : Int32} {x2 : Int32} (hW : Wf m)
    (h1 : ((¬ x1 < 0 ∧ ¬ mI m 31 3 ≤ x1 ∧ ¬ (4 : Int32) ≤ x1) ∧ mI m 39 x1.toNatClampNeg = 0) → ¬ x2 < 0 ∧ ¬ mI m 31 4 ≤ x2 ∧ ¬ (6 : Int32) ≤ x2 → ¬ mI m 31 1 ≤ nI (cnt (mI m 40) x1 6) → vp_in x2 6)
    (h2 : ((¬ x1 < 0 ∧ ¬ mI m 31 3 ≤ x1 ∧ ¬ (4 : Int32) ≤ x1) ∧ mI m 39 x1.toNatClampNeg = 0) → ¬ x2 < 0 ∧ ¬ mI m 31 4 ≤ x2 ∧ ¬ (6 : Int32) ≤ x2 → ¬ mI m 31 1 ≤ nI (cnt (mI m 40) x1 6) → vp_in x1 4)
    (h3 : ((¬ x1 < 0 ∧ ¬ mI m 31 3 ≤ x1 ∧ ¬ (4 : Int32) ≤ x1) ∧ mI m 39 x1.toNatClampNeg = 0) → ¬ x2 < 0 ∧ ¬ mI m 31 4 ≤ x2 ∧ ¬ (6 : Int32) ≤ x2 → ¬ mI m 31 1 ≤ nI (cnt (mI m 40) x1 6) → (mI m 40 x2.toNatClampNeg) = ((10 : Int32) + (mI m 38 x1.toNatClampNeg)) → Cl X 2 mX2_keep [.ref 41, .ref 37] m (fun v m2 => Go X 3 mX11_take Q 69 [(0, .ref 0), (1, .int x1), (2, .int x2), (3, .ref 37)] (v.toList ++ []) m2))
    (h4 : ((¬ x1 < 0 ∧ ¬ mI m 31 3 ≤ x1 ∧ ¬ (4 : Int32) ≤ x1) ∧ mI m 39 x1.toNatClampNeg = 0) → ¬ x2 < 0 ∧ ¬ mI m 31 4 ≤ x2 ∧ ¬ (6 : Int32) ≤ x2 → ¬ mI m 31 1 ≤ nI (cnt (mI m 40) x1 6) → ¬ ((mI m 40 x2.toNatClampNeg) = ((10 : Int32) + (mI m 38 x1.toNatClampNeg))) → Q (some (.int (-1 : Int32))) m)
    (h5 : ((¬ x1 < 0 ∧ ¬ mI m 31 3 ≤ x1 ∧ ¬ (4 : Int32) ≤ x1) ∧ mI m 39 x1.toNatClampNeg = 0) → ¬ x2 < 0 ∧ ¬ mI m 31 4 ≤ x2 ∧ ¬ (6 : Int32) ≤ x2 → ¬ (¬ mI m 31 1 ≤ nI (cnt (mI m 40) x1 6)) → Q (some (.int (-1 : Int32))) m)
    (h6 : ((¬ x1 < 0 ∧ ¬ mI m 31 3 ≤ x1 ∧ ¬ (4 : Int32) ≤ x1) ∧ mI m 39 x1.toNatClampNeg = 0) → ¬ (¬ x2 < 0 ∧ ¬ mI m 31 4 ≤ x2 ∧ ¬ (6 : Int32) ≤ x2) → Q (some (.int (-1 : Int32))) m)
    (h7 : ¬ (((¬ x1 < 0 ∧ ¬ mI m 31 3 ≤ x1 ∧ ¬ (4 : Int32) ≤ x1) ∧ mI m 39 x1.toNatClampNeg = 0)) → Q (some (.int (-1 : Int32))) m) :
    Go X 3 mX11_take Q 0 [(0, .ref 0), (1, .int x1), (2, .int x2)] [] m := by
  refine g_aload_n 0 dX11_take_0 rfl rfl ?_
  refine g_getR dX11_take_1 fl11_42 rfl sh0 (w11_5 hW sh0) ?_
  refine g_getR dX11_take_4 fl11_69 rfl sh30 (w10_1 hW sh30) ?_
  refine g_astore_n (ls2 := [(3, .ref 37), (0, .ref 0), (1, .int x1), (2, .int x2)]) dX11_take_7 rfl (by decide) rfl ?_
  refine g_aload_n 1 dX11_take_8 rfl rfl ?_
  refine g_iload_n 2 dX11_take_9 rfl rfl ?_
  refine g_callV (As := [.int x1]) (st := []) dX11_take_10 clX11_233 sh0 rfl rfl (Nat.le_of_ble_eq_true rfl) (rmSH (by decide) (by decide)) (s_cAt hW (fun q1 => ?_) (fun q1 => ?_))
  · refine g_if_eq 56 dX11_take_13 (by decide) (fun q2 => absurd q2 (by decide)) (fun q2 => ?_)
    refine g_aload_n 1 dX11_take_16 rfl rfl ?_
    refine g_getR dX11_take_17 fl11_42 rfl sh0 (w11_5 hW sh0) ?_
    refine g_getR dX11_take_20 fl11_56 rfl sh30 (w10_0 hW sh30) ?_
    refine g_iload_n 3 dX11_take_23 rfl rfl ?_
    refine g_callV (As := [.int x2]) (st := []) dX11_take_24 clX11_158 (s10_0 sh30) rfl rfl (Nat.le_of_ble_eq_true rfl) (rmSH (by decide) (by decide)) (s_isThing hW (s10_0 sh30) (fun q3 => ?_) (fun q3 => ?_))
    · refine g_if_eq 56 dX11_take_27 (by decide) (fun q4 => absurd q4 (by decide)) (fun q4 => ?_)
      refine g_aload_n 1 dX11_take_30 rfl rfl ?_
      refine g_iload_n 2 dX11_take_31 rfl rfl ?_
      refine g_callV (As := [.int x1]) (st := []) dX11_take_32 clX11_239 sh0 rfl rfl (Nat.le_of_ble_eq_true rfl) (rmSH (by decide) (by decide)) (s_cHand hW (fun q5 => ?_) (fun q5 => ?_))
      · refine g_if_eq 56 dX11_take_35 (by decide) (fun q6 => absurd q6 (by decide)) (fun q6 => ?_)
        refine g_aload_n 0 dX11_take_38 rfl rfl ?_
        refine g_getR dX11_take_39 fl11_167 rfl (s10_1 sh30) (w8_3 hW (s10_1 sh30)) ?_
        refine g_iload_n 3 dX11_take_42 rfl rfl ?_
        refine g_iald (j := x2.toNatClampNeg) dX11_take_43 (s8_3 (s10_1 sh30)) (h1 q1 q3 q5) rfl ?_
        refine g_bipush (v := 10) dX11_take_44 (by decide) ?_
        refine g_aload_n 0 dX11_take_46 rfl rfl ?_
        refine g_getR dX11_take_47 fl11_146 rfl (s10_1 sh30) (w8_1 hW (s10_1 sh30)) ?_
        refine g_iload_n 2 dX11_take_50 rfl rfl ?_
        refine g_iald (j := x1.toNatClampNeg) dX11_take_51 (s8_1 (s10_1 sh30)) (h2 q1 q3 q5) rfl ?_
        refine g_iadd dX11_take_52 ?_
        refine g_icmp_eq 58 dX11_take_53 (by decide) (fun q7 => ?_) (fun q7 => ?_)
        · refine g_aload_n 1 dX11_take_58 rfl rfl ?_
          refine g_getR dX11_take_59 fl11_42 rfl sh0 (w11_5 hW sh0) ?_
          refine g_getR dX11_take_62 fl11_205 rfl sh30 (w10_2 hW sh30) ?_
          refine g_aload_n 0 dX11_take_65 rfl rfl ?_
          refine g_ls [1, 2, 3, 0] (ls2 := [(0, .ref 0), (1, .int x1), (2, .int x2), (3, .ref 37)]) rfl ?_
          exact g_callV (As := [.ref 37]) (st := []) dX11_take_66 clX11_221 (s10_2 sh30) rfl rfl (Nat.le_of_ble_eq_true rfl) (rmSH (by decide) (by decide)) (h3 q1 q3 q5 q7)
        · refine g_iconst (v := -1) dX11_take_56 (by decide) ?_
          exact g_iret dX11_take_57 rfl enSH (h4 q1 q3 q5 q7)
      · refine g_if_eq 56 dX11_take_35 (by decide) (fun q8 => ?_) (fun q8 => absurd q8 (by decide))
        refine g_iconst (v := -1) dX11_take_56 (by decide) ?_
        exact g_iret dX11_take_57 rfl enSH (h5 q1 q3 q5)
    · refine g_if_eq 56 dX11_take_27 (by decide) (fun q9 => ?_) (fun q9 => absurd q9 (by decide))
      refine g_iconst (v := -1) dX11_take_56 (by decide) ?_
      exact g_iret dX11_take_57 rfl enSH (h6 q1 q3)
  · refine g_if_eq 56 dX11_take_13 (by decide) (fun q10 => ?_) (fun q10 => absurd q10 (by decide))
    refine g_iconst (v := -1) dX11_take_56 (by decide) ?_
    exact g_iret dX11_take_57 rfl enSH (h7 q1)
theorem bX11_take_69 {X : pX} {Q : Option Value → pMem → Prop} {m : pMem} {x1 : Int32} {x2 : Int32} {a3 : Nat} (hW : Wf m) (c3 : SH[a3]? = some (.inl 8))
    (h1 : vp_in x2 6)
    (h2 : Q (some (.int (nI (cnt (mI (uI m (a3 + 3) x2.toNatClampNeg x1) (a3 + 3)) x1 6)))) (uI m (a3 + 3) x2.toNatClampNeg x1)) :
    Go X 3 mX11_take Q 69 [(0, .ref 0), (1, .int x1), (2, .int x2), (3, .ref a3)] [] m := by
  refine g_aload_n 3 dX11_take_69 rfl rfl ?_
  refine g_getR dX11_take_70 fl11_167 rfl c3 (w8_3 hW c3) ?_
  refine g_iload_n 2 dX11_take_73 rfl rfl ?_
  refine g_iload_n 1 dX11_take_74 rfl rfl ?_
  refine g_iast (j := x2.toNatClampNeg) dX11_take_75 (s8_3 c3) h1 rfl ?_
  refine g_aload_n 3 dX11_take_76 rfl rfl ?_
  refine g_iload_n 1 dX11_take_77 rfl rfl ?_
  refine g_callV (As := [.int x1]) (st := []) dX11_take_78 clX11_236 c3 rfl rfl (Nat.le_of_ble_eq_true rfl) (rmSH (by decide) (by decide)) (s_manyOf hW c3 ?_)
  show Go X 3 mX11_take Q 81 [(0, .ref 0), (1, .int x1), (2, .int x2), (3, .ref a3)] [.int (nI (cnt (mI (uI m (a3 + 3) x2.toNatClampNeg x1) (a3 + 3)) x1 6))] (uI m (a3 + 3) x2.toNatClampNeg x1)
  exact g_iret dX11_take_81 rfl enSH h2
theorem bX11_give_0 {X : pX} {Q : Option Value → pMem → Prop} {m : pMem} {x1 : Int32} {x2 : Int32} {x3 : Int32} (hW : Wf m)
    (h1 : ¬ x1 = x2 ∧ ((¬ x1 < 0 ∧ ¬ mI m 31 3 ≤ x1 ∧ ¬ (4 : Int32) ≤ x1) ∧ mI m 39 x1.toNatClampNeg = 0) ∧ ((¬ x2 < 0 ∧ ¬ mI m 31 3 ≤ x2 ∧ ¬ (4 : Int32) ≤ x2) ∧ mI m 39 x2.toNatClampNeg = 0) ∧ mI m 38 x1.toNatClampNeg = mI m 38 x2.toNatClampNeg → ¬ x3 < 0 ∧ ¬ mI m 31 4 ≤ x3 ∧ ¬ (6 : Int32) ≤ x3 → ¬ mI m 31 1 ≤ nI (cnt (mI m 40) x2 6) → vp_in x3 6)
    (h2 : ¬ x1 = x2 ∧ ((¬ x1 < 0 ∧ ¬ mI m 31 3 ≤ x1 ∧ ¬ (4 : Int32) ≤ x1) ∧ mI m 39 x1.toNatClampNeg = 0) ∧ ((¬ x2 < 0 ∧ ¬ mI m 31 3 ≤ x2 ∧ ¬ (4 : Int32) ≤ x2) ∧ mI m 39 x2.toNatClampNeg = 0) ∧ mI m 38 x1.toNatClampNeg = mI m 38 x2.toNatClampNeg → ¬ x3 < 0 ∧ ¬ mI m 31 4 ≤ x3 ∧ ¬ (6 : Int32) ≤ x3 → ¬ mI m 31 1 ≤ nI (cnt (mI m 40) x2 6) → (mI m 40 x3.toNatClampNeg) = x1 → Cl X 2 mX2_keep [.ref 41, .ref 37] m (fun v m2 => Go X 3 mX11_give Q 65 [(0, .ref 0), (1, .int x1), (2, .int x2), (3, .int x3), (4, .ref 37)] (v.toList ++ []) m2))
    (h3 : ¬ x1 = x2 ∧ ((¬ x1 < 0 ∧ ¬ mI m 31 3 ≤ x1 ∧ ¬ (4 : Int32) ≤ x1) ∧ mI m 39 x1.toNatClampNeg = 0) ∧ ((¬ x2 < 0 ∧ ¬ mI m 31 3 ≤ x2 ∧ ¬ (4 : Int32) ≤ x2) ∧ mI m 39 x2.toNatClampNeg = 0) ∧ mI m 38 x1.toNatClampNeg = mI m 38 x2.toNatClampNeg → ¬ x3 < 0 ∧ ¬ mI m 31 4 ≤ x3 ∧ ¬ (6 : Int32) ≤ x3 → ¬ mI m 31 1 ≤ nI (cnt (mI m 40) x2 6) → ¬ ((mI m 40 x3.toNatClampNeg) = x1) → Q (some (.int (-1 : Int32))) m)
    (h4 : ¬ x1 = x2 ∧ ((¬ x1 < 0 ∧ ¬ mI m 31 3 ≤ x1 ∧ ¬ (4 : Int32) ≤ x1) ∧ mI m 39 x1.toNatClampNeg = 0) ∧ ((¬ x2 < 0 ∧ ¬ mI m 31 3 ≤ x2 ∧ ¬ (4 : Int32) ≤ x2) ∧ mI m 39 x2.toNatClampNeg = 0) ∧ mI m 38 x1.toNatClampNeg = mI m 38 x2.toNatClampNeg → ¬ x3 < 0 ∧ ¬ mI m 31 4 ≤ x3 ∧ ¬ (6 : Int32) ≤ x3 → ¬ (¬ mI m 31 1 ≤ nI (cnt (mI m 40) x2 6)) → Q (some (.int (-1 : Int32))) m)
    (h5 : ¬ x1 = x2 ∧ ((¬ x1 < 0 ∧ ¬ mI m 31 3 ≤ x1 ∧ ¬ (4 : Int32) ≤ x1) ∧ mI m 39 x1.toNatClampNeg = 0) ∧ ((¬ x2 < 0 ∧ ¬ mI m 31 3 ≤ x2 ∧ ¬ (4 : Int32) ≤ x2) ∧ mI m 39 x2.toNatClampNeg = 0) ∧ mI m 38 x1.toNatClampNeg = mI m 38 x2.toNatClampNeg → ¬ (¬ x3 < 0 ∧ ¬ mI m 31 4 ≤ x3 ∧ ¬ (6 : Int32) ≤ x3) → Q (some (.int (-1 : Int32))) m)
    (h6 : ¬ (¬ x1 = x2 ∧ ((¬ x1 < 0 ∧ ¬ mI m 31 3 ≤ x1 ∧ ¬ (4 : Int32) ≤ x1) ∧ mI m 39 x1.toNatClampNeg = 0) ∧ ((¬ x2 < 0 ∧ ¬ mI m 31 3 ≤ x2 ∧ ¬ (4 : Int32) ≤ x2) ∧ mI m 39 x2.toNatClampNeg = 0) ∧ mI m 38 x1.toNatClampNeg = mI m 38 x2.toNatClampNeg) → Q (some (.int (-1 : Int32))) m) :
    Go X 3 mX11_give Q 0 [(0, .ref 0), (1, .int x1), (2, .int x2), (3, .int x3)] [] m := by
  refine g_aload_n 0 dX11_give_0 rfl rfl ?_
  refine g_getR dX11_give_1 fl11_42 rfl sh0 (w11_5 hW sh0) ?_
  refine g_getR dX11_give_4 fl11_69 rfl sh30 (w10_1 hW sh30) ?_
  refine g_astore (ls2 := [(4, .ref 37), (0, .ref 0), (1, .int x1), (2, .int x2), (3, .int x3)]) dX11_give_7 (by decide) rfl ?_
  refine g_aload_n 1 dX11_give_9 rfl rfl ?_
  refine g_iload_n 2 dX11_give_10 rfl rfl ?_
  refine g_iload_n 3 dX11_give_11 rfl rfl ?_
  refine g_callV (As := [.int x1, .int x2]) (st := []) dX11_give_12 clX11_242 sh0 rfl rfl (Nat.le_of_ble_eq_true rfl) (rmSH (by decide) (by decide)) (s_cTog hW (fun q1 => ?_) (fun q1 => ?_))
  · refine g_if_eq 51 dX11_give_15 (by decide) (fun q2 => absurd q2 (by decide)) (fun q2 => ?_)
    refine g_aload_n 1 dX11_give_18 rfl rfl ?_
    refine g_getR dX11_give_19 fl11_42 rfl sh0 (w11_5 hW sh0) ?_
    refine g_getR dX11_give_22 fl11_56 rfl sh30 (w10_0 hW sh30) ?_
    refine g_iload_n 4 dX11_give_25 rfl rfl ?_
    refine g_callV (As := [.int x3]) (st := []) dX11_give_26 clX11_158 (s10_0 sh30) rfl rfl (Nat.le_of_ble_eq_true rfl) (rmSH (by decide) (by decide)) (s_isThing hW (s10_0 sh30) (fun q3 => ?_) (fun q3 => ?_))
    · refine g_if_eq 51 dX11_give_29 (by decide) (fun q4 => absurd q4 (by decide)) (fun q4 => ?_)
      refine g_aload_n 1 dX11_give_32 rfl rfl ?_
      refine g_iload_n 3 dX11_give_33 rfl rfl ?_
      refine g_callV (As := [.int x2]) (st := []) dX11_give_34 clX11_239 sh0 rfl rfl (Nat.le_of_ble_eq_true rfl) (rmSH (by decide) (by decide)) (s_cHand hW (fun q5 => ?_) (fun q5 => ?_))
      · refine g_if_eq 51 dX11_give_37 (by decide) (fun q6 => absurd q6 (by decide)) (fun q6 => ?_)
        refine g_aload 0 dX11_give_40 rfl ?_
        refine g_getR dX11_give_42 fl11_167 rfl (s10_1 sh30) (w8_3 hW (s10_1 sh30)) ?_
        refine g_iload_n 4 dX11_give_45 rfl rfl ?_
        refine g_iald (j := x3.toNatClampNeg) dX11_give_46 (s8_3 (s10_1 sh30)) (h1 q1 q3 q5) rfl ?_
        refine g_iload_n 2 dX11_give_47 rfl rfl ?_
        refine g_icmp_eq 53 dX11_give_48 (by decide) (fun q7 => ?_) (fun q7 => ?_)
        · refine g_aload_n 1 dX11_give_53 rfl rfl ?_
          refine g_getR dX11_give_54 fl11_42 rfl sh0 (w11_5 hW sh0) ?_
          refine g_getR dX11_give_57 fl11_205 rfl sh30 (w10_2 hW sh30) ?_
          refine g_aload 0 dX11_give_60 rfl ?_
          refine g_ls [1, 2, 3, 4, 0] (ls2 := [(0, .ref 0), (1, .int x1), (2, .int x2), (3, .int x3), (4, .ref 37)]) rfl ?_
          exact g_callV (As := [.ref 37]) (st := []) dX11_give_62 clX11_221 (s10_2 sh30) rfl rfl (Nat.le_of_ble_eq_true rfl) (rmSH (by decide) (by decide)) (h2 q1 q3 q5 q7)
        · refine g_iconst (v := -1) dX11_give_51 (by decide) ?_
          exact g_iret dX11_give_52 rfl enSH (h3 q1 q3 q5 q7)
      · refine g_if_eq 51 dX11_give_37 (by decide) (fun q8 => ?_) (fun q8 => absurd q8 (by decide))
        refine g_iconst (v := -1) dX11_give_51 (by decide) ?_
        exact g_iret dX11_give_52 rfl enSH (h4 q1 q3 q5)
    · refine g_if_eq 51 dX11_give_29 (by decide) (fun q9 => ?_) (fun q9 => absurd q9 (by decide))
      refine g_iconst (v := -1) dX11_give_51 (by decide) ?_
      exact g_iret dX11_give_52 rfl enSH (h5 q1 q3)
  · refine g_if_eq 51 dX11_give_15 (by decide) (fun q10 => ?_) (fun q10 => absurd q10 (by decide))
    refine g_iconst (v := -1) dX11_give_51 (by decide) ?_
    exact g_iret dX11_give_52 rfl enSH (h6 q1)
theorem bX11_give_65 {X : pX} {Q : Option Value → pMem → Prop} {m : pMem} {x1 : Int32} {x2 : Int32} {x3 : Int32} {a4 : Nat} (hW : Wf m) (c4 : SH[a4]? = some (.inl 8))
    (h1 : vp_in x3 6)
    (h2 : Q (some (.int (nI (cnt (mI (uI m (a4 + 3) x3.toNatClampNeg x2) (a4 + 3)) x2 6)))) (uI m (a4 + 3) x3.toNatClampNeg x2)) :
    Go X 3 mX11_give Q 65 [(0, .ref 0), (1, .int x1), (2, .int x2), (3, .int x3), (4, .ref a4)] [] m := by
  refine g_aload 4 dX11_give_65 rfl ?_
  refine g_getR dX11_give_67 fl11_167 rfl c4 (w8_3 hW c4) ?_
  refine g_iload_n 3 dX11_give_70 rfl rfl ?_
  refine g_iload_n 2 dX11_give_71 rfl rfl ?_
  refine g_iast (j := x3.toNatClampNeg) dX11_give_72 (s8_3 c4) h1 rfl ?_
  refine g_aload 4 dX11_give_73 rfl ?_
  refine g_iload_n 2 dX11_give_75 rfl rfl ?_
  refine g_callV (As := [.int x2]) (st := []) dX11_give_76 clX11_236 c4 rfl rfl (Nat.le_of_ble_eq_true rfl) (rmSH (by decide) (by decide)) (s_manyOf hW c4 ?_)
  show Go X 3 mX11_give Q 79 [(0, .ref 0), (1, .int x1), (2, .int x2), (3, .int x3), (4, .ref a4)] [.int (nI (cnt (mI (uI m (a4 + 3) x3.toNatClampNeg x2) (a4 + 3)) x2 6))] (uI m (a4 + 3) x3.toNatClampNeg x2)
  exact g_iret dX11_give_79 rfl enSH h2
theorem bX11_rob_0 {X : pX} {Q : Option Value → pMem → Prop} {m : pMem} {x1 : Int32} (hW : Wf m)
    (h1 : ¬ x1 < 0 ∧ ¬ mI m 31 4 ≤ x1 ∧ ¬ (6 : Int32) ≤ x1 → vp_in x1 6)
    (h2 : ¬ x1 < 0 ∧ ¬ mI m 31 4 ≤ x1 ∧ ¬ (6 : Int32) ≤ x1 → ¬ (mI m 40 x1.toNatClampNeg) = (-1 : Int32) → vp_in x1 6)
    (h3 : ¬ x1 < 0 ∧ ¬ mI m 31 4 ≤ x1 ∧ ¬ (6 : Int32) ≤ x1 → ¬ (mI m 40 x1.toNatClampNeg) = (-1 : Int32) → Cl X 2 mX2_keep [.ref 41, .ref 37] m (fun v m2 => Go X 3 mX11_rob Q 53 [(0, .ref 0), (1, .int x1), (2, .ref 37), (3, .int (mI m 40 x1.toNatClampNeg))] (v.toList ++ []) m2))
    (h4 : ¬ x1 < 0 ∧ ¬ mI m 31 4 ≤ x1 ∧ ¬ (6 : Int32) ≤ x1 → (mI m 40 x1.toNatClampNeg) = (-1 : Int32) → Q (some (.int (-2 : Int32))) m)
    (h5 : ¬ (¬ x1 < 0 ∧ ¬ mI m 31 4 ≤ x1 ∧ ¬ (6 : Int32) ≤ x1) → Q (some (.int (-2 : Int32))) m) :
    Go X 3 mX11_rob Q 0 [(0, .ref 0), (1, .int x1)] [] m := by
  refine g_aload_n 0 dX11_rob_0 rfl rfl ?_
  refine g_getR dX11_rob_1 fl11_42 rfl sh0 (w11_5 hW sh0) ?_
  refine g_getR dX11_rob_4 fl11_69 rfl sh30 (w10_1 hW sh30) ?_
  refine g_astore_n (ls2 := [(2, .ref 37), (0, .ref 0), (1, .int x1)]) dX11_rob_7 rfl (by decide) rfl ?_
  refine g_aload_n 1 dX11_rob_8 rfl rfl ?_
  refine g_getR dX11_rob_9 fl11_42 rfl sh0 (w11_5 hW sh0) ?_
  refine g_getR dX11_rob_12 fl11_56 rfl sh30 (w10_0 hW sh30) ?_
  refine g_iload_n 2 dX11_rob_15 rfl rfl ?_
  refine g_callV (As := [.int x1]) (st := []) dX11_rob_16 clX11_158 (s10_0 sh30) rfl rfl (Nat.le_of_ble_eq_true rfl) (rmSH (by decide) (by decide)) (s_isThing hW (s10_0 sh30) (fun q1 => ?_) (fun q1 => ?_))
  · refine g_if_eq 32 dX11_rob_19 (by decide) (fun q2 => absurd q2 (by decide)) (fun q2 => ?_)
    refine g_aload_n 0 dX11_rob_22 rfl rfl ?_
    refine g_getR dX11_rob_23 fl11_167 rfl (s10_1 sh30) (w8_3 hW (s10_1 sh30)) ?_
    refine g_iload_n 2 dX11_rob_26 rfl rfl ?_
    refine g_iald (j := x1.toNatClampNeg) dX11_rob_27 (s8_3 (s10_1 sh30)) (h1 q1) rfl ?_
    refine g_iconst (v := -1) dX11_rob_28 (by decide) ?_
    refine g_icmp_ne 35 dX11_rob_29 (by decide) (fun q3 => ?_) (fun q3 => ?_)
    · refine g_aload_n 0 dX11_rob_35 rfl rfl ?_
      refine g_getR dX11_rob_36 fl11_167 rfl (s10_1 sh30) (w8_3 hW (s10_1 sh30)) ?_
      refine g_iload_n 2 dX11_rob_39 rfl rfl ?_
      refine g_iald (j := x1.toNatClampNeg) dX11_rob_40 (s8_3 (s10_1 sh30)) (h2 q1 q3) rfl ?_
      refine g_istore_n (ls2 := [(3, .int (mI m 40 x1.toNatClampNeg)), (2, .ref 37), (0, .ref 0), (1, .int x1)]) dX11_rob_41 rfl (by decide) rfl ?_
      refine g_aload_n 2 dX11_rob_42 rfl rfl ?_
      refine g_getR dX11_rob_43 fl11_42 rfl sh0 (w11_5 hW sh0) ?_
      refine g_getR dX11_rob_46 fl11_205 rfl sh30 (w10_2 hW sh30) ?_
      refine g_aload_n 1 dX11_rob_49 rfl rfl ?_
      refine g_ls [2, 3, 1, 0] (ls2 := [(0, .ref 0), (1, .int x1), (2, .ref 37), (3, .int (mI m 40 x1.toNatClampNeg))]) rfl ?_
      exact g_callV (As := [.ref 37]) (st := []) dX11_rob_50 clX11_221 (s10_2 sh30) rfl rfl (Nat.le_of_ble_eq_true rfl) (rmSH (by decide) (by decide)) (h3 q1 q3)
    · refine g_bipush (v := -2) dX11_rob_32 (by decide) ?_
      exact g_iret dX11_rob_34 rfl enSH (h4 q1 q3)
  · refine g_if_eq 32 dX11_rob_19 (by decide) (fun q4 => ?_) (fun q4 => absurd q4 (by decide))
    refine g_bipush (v := -2) dX11_rob_32 (by decide) ?_
    exact g_iret dX11_rob_34 rfl enSH (h5 q1)
theorem bX11_rob_53 {X : pX} {Q : Option Value → pMem → Prop} {m : pMem} {x1 : Int32} {a2 : Nat} {x3 : Int32} (hW : Wf m) (c2 : SH[a2]? = some (.inl 8))
    (h1 : vp_in x1 6)
    (h2 : Q (some (.int x3)) (uI m (a2 + 3) x1.toNatClampNeg (-1 : Int32))) :
    Go X 3 mX11_rob Q 53 [(0, .ref 0), (1, .int x1), (2, .ref a2), (3, .int x3)] [] m := by
  refine g_aload_n 2 dX11_rob_53 rfl rfl ?_
  refine g_getR dX11_rob_54 fl11_167 rfl c2 (w8_3 hW c2) ?_
  refine g_iload_n 1 dX11_rob_57 rfl rfl ?_
  refine g_iconst (v := -1) dX11_rob_58 (by decide) ?_
  refine g_iast (j := x1.toNatClampNeg) dX11_rob_59 (s8_3 c2) h1 rfl ?_
  refine g_iload_n 3 dX11_rob_60 rfl rfl ?_
  exact g_iret dX11_rob_61 rfl enSH h2
theorem bX11_undo_0 {X : pX} {Q : Option Value → pMem → Prop} {m : pMem} (hW : Wf m)
    (h1 : ¬ (mI m 41 2) = 0 → Cl X 2 mX2_bringBack [.ref 41, .ref 37] m (fun v m2 => Go X 3 mX11_undo Q 33 [(0, .ref 0)] (v.toList ++ []) m2))
    (h2 : (mI m 41 2) = 0 → Q (some (.int (-2 : Int32))) m) :
    Go X 3 mX11_undo Q 0 [(0, .ref 0)] [] m := by
  refine g_aload_n 0 dX11_undo_0 rfl rfl ?_
  refine g_getR dX11_undo_1 fl11_42 rfl sh0 (w11_5 hW sh0) ?_
  refine g_getR dX11_undo_4 fl11_205 rfl sh30 (w10_2 hW sh30) ?_
  refine g_getI dX11_undo_7 fl11_209 (s10_2 sh30) ?_
  refine g_if_ne 16 dX11_undo_10 (by decide) (fun q1 => ?_) (fun q1 => ?_)
  · refine g_aload_n 0 dX11_undo_16 rfl rfl ?_
    refine g_getR dX11_undo_17 fl11_42 rfl sh0 (w11_5 hW sh0) ?_
    refine g_getR dX11_undo_20 fl11_205 rfl sh30 (w10_2 hW sh30) ?_
    refine g_aload_n 0 dX11_undo_23 rfl rfl ?_
    refine g_getR dX11_undo_24 fl11_42 rfl sh0 (w11_5 hW sh0) ?_
    refine g_getR dX11_undo_27 fl11_69 rfl sh30 (w10_1 hW sh30) ?_
    exact g_callV (As := [.ref 37]) (st := []) dX11_undo_30 clX11_246 (s10_2 sh30) rfl rfl (Nat.le_of_ble_eq_true rfl) (rmSH (by decide) (by decide)) (h1 q1)
  · refine g_bipush (v := -2) dX11_undo_13 (by decide) ?_
    exact g_iret dX11_undo_15 rfl enSH (h2 q1)
theorem bX11_undo_33 {X : pX} {Q : Option Value → pMem → Prop} {m : pMem} (hW : Wf m)
    (h1 : Q (some (.int (mI m 41 2))) m) :
    Go X 3 mX11_undo Q 33 [(0, .ref 0)] [] m := by
  refine g_aload_n 0 dX11_undo_33 rfl rfl ?_
  refine g_getR dX11_undo_34 fl11_42 rfl sh0 (w11_5 hW sh0) ?_
  refine g_getR dX11_undo_37 fl11_205 rfl sh30 (w10_2 hW sh30) ?_
  refine g_getI dX11_undo_40 fl11_209 (s10_2 sh30) ?_
  exact g_iret dX11_undo_43 rfl enSH h1
theorem bX11_day_0 {X : pX} {Q : Option Value → pMem → Prop} {m : pMem} (hW : Wf m)
    (h1 : (mI m 31 0) = 0 → Q (some (.int (-1 : Int32))) m)
    (h2 : ¬ ((mI m 31 0) = 0) → (mI m 37 0) < (999 : Int32) → Cl X 2 mX2_keep [.ref 41, .ref 37] m (fun v m2 => Go X 5 mX11_day Q 48 [(0, .ref 0)] (v.toList ++ []) m2))
    (h3 : ¬ ((mI m 31 0) = 0) → ¬ ((mI m 37 0) < (999 : Int32)) → Q (some (.int (-1 : Int32))) m) :
    Go X 5 mX11_day Q 0 [(0, .ref 0)] [] m := by
  refine g_aload_n 0 dX11_day_0 rfl rfl ?_
  refine g_getR dX11_day_1 fl11_42 rfl sh0 (w11_5 hW sh0) ?_
  refine g_getR dX11_day_4 fl11_56 rfl sh30 (w10_0 hW sh30) ?_
  refine g_getZ dX11_day_7 fl11_217 (s10_0 sh30) ?_
  refine g_if_eq 29 dX11_day_10 (by decide) (fun q1 => ?_) (fun q1 => ?_)
  · refine g_iconst (v := -1) dX11_day_29 (by decide) ?_
    exact g_iret dX11_day_30 rfl enSH (h1 q1)
  · refine g_aload_n 0 dX11_day_13 rfl rfl ?_
    refine g_getR dX11_day_14 fl11_42 rfl sh0 (w11_5 hW sh0) ?_
    refine g_getR dX11_day_17 fl11_69 rfl sh30 (w10_1 hW sh30) ?_
    refine g_getI dX11_day_20 fl11_185 (s10_1 sh30) ?_
    refine g_sipush (v := 999) dX11_day_23 (by decide) ?_
    refine g_icmp_lt 31 dX11_day_26 (by decide) (fun q2 => ?_) (fun q2 => ?_)
    · refine g_aload_n 0 dX11_day_31 rfl rfl ?_
      refine g_getR dX11_day_32 fl11_42 rfl sh0 (w11_5 hW sh0) ?_
      refine g_getR dX11_day_35 fl11_205 rfl sh30 (w10_2 hW sh30) ?_
      refine g_aload_n 0 dX11_day_38 rfl rfl ?_
      refine g_getR dX11_day_39 fl11_42 rfl sh0 (w11_5 hW sh0) ?_
      refine g_getR dX11_day_42 fl11_69 rfl sh30 (w10_1 hW sh30) ?_
      exact g_callV (As := [.ref 37]) (st := []) dX11_day_45 clX11_221 (s10_2 sh30) rfl rfl (Nat.le_of_ble_eq_true rfl) (rmSH (by decide) (by decide)) (h2 q1 q2)
    · refine g_iconst (v := -1) dX11_day_29 (by decide) ?_
      exact g_iret dX11_day_30 rfl enSH (h3 q1 q2)
theorem bX11_day_48 {X : pX} {Q : Option Value → pMem → Prop} {m : pMem} (hW : Wf m)
    (h1 : Cl X 1 mX11_inForce [.ref 0] m (fun v m2 => Go X 5 mX11_day Q 63 [(0, .ref 0)] (v.toList ++ [.ref 37, .ref 512]) m2)) :
    Go X 5 mX11_day Q 48 [(0, .ref 0)] [] m := by
  refine g_aload_n 0 dX11_day_48 rfl rfl ?_
  refine g_getR dX11_day_49 fl11_63 rfl sh0 (w11_8 hW sh0) ?_
  refine g_aload_n 0 dX11_day_52 rfl rfl ?_
  refine g_getR dX11_day_53 fl11_42 rfl sh0 (w11_5 hW sh0) ?_
  refine g_getR dX11_day_56 fl11_69 rfl sh30 (w10_1 hW sh30) ?_
  refine g_aload_n 0 dX11_day_59 rfl rfl ?_
  exact g_callV (As := []) (st := [.ref 37, .ref 512]) dX11_day_60 clX11_225 sh0 rfl rfl (Nat.le_of_ble_eq_true rfl) (rmSH (by decide) (by decide)) h1
theorem bX11_day_63 {X : pX} {Q : Option Value → pMem → Prop} {m : pMem} {as0 : Nat} {as1 : Nat} (hW : Wf m) (cs0 : SH[as0]? = some (.inl 6)) (cs1 : SH[as1]? = some (.inl 8))
    (h1 : Cl X 4 mX0_oneDay [.ref 512, .ref as1, .ref as0] m (fun v m2 => Go X 5 mX11_day Q 66 [(0, .ref 0)] (v.toList ++ []) m2)) :
    Go X 5 mX11_day Q 63 [(0, .ref 0)] [.ref as0, .ref as1, .ref 512] m := by
  exact g_callV (As := [.ref as1, .ref as0]) (st := []) dX11_day_63 clX11_229 sh512 rfl rfl (Nat.le_of_ble_eq_true rfl) (rmSH (by decide) (by decide)) h1
theorem bX11_day_63v1 {X : pX} {Q : Option Value → pMem → Prop} {m : pMem} {as1 : Nat} (hW : Wf m) (cs1 : SH[as1]? = some (.inl 8))
    (h1 : Cl X 4 mX0_oneDay [.ref 512, .ref as1, .null] m (fun v m2 => Go X 5 mX11_day Q 66 [(0, .ref 0)] (v.toList ++ []) m2)) :
    Go X 5 mX11_day Q 63 [(0, .ref 0)] [.null, .ref as1, .ref 512] m := by
  exact g_callV (As := [.ref as1, .null]) (st := []) dX11_day_63 clX11_229 sh512 rfl rfl (Nat.le_of_ble_eq_true rfl) (rmSH (by decide) (by decide)) h1
theorem bX11_day_66 {X : pX} {Q : Option Value → pMem → Prop} {m : pMem} {xs0 : Int32} (hW : Wf m)
    (h1 : Q (some (.int xs0)) m) :
    Go X 5 mX11_day Q 66 [(0, .ref 0)] [.int xs0] m := by
  exact g_iret dX11_day_66 rfl enSH h1
theorem bX12_drop_0 {X : pX} {Q : Option Value → pMem → Prop} {m : pMem} {x1 : Int32} {x2 : Int32} (hW : Wf m)
    (h1 : vp_in (mI m 536 3) 5)
    (h2 : ((¬ x1 < 0 ∧ ¬ (mI m 536 3 - (1 : Int32)) < x1) ∧ mI m 538 x1.toNatClampNeg = 0) → ¬ x2 < 0 ∧ ¬ (mI m 536 4 - (1 : Int32)) < x2 → vp_in x2 6)
    (h3 : ((¬ x1 < 0 ∧ ¬ (mI m 536 3 - (1 : Int32)) < x1) ∧ mI m 538 x1.toNatClampNeg = 0) → ¬ x2 < 0 ∧ ¬ (mI m 536 4 - (1 : Int32)) < x2 → (mI m 539 x2.toNatClampNeg) = x1 → Cl X 3 mX12_keepsAct [.ref 535] m (fun v m2 => Go X 4 mX12_drop Q 32 [(0, .ref 535), (1, .int x1), (2, .int x2)] (v.toList ++ []) m2))
    (h4 : ((¬ x1 < 0 ∧ ¬ (mI m 536 3 - (1 : Int32)) < x1) ∧ mI m 538 x1.toNatClampNeg = 0) → ¬ x2 < 0 ∧ ¬ (mI m 536 4 - (1 : Int32)) < x2 → ¬ ((mI m 539 x2.toNatClampNeg) = x1) → Q (some (.int (-1 : Int32))) m)
    (h5 : ((¬ x1 < 0 ∧ ¬ (mI m 536 3 - (1 : Int32)) < x1) ∧ mI m 538 x1.toNatClampNeg = 0) → ¬ (¬ x2 < 0 ∧ ¬ (mI m 536 4 - (1 : Int32)) < x2) → Q (some (.int (-1 : Int32))) m)
    (h6 : ¬ (((¬ x1 < 0 ∧ ¬ (mI m 536 3 - (1 : Int32)) < x1) ∧ mI m 538 x1.toNatClampNeg = 0)) → Q (some (.int (-1 : Int32))) m) :
    Go X 4 mX12_drop Q 0 [(0, .ref 535), (1, .int x1), (2, .int x2)] [] m := by
  refine g_aload_n 0 dX12_drop_0 rfl rfl ?_
  refine g_iload_n 1 dX12_drop_1 rfl rfl ?_
  refine g_callV (As := [.int x1]) (st := []) dX12_drop_2 clX12_395 sh535 rfl rfl (Nat.le_of_ble_eq_true rfl) (rmSH (by decide) (by decide)) (s_mAt hW h1 (fun q1 => ?_) (fun q1 => ?_))
  · refine g_if_eq 26 dX12_drop_5 (by decide) (fun q2 => absurd q2 (by decide)) (fun q2 => ?_)
    refine g_aload_n 0 dX12_drop_8 rfl rfl ?_
    refine g_iload_n 2 dX12_drop_9 rfl rfl ?_
    refine g_callV (As := [.int x2]) (st := []) dX12_drop_10 clX12_347 sh535 rfl rfl (Nat.le_of_ble_eq_true rfl) (rmSH (by decide) (by decide)) (s_mThing hW (fun q3 => ?_) (fun q3 => ?_))
    · refine g_if_eq 26 dX12_drop_13 (by decide) (fun q4 => absurd q4 (by decide)) (fun q4 => ?_)
      refine g_aload_n 0 dX12_drop_16 rfl rfl ?_
      refine g_getR dX12_drop_17 fl12_19 rfl sh535 (w12_4 hW sh535) ?_
      refine g_iload_n 2 dX12_drop_20 rfl rfl ?_
      refine g_iald (j := x2.toNatClampNeg) dX12_drop_21 (s12_4 sh535) (h2 q1 q3) rfl ?_
      refine g_iload_n 1 dX12_drop_22 rfl rfl ?_
      refine g_icmp_eq 28 dX12_drop_23 (by decide) (fun q5 => ?_) (fun q5 => ?_)
      · refine g_aload_n 0 dX12_drop_28 rfl rfl ?_
        exact g_callV (As := []) (st := []) dX12_drop_29 clX12_392 sh535 rfl rfl (Nat.le_of_ble_eq_true rfl) (rmSH (by decide) (by decide)) (h3 q1 q3 q5)
      · refine g_iconst (v := -1) dX12_drop_26 (by decide) ?_
        exact g_iret dX12_drop_27 rfl enSH (h4 q1 q3 q5)
    · refine g_if_eq 26 dX12_drop_13 (by decide) (fun q6 => ?_) (fun q6 => absurd q6 (by decide))
      refine g_iconst (v := -1) dX12_drop_26 (by decide) ?_
      exact g_iret dX12_drop_27 rfl enSH (h5 q1 q3)
  · refine g_if_eq 26 dX12_drop_5 (by decide) (fun q7 => ?_) (fun q7 => absurd q7 (by decide))
    refine g_iconst (v := -1) dX12_drop_26 (by decide) ?_
    exact g_iret dX12_drop_27 rfl enSH (h6 q1)
theorem bX12_drop_32 {X : pX} {Q : Option Value → pMem → Prop} {m : pMem} {x1 : Int32} {x2 : Int32} (hW : Wf m)
    (h1 : vp_in x1 4)
    (h2 : vp_in x2 6)
    (h3 : vp_in (mI m 536 4) 7)
    (h4 : sm64 (tAt (mI (uI m 539 x2.toNatClampNeg ((10 : Int32) + (mI m 537 x1.toNatClampNeg))) 539) x1 (mI m 536 4).toNatClampNeg))
    (h5 : Q (some (.int (pcI (tAt (mI (uI m 539 x2.toNatClampNeg ((10 : Int32) + (mI m 537 x1.toNatClampNeg))) 539) x1 (mI m 536 4).toNatClampNeg)))) (uI m 539 x2.toNatClampNeg ((10 : Int32) + (mI m 537 x1.toNatClampNeg)))) :
    Go X 4 mX12_drop Q 32 [(0, .ref 535), (1, .int x1), (2, .int x2)] [] m := by
  refine g_aload_n 0 dX12_drop_32 rfl rfl ?_
  refine g_getR dX12_drop_33 fl12_19 rfl sh535 (w12_4 hW sh535) ?_
  refine g_iload_n 2 dX12_drop_36 rfl rfl ?_
  refine g_bipush (v := 10) dX12_drop_37 (by decide) ?_
  refine g_aload_n 0 dX12_drop_39 rfl rfl ?_
  refine g_getR dX12_drop_40 fl12_13 rfl sh535 (w12_2 hW sh535) ?_
  refine g_iload_n 1 dX12_drop_43 rfl rfl ?_
  refine g_iald (j := x1.toNatClampNeg) dX12_drop_44 (s12_2 sh535) h1 rfl ?_
  refine g_iadd dX12_drop_45 ?_
  refine g_iast (j := x2.toNatClampNeg) dX12_drop_46 (s12_4 sh535) h2 rfl ?_
  refine g_aload_n 0 dX12_drop_47 rfl rfl ?_
  refine g_iload_n 1 dX12_drop_48 rfl rfl ?_
  refine g_callV (As := [.int x1]) (st := []) dX12_drop_49 clX12_338 sh535 rfl rfl (Nat.le_of_ble_eq_true rfl) (rmSH (by decide) (by decide)) (s_mThings hW h3 ?_)
  show Go X 4 mX12_drop Q 52 [(0, .ref 535), (1, .int x1), (2, .int x2)] [.int (tAt (mI (uI m 539 x2.toNatClampNeg ((10 : Int32) + (mI m 537 x1.toNatClampNeg))) 539) x1 (mI m 536 4).toNatClampNeg)] (uI m 539 x2.toNatClampNeg ((10 : Int32) + (mI m 537 x1.toNatClampNeg)))
  refine g_callS (As := [.int (tAt (mI (uI m 539 x2.toNatClampNeg ((10 : Int32) + (mI m 537 x1.toNatClampNeg))) 539) x1 (mI m 536 4).toNatClampNeg)]) (st := []) dX12_drop_52 clX12_355 rfl rfl (Nat.le_of_ble_eq_true rfl) (rmSH (by decide) (by decide)) (s_bits hW h4 ?_)
  show Go X 4 mX12_drop Q 55 [(0, .ref 535), (1, .int x1), (2, .int x2)] [.int (pcI (tAt (mI (uI m 539 x2.toNatClampNeg ((10 : Int32) + (mI m 537 x1.toNatClampNeg))) 539) x1 (mI m 536 4).toNatClampNeg))] (uI m 539 x2.toNatClampNeg ((10 : Int32) + (mI m 537 x1.toNatClampNeg)))
  exact g_iret dX12_drop_55 rfl enSH h5
theorem bX12_take_0 {X : pX} {Q : Option Value → pMem → Prop} {m : pMem} {x1 : Int32} {x2 : Int32} (hW : Wf m)
    (h1 : vp_in (mI m 536 3) 5)
    (h2 : ((¬ x1 < 0 ∧ ¬ (mI m 536 3 - (1 : Int32)) < x1) ∧ mI m 538 x1.toNatClampNeg = 0) → ¬ x2 < 0 ∧ ¬ (mI m 536 4 - (1 : Int32)) < x2 → vp_in x2 6)
    (h3 : ((¬ x1 < 0 ∧ ¬ (mI m 536 3 - (1 : Int32)) < x1) ∧ mI m 538 x1.toNatClampNeg = 0) → ¬ x2 < 0 ∧ ¬ (mI m 536 4 - (1 : Int32)) < x2 → vp_in x1 4)
    (h4 : ((¬ x1 < 0 ∧ ¬ (mI m 536 3 - (1 : Int32)) < x1) ∧ mI m 538 x1.toNatClampNeg = 0) → ¬ x2 < 0 ∧ ¬ (mI m 536 4 - (1 : Int32)) < x2 → ¬ (mI m 539 x2.toNatClampNeg) = ((10 : Int32) + (mI m 537 x1.toNatClampNeg)) → Q (some (.int (-1 : Int32))) m)
    (h5 : ((¬ x1 < 0 ∧ ¬ (mI m 536 3 - (1 : Int32)) < x1) ∧ mI m 538 x1.toNatClampNeg = 0) → ¬ x2 < 0 ∧ ¬ (mI m 536 4 - (1 : Int32)) < x2 → (mI m 539 x2.toNatClampNeg) = ((10 : Int32) + (mI m 537 x1.toNatClampNeg)) → vp_in (mI m 536 4) 7)
    (h6 : ((¬ x1 < 0 ∧ ¬ (mI m 536 3 - (1 : Int32)) < x1) ∧ mI m 538 x1.toNatClampNeg = 0) → ¬ x2 < 0 ∧ ¬ (mI m 536 4 - (1 : Int32)) < x2 → (mI m 539 x2.toNatClampNeg) = ((10 : Int32) + (mI m 537 x1.toNatClampNeg)) → ¬ mI m 536 1 ≤ nI (cnt (mI m 539) x1 (mI m 536 4).toNatClampNeg) → Cl X 3 mX12_keepsAct [.ref 535] m (fun v m2 => Go X 4 mX12_take Q 48 [(0, .ref 535), (1, .int x1), (2, .int x2)] (v.toList ++ []) m2))
    (h7 : ((¬ x1 < 0 ∧ ¬ (mI m 536 3 - (1 : Int32)) < x1) ∧ mI m 538 x1.toNatClampNeg = 0) → ¬ x2 < 0 ∧ ¬ (mI m 536 4 - (1 : Int32)) < x2 → (mI m 539 x2.toNatClampNeg) = ((10 : Int32) + (mI m 537 x1.toNatClampNeg)) → ¬ (¬ mI m 536 1 ≤ nI (cnt (mI m 539) x1 (mI m 536 4).toNatClampNeg)) → Q (some (.int (-1 : Int32))) m)
    (h8 : ((¬ x1 < 0 ∧ ¬ (mI m 536 3 - (1 : Int32)) < x1) ∧ mI m 538 x1.toNatClampNeg = 0) → ¬ (¬ x2 < 0 ∧ ¬ (mI m 536 4 - (1 : Int32)) < x2) → Q (some (.int (-1 : Int32))) m)
    (h9 : ¬ (((¬ x1 < 0 ∧ ¬ (mI m 536 3 - (1 : Int32)) < x1) ∧ mI m 538 x1.toNatClampNeg = 0)) → Q (some (.int (-1 : Int32))) m) :
    Go X 4 mX12_take Q 0 [(0, .ref 535), (1, .int x1), (2, .int x2)] [] m := by
  refine g_aload_n 0 dX12_take_0 rfl rfl ?_
  refine g_iload_n 1 dX12_take_1 rfl rfl ?_
  refine g_callV (As := [.int x1]) (st := []) dX12_take_2 clX12_395 sh535 rfl rfl (Nat.le_of_ble_eq_true rfl) (rmSH (by decide) (by decide)) (s_mAt hW h1 (fun q1 => ?_) (fun q1 => ?_))
  · refine g_if_eq 42 dX12_take_5 (by decide) (fun q2 => absurd q2 (by decide)) (fun q2 => ?_)
    refine g_aload_n 0 dX12_take_8 rfl rfl ?_
    refine g_iload_n 2 dX12_take_9 rfl rfl ?_
    refine g_callV (As := [.int x2]) (st := []) dX12_take_10 clX12_347 sh535 rfl rfl (Nat.le_of_ble_eq_true rfl) (rmSH (by decide) (by decide)) (s_mThing hW (fun q3 => ?_) (fun q3 => ?_))
    · refine g_if_eq 42 dX12_take_13 (by decide) (fun q4 => absurd q4 (by decide)) (fun q4 => ?_)
      refine g_aload_n 0 dX12_take_16 rfl rfl ?_
      refine g_getR dX12_take_17 fl12_19 rfl sh535 (w12_4 hW sh535) ?_
      refine g_iload_n 2 dX12_take_20 rfl rfl ?_
      refine g_iald (j := x2.toNatClampNeg) dX12_take_21 (s12_4 sh535) (h2 q1 q3) rfl ?_
      refine g_bipush (v := 10) dX12_take_22 (by decide) ?_
      refine g_aload_n 0 dX12_take_24 rfl rfl ?_
      refine g_getR dX12_take_25 fl12_13 rfl sh535 (w12_2 hW sh535) ?_
      refine g_iload_n 1 dX12_take_28 rfl rfl ?_
      refine g_iald (j := x1.toNatClampNeg) dX12_take_29 (s12_2 sh535) (h3 q1 q3) rfl ?_
      refine g_iadd dX12_take_30 ?_
      refine g_icmp_ne 42 dX12_take_31 (by decide) (fun q5 => ?_) (fun q5 => ?_)
      · refine g_iconst (v := -1) dX12_take_42 (by decide) ?_
        exact g_iret dX12_take_43 rfl enSH (h4 q1 q3 q5)
      · refine g_aload_n 0 dX12_take_34 rfl rfl ?_
        refine g_iload_n 1 dX12_take_35 rfl rfl ?_
        refine g_callV (As := [.int x1]) (st := []) dX12_take_36 clX12_398 sh535 rfl rfl (Nat.le_of_ble_eq_true rfl) (rmSH (by decide) (by decide)) (s_mHand hW (h5 q1 q3 q5) (fun q6 => ?_) (fun q6 => ?_))
        · refine g_if_ne 44 dX12_take_39 (by decide) (fun q7 => ?_) (fun q7 => absurd q7 (by decide))
          refine g_aload_n 0 dX12_take_44 rfl rfl ?_
          exact g_callV (As := []) (st := []) dX12_take_45 clX12_392 sh535 rfl rfl (Nat.le_of_ble_eq_true rfl) (rmSH (by decide) (by decide)) (h6 q1 q3 q5 q6)
        · refine g_if_ne 44 dX12_take_39 (by decide) (fun q8 => absurd q8 (by decide)) (fun q8 => ?_)
          refine g_iconst (v := -1) dX12_take_42 (by decide) ?_
          exact g_iret dX12_take_43 rfl enSH (h7 q1 q3 q5 q6)
    · refine g_if_eq 42 dX12_take_13 (by decide) (fun q9 => ?_) (fun q9 => absurd q9 (by decide))
      refine g_iconst (v := -1) dX12_take_42 (by decide) ?_
      exact g_iret dX12_take_43 rfl enSH (h8 q1 q3)
  · refine g_if_eq 42 dX12_take_5 (by decide) (fun q10 => ?_) (fun q10 => absurd q10 (by decide))
    refine g_iconst (v := -1) dX12_take_42 (by decide) ?_
    exact g_iret dX12_take_43 rfl enSH (h9 q1)
theorem bX12_take_48 {X : pX} {Q : Option Value → pMem → Prop} {m : pMem} {x1 : Int32} {x2 : Int32} (hW : Wf m)
    (h1 : vp_in x2 6)
    (h2 : vp_in (mI m 536 4) 7)
    (h3 : sm64 (tAt (mI (uI m 539 x2.toNatClampNeg x1) 539) x1 (mI m 536 4).toNatClampNeg))
    (h4 : Q (some (.int (pcI (tAt (mI (uI m 539 x2.toNatClampNeg x1) 539) x1 (mI m 536 4).toNatClampNeg)))) (uI m 539 x2.toNatClampNeg x1)) :
    Go X 4 mX12_take Q 48 [(0, .ref 535), (1, .int x1), (2, .int x2)] [] m := by
  refine g_aload_n 0 dX12_take_48 rfl rfl ?_
  refine g_getR dX12_take_49 fl12_19 rfl sh535 (w12_4 hW sh535) ?_
  refine g_iload_n 2 dX12_take_52 rfl rfl ?_
  refine g_iload_n 1 dX12_take_53 rfl rfl ?_
  refine g_iast (j := x2.toNatClampNeg) dX12_take_54 (s12_4 sh535) h1 rfl ?_
  refine g_aload_n 0 dX12_take_55 rfl rfl ?_
  refine g_iload_n 1 dX12_take_56 rfl rfl ?_
  refine g_callV (As := [.int x1]) (st := []) dX12_take_57 clX12_338 sh535 rfl rfl (Nat.le_of_ble_eq_true rfl) (rmSH (by decide) (by decide)) (s_mThings hW h2 ?_)
  show Go X 4 mX12_take Q 60 [(0, .ref 535), (1, .int x1), (2, .int x2)] [.int (tAt (mI (uI m 539 x2.toNatClampNeg x1) 539) x1 (mI m 536 4).toNatClampNeg)] (uI m 539 x2.toNatClampNeg x1)
  refine g_callS (As := [.int (tAt (mI (uI m 539 x2.toNatClampNeg x1) 539) x1 (mI m 536 4).toNatClampNeg)]) (st := []) dX12_take_60 clX12_355 rfl rfl (Nat.le_of_ble_eq_true rfl) (rmSH (by decide) (by decide)) (s_bits hW h3 ?_)
  show Go X 4 mX12_take Q 63 [(0, .ref 535), (1, .int x1), (2, .int x2)] [.int (pcI (tAt (mI (uI m 539 x2.toNatClampNeg x1) 539) x1 (mI m 536 4).toNatClampNeg))] (uI m 539 x2.toNatClampNeg x1)
  exact g_iret dX12_take_63 rfl enSH h4
theorem bX12_give_0 {X : pX} {Q : Option Value → pMem → Prop} {m : pMem} {x1 : Int32} {x2 : Int32} {x3 : Int32} (hW : Wf m)
    (h1 : vp_in (mI m 536 3) 5)
    (h2 : ((¬ x1 < 0 ∧ ¬ (mI m 536 3 - (1 : Int32)) < x1) ∧ mI m 538 x1.toNatClampNeg = 0) ∧ ((¬ x2 < 0 ∧ ¬ (mI m 536 3 - (1 : Int32)) < x2) ∧ mI m 538 x2.toNatClampNeg = 0) ∧ ¬ x1 = x2 ∧ mI m 537 x1.toNatClampNeg = mI m 537 x2.toNatClampNeg → ¬ x3 < 0 ∧ ¬ (mI m 536 4 - (1 : Int32)) < x3 → vp_in x3 6)
    (h3 : ((¬ x1 < 0 ∧ ¬ (mI m 536 3 - (1 : Int32)) < x1) ∧ mI m 538 x1.toNatClampNeg = 0) ∧ ((¬ x2 < 0 ∧ ¬ (mI m 536 3 - (1 : Int32)) < x2) ∧ mI m 538 x2.toNatClampNeg = 0) ∧ ¬ x1 = x2 ∧ mI m 537 x1.toNatClampNeg = mI m 537 x2.toNatClampNeg → ¬ x3 < 0 ∧ ¬ (mI m 536 4 - (1 : Int32)) < x3 → ¬ (mI m 539 x3.toNatClampNeg) = x1 → Q (some (.int (-1 : Int32))) m)
    (h4 : ((¬ x1 < 0 ∧ ¬ (mI m 536 3 - (1 : Int32)) < x1) ∧ mI m 538 x1.toNatClampNeg = 0) ∧ ((¬ x2 < 0 ∧ ¬ (mI m 536 3 - (1 : Int32)) < x2) ∧ mI m 538 x2.toNatClampNeg = 0) ∧ ¬ x1 = x2 ∧ mI m 537 x1.toNatClampNeg = mI m 537 x2.toNatClampNeg → ¬ x3 < 0 ∧ ¬ (mI m 536 4 - (1 : Int32)) < x3 → (mI m 539 x3.toNatClampNeg) = x1 → vp_in (mI m 536 4) 7)
    (h5 : ((¬ x1 < 0 ∧ ¬ (mI m 536 3 - (1 : Int32)) < x1) ∧ mI m 538 x1.toNatClampNeg = 0) ∧ ((¬ x2 < 0 ∧ ¬ (mI m 536 3 - (1 : Int32)) < x2) ∧ mI m 538 x2.toNatClampNeg = 0) ∧ ¬ x1 = x2 ∧ mI m 537 x1.toNatClampNeg = mI m 537 x2.toNatClampNeg → ¬ x3 < 0 ∧ ¬ (mI m 536 4 - (1 : Int32)) < x3 → (mI m 539 x3.toNatClampNeg) = x1 → ¬ mI m 536 1 ≤ nI (cnt (mI m 539) x2 (mI m 536 4).toNatClampNeg) → Cl X 3 mX12_keepsAct [.ref 535] m (fun v m2 => Go X 4 mX12_give Q 41 [(0, .ref 535), (1, .int x1), (2, .int x2), (3, .int x3)] (v.toList ++ []) m2))
    (h6 : ((¬ x1 < 0 ∧ ¬ (mI m 536 3 - (1 : Int32)) < x1) ∧ mI m 538 x1.toNatClampNeg = 0) ∧ ((¬ x2 < 0 ∧ ¬ (mI m 536 3 - (1 : Int32)) < x2) ∧ mI m 538 x2.toNatClampNeg = 0) ∧ ¬ x1 = x2 ∧ mI m 537 x1.toNatClampNeg = mI m 537 x2.toNatClampNeg → ¬ x3 < 0 ∧ ¬ (mI m 536 4 - (1 : Int32)) < x3 → (mI m 539 x3.toNatClampNeg) = x1 → ¬ (¬ mI m 536 1 ≤ nI (cnt (mI m 539) x2 (mI m 536 4).toNatClampNeg)) → Q (some (.int (-1 : Int32))) m)
    (h7 : ((¬ x1 < 0 ∧ ¬ (mI m 536 3 - (1 : Int32)) < x1) ∧ mI m 538 x1.toNatClampNeg = 0) ∧ ((¬ x2 < 0 ∧ ¬ (mI m 536 3 - (1 : Int32)) < x2) ∧ mI m 538 x2.toNatClampNeg = 0) ∧ ¬ x1 = x2 ∧ mI m 537 x1.toNatClampNeg = mI m 537 x2.toNatClampNeg → ¬ (¬ x3 < 0 ∧ ¬ (mI m 536 4 - (1 : Int32)) < x3) → Q (some (.int (-1 : Int32))) m)
    (h8 : ¬ (((¬ x1 < 0 ∧ ¬ (mI m 536 3 - (1 : Int32)) < x1) ∧ mI m 538 x1.toNatClampNeg = 0) ∧ ((¬ x2 < 0 ∧ ¬ (mI m 536 3 - (1 : Int32)) < x2) ∧ mI m 538 x2.toNatClampNeg = 0) ∧ ¬ x1 = x2 ∧ mI m 537 x1.toNatClampNeg = mI m 537 x2.toNatClampNeg) → Q (some (.int (-1 : Int32))) m) :
    Go X 4 mX12_give Q 0 [(0, .ref 535), (1, .int x1), (2, .int x2), (3, .int x3)] [] m := by
  refine g_aload_n 0 dX12_give_0 rfl rfl ?_
  refine g_iload_n 1 dX12_give_1 rfl rfl ?_
  refine g_iload_n 2 dX12_give_2 rfl rfl ?_
  refine g_callV (As := [.int x1, .int x2]) (st := []) dX12_give_3 clX12_401 sh535 rfl rfl (Nat.le_of_ble_eq_true rfl) (rmSH (by decide) (by decide)) (s_mTog hW h1 (fun q1 => ?_) (fun q1 => ?_))
  · refine g_if_eq 35 dX12_give_6 (by decide) (fun q2 => absurd q2 (by decide)) (fun q2 => ?_)
    refine g_aload_n 0 dX12_give_9 rfl rfl ?_
    refine g_iload_n 3 dX12_give_10 rfl rfl ?_
    refine g_callV (As := [.int x3]) (st := []) dX12_give_11 clX12_347 sh535 rfl rfl (Nat.le_of_ble_eq_true rfl) (rmSH (by decide) (by decide)) (s_mThing hW (fun q3 => ?_) (fun q3 => ?_))
    · refine g_if_eq 35 dX12_give_14 (by decide) (fun q4 => absurd q4 (by decide)) (fun q4 => ?_)
      refine g_aload_n 0 dX12_give_17 rfl rfl ?_
      refine g_getR dX12_give_18 fl12_19 rfl sh535 (w12_4 hW sh535) ?_
      refine g_iload_n 3 dX12_give_21 rfl rfl ?_
      refine g_iald (j := x3.toNatClampNeg) dX12_give_22 (s12_4 sh535) (h2 q1 q3) rfl ?_
      refine g_iload_n 1 dX12_give_23 rfl rfl ?_
      refine g_icmp_ne 35 dX12_give_24 (by decide) (fun q5 => ?_) (fun q5 => ?_)
      · refine g_iconst (v := -1) dX12_give_35 (by decide) ?_
        exact g_iret dX12_give_36 rfl enSH (h3 q1 q3 q5)
      · refine g_aload_n 0 dX12_give_27 rfl rfl ?_
        refine g_iload_n 2 dX12_give_28 rfl rfl ?_
        refine g_callV (As := [.int x2]) (st := []) dX12_give_29 clX12_398 sh535 rfl rfl (Nat.le_of_ble_eq_true rfl) (rmSH (by decide) (by decide)) (s_mHand hW (h4 q1 q3 q5) (fun q6 => ?_) (fun q6 => ?_))
        · refine g_if_ne 37 dX12_give_32 (by decide) (fun q7 => ?_) (fun q7 => absurd q7 (by decide))
          refine g_aload_n 0 dX12_give_37 rfl rfl ?_
          exact g_callV (As := []) (st := []) dX12_give_38 clX12_392 sh535 rfl rfl (Nat.le_of_ble_eq_true rfl) (rmSH (by decide) (by decide)) (h5 q1 q3 q5 q6)
        · refine g_if_ne 37 dX12_give_32 (by decide) (fun q8 => absurd q8 (by decide)) (fun q8 => ?_)
          refine g_iconst (v := -1) dX12_give_35 (by decide) ?_
          exact g_iret dX12_give_36 rfl enSH (h6 q1 q3 q5 q6)
    · refine g_if_eq 35 dX12_give_14 (by decide) (fun q9 => ?_) (fun q9 => absurd q9 (by decide))
      refine g_iconst (v := -1) dX12_give_35 (by decide) ?_
      exact g_iret dX12_give_36 rfl enSH (h7 q1 q3)
  · refine g_if_eq 35 dX12_give_6 (by decide) (fun q10 => ?_) (fun q10 => absurd q10 (by decide))
    refine g_iconst (v := -1) dX12_give_35 (by decide) ?_
    exact g_iret dX12_give_36 rfl enSH (h8 q1)
theorem bX12_give_41 {X : pX} {Q : Option Value → pMem → Prop} {m : pMem} {x1 : Int32} {x2 : Int32} {x3 : Int32} (hW : Wf m)
    (h1 : vp_in x3 6)
    (h2 : vp_in (mI m 536 4) 7)
    (h3 : sm64 (tAt (mI (uI m 539 x3.toNatClampNeg x2) 539) x2 (mI m 536 4).toNatClampNeg))
    (h4 : Q (some (.int (pcI (tAt (mI (uI m 539 x3.toNatClampNeg x2) 539) x2 (mI m 536 4).toNatClampNeg)))) (uI m 539 x3.toNatClampNeg x2)) :
    Go X 4 mX12_give Q 41 [(0, .ref 535), (1, .int x1), (2, .int x2), (3, .int x3)] [] m := by
  refine g_aload_n 0 dX12_give_41 rfl rfl ?_
  refine g_getR dX12_give_42 fl12_19 rfl sh535 (w12_4 hW sh535) ?_
  refine g_iload_n 3 dX12_give_45 rfl rfl ?_
  refine g_iload_n 2 dX12_give_46 rfl rfl ?_
  refine g_iast (j := x3.toNatClampNeg) dX12_give_47 (s12_4 sh535) h1 rfl ?_
  refine g_aload_n 0 dX12_give_48 rfl rfl ?_
  refine g_iload_n 2 dX12_give_49 rfl rfl ?_
  refine g_callV (As := [.int x2]) (st := []) dX12_give_50 clX12_338 sh535 rfl rfl (Nat.le_of_ble_eq_true rfl) (rmSH (by decide) (by decide)) (s_mThings hW h2 ?_)
  show Go X 4 mX12_give Q 53 [(0, .ref 535), (1, .int x1), (2, .int x2), (3, .int x3)] [.int (tAt (mI (uI m 539 x3.toNatClampNeg x2) 539) x2 (mI m 536 4).toNatClampNeg)] (uI m 539 x3.toNatClampNeg x2)
  refine g_callS (As := [.int (tAt (mI (uI m 539 x3.toNatClampNeg x2) 539) x2 (mI m 536 4).toNatClampNeg)]) (st := []) dX12_give_53 clX12_355 rfl rfl (Nat.le_of_ble_eq_true rfl) (rmSH (by decide) (by decide)) (s_bits hW h3 ?_)
  show Go X 4 mX12_give Q 56 [(0, .ref 535), (1, .int x1), (2, .int x2), (3, .int x3)] [.int (pcI (tAt (mI (uI m 539 x3.toNatClampNeg x2) 539) x2 (mI m 536 4).toNatClampNeg))] (uI m 539 x3.toNatClampNeg x2)
  exact g_iret dX12_give_56 rfl enSH h4
theorem bX12_rob_0 {X : pX} {Q : Option Value → pMem → Prop} {m : pMem} {x1 : Int32} (hW : Wf m)
    (h1 : ¬ x1 < 0 ∧ ¬ (mI m 536 4 - (1 : Int32)) < x1 → vp_in x1 6)
    (h2 : ¬ x1 < 0 ∧ ¬ (mI m 536 4 - (1 : Int32)) < x1 → ¬ (mI m 539 x1.toNatClampNeg) = (-1 : Int32) → Cl X 3 mX12_keepsAct [.ref 535] m (fun v m2 => Go X 4 mX12_rob Q 25 [(0, .ref 535), (1, .int x1)] (v.toList ++ []) m2))
    (h3 : ¬ x1 < 0 ∧ ¬ (mI m 536 4 - (1 : Int32)) < x1 → (mI m 539 x1.toNatClampNeg) = (-1 : Int32) → Q (some (.int (-2 : Int32))) m)
    (h4 : ¬ (¬ x1 < 0 ∧ ¬ (mI m 536 4 - (1 : Int32)) < x1) → Q (some (.int (-2 : Int32))) m) :
    Go X 4 mX12_rob Q 0 [(0, .ref 535), (1, .int x1)] [] m := by
  refine g_aload_n 0 dX12_rob_0 rfl rfl ?_
  refine g_iload_n 1 dX12_rob_1 rfl rfl ?_
  refine g_callV (As := [.int x1]) (st := []) dX12_rob_2 clX12_347 sh535 rfl rfl (Nat.le_of_ble_eq_true rfl) (rmSH (by decide) (by decide)) (s_mThing hW (fun q1 => ?_) (fun q1 => ?_))
  · refine g_if_eq 18 dX12_rob_5 (by decide) (fun q2 => absurd q2 (by decide)) (fun q2 => ?_)
    refine g_aload_n 0 dX12_rob_8 rfl rfl ?_
    refine g_getR dX12_rob_9 fl12_19 rfl sh535 (w12_4 hW sh535) ?_
    refine g_iload_n 1 dX12_rob_12 rfl rfl ?_
    refine g_iald (j := x1.toNatClampNeg) dX12_rob_13 (s12_4 sh535) (h1 q1) rfl ?_
    refine g_iconst (v := -1) dX12_rob_14 (by decide) ?_
    refine g_icmp_ne 21 dX12_rob_15 (by decide) (fun q3 => ?_) (fun q3 => ?_)
    · refine g_aload_n 0 dX12_rob_21 rfl rfl ?_
      exact g_callV (As := []) (st := []) dX12_rob_22 clX12_392 sh535 rfl rfl (Nat.le_of_ble_eq_true rfl) (rmSH (by decide) (by decide)) (h2 q1 q3)
    · refine g_bipush (v := -2) dX12_rob_18 (by decide) ?_
      exact g_iret dX12_rob_20 rfl enSH (h3 q1 q3)
  · refine g_if_eq 18 dX12_rob_5 (by decide) (fun q4 => ?_) (fun q4 => absurd q4 (by decide))
    refine g_bipush (v := -2) dX12_rob_18 (by decide) ?_
    exact g_iret dX12_rob_20 rfl enSH (h4 q1)
theorem bX12_rob_25 {X : pX} {Q : Option Value → pMem → Prop} {m : pMem} {x1 : Int32} (hW : Wf m)
    (h1 : vp_in x1 6)
    (h2 : Q (some (.int (mI m 539 x1.toNatClampNeg))) (uI m 539 x1.toNatClampNeg (-1 : Int32))) :
    Go X 4 mX12_rob Q 25 [(0, .ref 535), (1, .int x1)] [] m := by
  refine g_aload_n 0 dX12_rob_25 rfl rfl ?_
  refine g_getR dX12_rob_26 fl12_19 rfl sh535 (w12_4 hW sh535) ?_
  refine g_iload_n 1 dX12_rob_29 rfl rfl ?_
  refine g_iald (j := x1.toNatClampNeg) dX12_rob_30 (s12_4 sh535) h1 rfl ?_
  refine g_istore_n (ls2 := [(2, .int (mI m 539 x1.toNatClampNeg)), (0, .ref 535), (1, .int x1)]) dX12_rob_31 rfl (by decide) rfl ?_
  refine g_aload_n 1 dX12_rob_32 rfl rfl ?_
  refine g_getR dX12_rob_33 fl12_19 rfl sh535 (w12_4 hW sh535) ?_
  refine g_iload_n 2 dX12_rob_36 rfl rfl ?_
  refine g_iconst (v := -1) dX12_rob_37 (by decide) ?_
  refine g_iast (j := x1.toNatClampNeg) dX12_rob_38 (s12_4 sh535) h1 rfl ?_
  refine g_iload_n 0 dX12_rob_39 rfl rfl ?_
  exact g_iret dX12_rob_40 rfl enSH h2
theorem bX12_undo_0 {X : pX} {Q : Option Value → pMem → Prop} {m : pMem} (hW : Wf m)
    (h1 : ¬ (mI m 535 41) = 0 → Cl X 2 mX12_movesAll [.ref 535, .int ((mI m 535 41) - (1 : Int32)), .int (1 : Int32)] (uI m 535 41 ((mI m 535 41) - (1 : Int32))) (fun v m2 => Go X 3 mX12_undo Q 29 [(0, .ref 535)] (v.toList ++ []) m2))
    (h2 : (mI m 535 41) = 0 → Q (some (.int (-2 : Int32))) m) :
    Go X 3 mX12_undo Q 0 [(0, .ref 535)] [] m := by
  refine g_aload_n 0 dX12_undo_0 rfl rfl ?_
  refine g_getI dX12_undo_1 fl12_299 sh535 ?_
  refine g_if_ne 10 dX12_undo_4 (by decide) (fun q1 => ?_) (fun q1 => ?_)
  · refine g_aload_n 0 dX12_undo_10 rfl rfl ?_
    refine g_dup dX12_undo_11 rfl ?_
    refine g_getI dX12_undo_12 fl12_299 sh535 ?_
    refine g_iconst (v := 1) dX12_undo_15 (by decide) ?_
    refine g_isub dX12_undo_16 ?_
    refine g_putI dX12_undo_17 fl12_299 (fun h => by cases h) sh535 ?_
    refine g_aload_n 0 dX12_undo_20 rfl rfl ?_
    refine g_aload_n 0 dX12_undo_21 rfl rfl ?_
    refine g_getI dX12_undo_22 fl12_299 sh535 ?_
    refine g_iconst (v := 1) dX12_undo_25 (by decide) ?_
    exact g_callV (As := [.int ((mI m 535 41) - (1 : Int32)), .int (1 : Int32)]) (st := []) dX12_undo_26 clX12_385 sh535 rfl rfl (Nat.le_of_ble_eq_true rfl) (rmSH (by decide) (by decide)) (h1 q1)
  · refine g_bipush (v := -2) dX12_undo_7 (by decide) ?_
    exact g_iret dX12_undo_9 rfl enSH (h2 q1)
theorem bX12_undo_29 {X : pX} {Q : Option Value → pMem → Prop} {m : pMem} (hW : Wf m)
    (h1 : Q (some (.int (mI m 535 41))) m) :
    Go X 3 mX12_undo Q 29 [(0, .ref 535)] [] m := by
  refine g_aload_n 0 dX12_undo_29 rfl rfl ?_
  refine g_getI dX12_undo_30 fl12_299 sh535 ?_
  exact g_iret dX12_undo_33 rfl enSH h1
theorem bX12_day_0 {X : pX} {Q : Option Value → pMem → Prop} {m : pMem} (hW : Wf m)
    (h1 : mI m 536 0 = (1 : Int32) → ¬ (mI m 536 5) = (999 : Int32) → Cl X 3 mX12_keepsAct [.ref 535] m (fun v m2 => Go X 7 mX12_day Q 25 [(0, .ref 535)] (v.toList ++ []) m2))
    (h2 : mI m 536 0 = (1 : Int32) → (mI m 536 5) = (999 : Int32) → Q (some (.int (-1 : Int32))) m)
    (h3 : ¬ (mI m 536 0 = (1 : Int32)) → Q (some (.int (-1 : Int32))) m) :
    Go X 7 mX12_day Q 0 [(0, .ref 535)] [] m := by
  refine g_aload_n 0 dX12_day_0 rfl rfl ?_
  refine g_callV (As := []) (st := []) dX12_day_1 clX12_389 sh535 rfl rfl (Nat.le_of_ble_eq_true rfl) (rmSH (by decide) (by decide)) (s_isRoad hW (fun q1 => ?_) (fun q1 => ?_))
  · refine g_if_eq 19 dX12_day_4 (by decide) (fun q2 => absurd q2 (by decide)) (fun q2 => ?_)
    refine g_aload_n 0 dX12_day_7 rfl rfl ?_
    refine g_getR dX12_day_8 fl12_9 rfl sh535 (w12_1 hW sh535) ?_
    refine g_iconst (v := 5) dX12_day_11 (by decide) ?_
    refine g_iald (j := 5) dX12_day_12 (s12_1 sh535) (by unfold vp_in; decide) (by decide) ?_
    refine g_sipush (v := 999) dX12_day_13 (by decide) ?_
    refine g_icmp_ne 21 dX12_day_16 (by decide) (fun q3 => ?_) (fun q3 => ?_)
    · refine g_aload_n 0 dX12_day_21 rfl rfl ?_
      exact g_callV (As := []) (st := []) dX12_day_22 clX12_392 sh535 rfl rfl (Nat.le_of_ble_eq_true rfl) (rmSH (by decide) (by decide)) (h1 q1 q3)
    · refine g_iconst (v := -1) dX12_day_19 (by decide) ?_
      exact g_iret dX12_day_20 rfl enSH (h2 q1 q3)
  · refine g_if_eq 19 dX12_day_4 (by decide) (fun q4 => ?_) (fun q4 => absurd q4 (by decide))
    refine g_iconst (v := -1) dX12_day_19 (by decide) ?_
    exact g_iret dX12_day_20 rfl enSH (h3 q1)
theorem bX12_day_25 {X : pX} {Q : Option Value → pMem → Prop} {m : pMem} (hW : Wf m)
    (h1 : Cl X 6 mX12_goes [.ref 535] m (fun v m2 => Go X 7 mX12_day Q 29 [(0, .ref 535)] (v.toList ++ []) m2)) :
    Go X 7 mX12_day Q 25 [(0, .ref 535)] [] m := by
  refine g_aload_n 0 dX12_day_25 rfl rfl ?_
  exact g_callV (As := []) (st := []) dX12_day_26 clX12_368 sh535 rfl rfl (Nat.le_of_ble_eq_true rfl) (rmSH (by decide) (by decide)) h1
theorem bX12_day_29 {X : pX} {Q : Option Value → pMem → Prop} {m : pMem} {xs0 : Int32} (hW : Wf m)
    (h1 : Q (some (.int xs0)) m) :
    Go X 7 mX12_day Q 29 [(0, .ref 535)] [.int xs0] m := by
  exact g_iret dX12_day_29 rfl enSH h1
