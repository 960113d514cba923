theorem bX12_both_0 {X : pX} {Q : Option Value → pMem → Prop} {m : pMem} {x0 : Int32} {y1 : Int64} {y3 : Int64} (hW : Wf m)
    (h1 : x0 = 2 → Q (some (.long (y1 + y3))) m)
    (h2 : ¬ x0 = 2 → x0 = 3 → Q (some (.long (y1 - y3))) m)
    (h3 : ¬ x0 = 2 → ¬ x0 = 3 → x0 = 4 → 0 ≤ (lg_cmp y1 y3) → Q (some (.long (if (0 : Int32) = 0 then (0 : Int64) else (1 : Int64)))) m)
    (h4 : ¬ x0 = 2 → ¬ x0 = 3 → x0 = 4 → ¬ (0 ≤ (lg_cmp y1 y3)) → Q (some (.long (if (1 : Int32) = 0 then (0 : Int64) else (1 : Int64)))) m)
    (h5 : ¬ x0 = 2 → ¬ x0 = 3 → ¬ x0 = 4 → x0 = 5 → 0 < (lg_cmp y1 y3) → Q (some (.long (if (0 : Int32) = 0 then (0 : Int64) else (1 : Int64)))) m)
    (h6 : ¬ x0 = 2 → ¬ x0 = 3 → ¬ x0 = 4 → x0 = 5 → ¬ (0 < (lg_cmp y1 y3)) → Q (some (.long (if (1 : Int32) = 0 then (0 : Int64) else (1 : Int64)))) m)
    (h7 : ¬ x0 = 2 → ¬ x0 = 3 → ¬ x0 = 4 → ¬ x0 = 5 → x0 = 6 → ¬ (lg_cmp y1 y3) = 0 → Q (some (.long (if (0 : Int32) = 0 then (0 : Int64) else (1 : Int64)))) m)
    (h8 : ¬ x0 = 2 → ¬ x0 = 3 → ¬ x0 = 4 → ¬ x0 = 5 → x0 = 6 → (lg_cmp y1 y3) = 0 → Q (some (.long (if (1 : Int32) = 0 then (0 : Int64) else (1 : Int64)))) m)
    (h9 : ¬ x0 = 2 → ¬ x0 = 3 → ¬ x0 = 4 → ¬ x0 = 5 → ¬ x0 = 6 → x0 = 7 → (lg_cmp y1 y3) < 0 → Q (some (.long (if (0 : Int32) = 0 then (0 : Int64) else (1 : Int64)))) m)
    (h10 : ¬ x0 = 2 → ¬ x0 = 3 → ¬ x0 = 4 → ¬ x0 = 5 → ¬ x0 = 6 → x0 = 7 → ¬ ((lg_cmp y1 y3) < 0) → Q (some (.long (if (1 : Int32) = 0 then (0 : Int64) else (1 : Int64)))) m)
    (h11 : ¬ x0 = 2 → ¬ x0 = 3 → ¬ x0 = 4 → ¬ x0 = 5 → ¬ x0 = 6 → ¬ x0 = 7 → x0 = 8 → (lg_cmp y1 y3) ≤ 0 → Q (some (.long (if (0 : Int32) = 0 then (0 : Int64) else (1 : Int64)))) m)
    (h12 : ¬ x0 = 2 → ¬ x0 = 3 → ¬ x0 = 4 → ¬ x0 = 5 → ¬ x0 = 6 → ¬ x0 = 7 → x0 = 8 → ¬ ((lg_cmp y1 y3) ≤ 0) → Q (some (.long (if (1 : Int32) = 0 then (0 : Int64) else (1 : Int64)))) m)
    (h13 : ¬ x0 = 2 → ¬ x0 = 3 → ¬ x0 = 4 → ¬ x0 = 5 → ¬ x0 = 6 → ¬ x0 = 7 → ¬ x0 = 8 → x0 = 10 → Q (some (.long (y1 &&& y3))) m)
    (h14 : ¬ x0 = 2 → ¬ x0 = 3 → ¬ x0 = 4 → ¬ x0 = 5 → ¬ x0 = 6 → ¬ x0 = 7 → ¬ x0 = 8 → ¬ x0 = 10 → x0 = 13 → Q (some (.long (y1 * y3))) m)
    (h15 : ¬ x0 = 2 → ¬ x0 = 3 → ¬ x0 = 4 → ¬ x0 = 5 → ¬ x0 = 6 → ¬ x0 = 7 → ¬ x0 = 8 → ¬ x0 = 10 → ¬ x0 = 13 → x0 = 14 → ¬ (lg_cmp y3 (0 : Int64)) = 0 → ¬ y3 = 0)
    (h16 : ¬ x0 = 2 → ¬ x0 = 3 → ¬ x0 = 4 → ¬ x0 = 5 → ¬ x0 = 6 → ¬ x0 = 7 → ¬ x0 = 8 → ¬ x0 = 10 → ¬ x0 = 13 → x0 = 14 → ¬ (lg_cmp y3 (0 : Int64)) = 0 → Q (some (.long (y1 / y3))) m)
    (h17 : ¬ x0 = 2 → ¬ x0 = 3 → ¬ x0 = 4 → ¬ x0 = 5 → ¬ x0 = 6 → ¬ x0 = 7 → ¬ x0 = 8 → ¬ x0 = 10 → ¬ x0 = 13 → x0 = 14 → (lg_cmp y3 (0 : Int64)) = 0 → Q (some (.long (0 : Int64))) m)
    (h18 : ¬ x0 = 2 → ¬ x0 = 3 → ¬ x0 = 4 → ¬ x0 = 5 → ¬ x0 = 6 → ¬ x0 = 7 → ¬ x0 = 8 → ¬ x0 = 10 → ¬ x0 = 13 → ¬ x0 = 14 → x0 = 15 → ¬ (lg_cmp y3 (0 : Int64)) = 0 → ¬ y3 = 0)
    (h19 : ¬ x0 = 2 → ¬ x0 = 3 → ¬ x0 = 4 → ¬ x0 = 5 → ¬ x0 = 6 → ¬ x0 = 7 → ¬ x0 = 8 → ¬ x0 = 10 → ¬ x0 = 13 → ¬ x0 = 14 → x0 = 15 → ¬ (lg_cmp y3 (0 : Int64)) = 0 → Q (some (.long (y1 - y1 / y3 * y3))) m)
    (h20 : ¬ x0 = 2 → ¬ x0 = 3 → ¬ x0 = 4 → ¬ x0 = 5 → ¬ x0 = 6 → ¬ x0 = 7 → ¬ x0 = 8 → ¬ x0 = 10 → ¬ x0 = 13 → ¬ x0 = 14 → x0 = 15 → (lg_cmp y3 (0 : Int64)) = 0 → Q (some (.long (0 : Int64))) m)
    (h21 : ¬ x0 = 2 → ¬ x0 = 3 → ¬ x0 = 4 → ¬ x0 = 5 → ¬ x0 = 6 → ¬ x0 = 7 → ¬ x0 = 8 → ¬ x0 = 10 → ¬ x0 = 13 → ¬ x0 = 14 → ¬ x0 = 15 → x0 = 9 → Q (some (.long (y1 ||| y3))) m)
    (h22 : ¬ x0 = 2 → ¬ x0 = 3 → ¬ x0 = 4 → ¬ x0 = 5 → ¬ x0 = 6 → ¬ x0 = 7 → ¬ x0 = 8 → ¬ x0 = 10 → ¬ x0 = 13 → ¬ x0 = 14 → ¬ x0 = 15 → ¬ x0 = 9 → x0 = 11 → Q (some (.long (y1 ||| y3))) m)
    (h23 : ¬ x0 = 2 → ¬ x0 = 3 → ¬ x0 = 4 → ¬ x0 = 5 → ¬ x0 = 6 → ¬ x0 = 7 → ¬ x0 = 8 → ¬ x0 = 10 → ¬ x0 = 13 → ¬ x0 = 14 → ¬ x0 = 15 → ¬ x0 = 9 → ¬ x0 = 11 → x0 = 12 → Q (some (.long (y1 ||| y3))) m)
    (h24 : ¬ x0 = 2 → ¬ x0 = 3 → ¬ x0 = 4 → ¬ x0 = 5 → ¬ x0 = 6 → ¬ x0 = 7 → ¬ x0 = 8 → ¬ x0 = 10 → ¬ x0 = 13 → ¬ x0 = 14 → ¬ x0 = 15 → ¬ x0 = 9 → ¬ x0 = 11 → ¬ x0 = 12 → Q (some (.long (y1 ||| y3))) m) :
    Go X 1 mX12_both Q 0 [(0, .int x0), (1, .long y1), (3, .long y3)] [] m := by
  refine g_iload_n 0 dX12_both_0 rfl rfl ?_
  by_cases q1 : x0 = 2
  · refine g_tabIn 72 dX12_both_1 (by rw [q1]; decide) (by rw [q1]; decide) (by rw [q1]; rfl) (by decide) ?_
    refine g_lload_n 1 dX12_both_72 rfl rfl ?_
    refine g_lload_n 2 dX12_both_73 rfl rfl ?_
    refine g_ladd dX12_both_74 ?_
    exact g_lret dX12_both_75 rfl enSH (h1 q1)
  by_cases q2 : x0 = 3
  · refine g_tabIn 76 dX12_both_1 (by rw [q2]; decide) (by rw [q2]; decide) (by rw [q2]; rfl) (by decide) ?_
    refine g_lload_n 1 dX12_both_76 rfl rfl ?_
    refine g_lload_n 2 dX12_both_77 rfl rfl ?_
    refine g_lsub dX12_both_78 ?_
    exact g_lret dX12_both_79 rfl enSH (h2 q1 q2)
  by_cases q3 : x0 = 4
  · refine g_tabIn 112 dX12_both_1 (by rw [q3]; decide) (by rw [q3]; decide) (by rw [q3]; rfl) (by decide) ?_
    refine g_lload_n 1 dX12_both_112 rfl rfl ?_
    refine g_lload_n 2 dX12_both_113 rfl rfl ?_
    refine g_lcmp dX12_both_114 ?_
    refine g_if_ge 122 dX12_both_115 (by decide) (fun q4 => ?_) (fun q4 => ?_)
    · refine g_iconst (v := 0) dX12_both_122 (by decide) ?_
      refine g_callS (As := [.int (0 : Int32)]) (st := []) dX12_both_123 clX12_324 rfl rfl (Nat.le_of_ble_eq_true rfl) (rmSH (by decide) (by decide)) (s_truth hW ?_)
      show Go X 1 mX12_both Q 126 [(0, .int x0), (1, .long y1), (3, .long y3)] [.long (if (0 : Int32) = 0 then (0 : Int64) else (1 : Int64))] m
      exact g_lret dX12_both_126 rfl enSH (h3 q1 q2 q3 q4)
    · refine g_iconst (v := 1) dX12_both_118 (by decide) ?_
      refine g_goto 123 dX12_both_119 (by decide) ?_
      refine g_callS (As := [.int (1 : Int32)]) (st := []) dX12_both_123 clX12_324 rfl rfl (Nat.le_of_ble_eq_true rfl) (rmSH (by decide) (by decide)) (s_truth hW ?_)
      show Go X 1 mX12_both Q 126 [(0, .int x0), (1, .long y1), (3, .long y3)] [.long (if (1 : Int32) = 0 then (0 : Int64) else (1 : Int64))] m
      exact g_lret dX12_both_126 rfl enSH (h4 q1 q2 q3 q4)
  by_cases q5 : x0 = 5
  · refine g_tabIn 127 dX12_both_1 (by rw [q5]; decide) (by rw [q5]; decide) (by rw [q5]; rfl) (by decide) ?_
    refine g_lload_n 1 dX12_both_127 rfl rfl ?_
    refine g_lload_n 2 dX12_both_128 rfl rfl ?_
    refine g_lcmp dX12_both_129 ?_
    refine g_if_gt 137 dX12_both_130 (by decide) (fun q6 => ?_) (fun q6 => ?_)
    · refine g_iconst (v := 0) dX12_both_137 (by decide) ?_
      refine g_callS (As := [.int (0 : Int32)]) (st := []) dX12_both_138 clX12_324 rfl rfl (Nat.le_of_ble_eq_true rfl) (rmSH (by decide) (by decide)) (s_truth hW ?_)
      show Go X 1 mX12_both Q 141 [(0, .int x0), (1, .long y1), (3, .long y3)] [.long (if (0 : Int32) = 0 then (0 : Int64) else (1 : Int64))] m
      exact g_lret dX12_both_141 rfl enSH (h5 q1 q2 q3 q5 q6)
    · refine g_iconst (v := 1) dX12_both_133 (by decide) ?_
      refine g_goto 138 dX12_both_134 (by decide) ?_
      refine g_callS (As := [.int (1 : Int32)]) (st := []) dX12_both_138 clX12_324 rfl rfl (Nat.le_of_ble_eq_true rfl) (rmSH (by decide) (by decide)) (s_truth hW ?_)
      show Go X 1 mX12_both Q 141 [(0, .int x0), (1, .long y1), (3, .long y3)] [.long (if (1 : Int32) = 0 then (0 : Int64) else (1 : Int64))] m
      exact g_lret dX12_both_141 rfl enSH (h6 q1 q2 q3 q5 q6)
  by_cases q7 : x0 = 6
  · refine g_tabIn 142 dX12_both_1 (by rw [q7]; decide) (by rw [q7]; decide) (by rw [q7]; rfl) (by decide) ?_
    refine g_lload_n 1 dX12_both_142 rfl rfl ?_
    refine g_lload_n 2 dX12_both_143 rfl rfl ?_
    refine g_lcmp dX12_both_144 ?_
    refine g_if_ne 152 dX12_both_145 (by decide) (fun q8 => ?_) (fun q8 => ?_)
    · refine g_iconst (v := 0) dX12_both_152 (by decide) ?_
      refine g_callS (As := [.int (0 : Int32)]) (st := []) dX12_both_153 clX12_324 rfl rfl (Nat.le_of_ble_eq_true rfl) (rmSH (by decide) (by decide)) (s_truth hW ?_)
      show Go X 1 mX12_both Q 156 [(0, .int x0), (1, .long y1), (3, .long y3)] [.long (if (0 : Int32) = 0 then (0 : Int64) else (1 : Int64))] m
      exact g_lret dX12_both_156 rfl enSH (h7 q1 q2 q3 q5 q7 q8)
    · refine g_iconst (v := 1) dX12_both_148 (by decide) ?_
      refine g_goto 153 dX12_both_149 (by decide) ?_
      refine g_callS (As := [.int (1 : Int32)]) (st := []) dX12_both_153 clX12_324 rfl rfl (Nat.le_of_ble_eq_true rfl) (rmSH (by decide) (by decide)) (s_truth hW ?_)
      show Go X 1 mX12_both Q 156 [(0, .int x0), (1, .long y1), (3, .long y3)] [.long (if (1 : Int32) = 0 then (0 : Int64) else (1 : Int64))] m
      exact g_lret dX12_both_156 rfl enSH (h8 q1 q2 q3 q5 q7 q8)
  by_cases q9 : x0 = 7
  · refine g_tabIn 157 dX12_both_1 (by rw [q9]; decide) (by rw [q9]; decide) (by rw [q9]; rfl) (by decide) ?_
    refine g_lload_n 1 dX12_both_157 rfl rfl ?_
    refine g_lload_n 2 dX12_both_158 rfl rfl ?_
    refine g_lcmp dX12_both_159 ?_
    refine g_if_lt 167 dX12_both_160 (by decide) (fun q10 => ?_) (fun q10 => ?_)
    · refine g_iconst (v := 0) dX12_both_167 (by decide) ?_
      refine g_callS (As := [.int (0 : Int32)]) (st := []) dX12_both_168 clX12_324 rfl rfl (Nat.le_of_ble_eq_true rfl) (rmSH (by decide) (by decide)) (s_truth hW ?_)
      show Go X 1 mX12_both Q 171 [(0, .int x0), (1, .long y1), (3, .long y3)] [.long (if (0 : Int32) = 0 then (0 : Int64) else (1 : Int64))] m
      exact g_lret dX12_both_171 rfl enSH (h9 q1 q2 q3 q5 q7 q9 q10)
    · refine g_iconst (v := 1) dX12_both_163 (by decide) ?_
      refine g_goto 168 dX12_both_164 (by decide) ?_
      refine g_callS (As := [.int (1 : Int32)]) (st := []) dX12_both_168 clX12_324 rfl rfl (Nat.le_of_ble_eq_true rfl) (rmSH (by decide) (by decide)) (s_truth hW ?_)
      show Go X 1 mX12_both Q 171 [(0, .int x0), (1, .long y1), (3, .long y3)] [.long (if (1 : Int32) = 0 then (0 : Int64) else (1 : Int64))] m
      exact g_lret dX12_both_171 rfl enSH (h10 q1 q2 q3 q5 q7 q9 q10)
  by_cases q11 : x0 = 8
  · refine g_tabIn 172 dX12_both_1 (by rw [q11]; decide) (by rw [q11]; decide) (by rw [q11]; rfl) (by decide) ?_
    refine g_lload_n 1 dX12_both_172 rfl rfl ?_
    refine g_lload_n 2 dX12_both_173 rfl rfl ?_
    refine g_lcmp dX12_both_174 ?_
    refine g_if_le 182 dX12_both_175 (by decide) (fun q12 => ?_) (fun q12 => ?_)
    · refine g_iconst (v := 0) dX12_both_182 (by decide) ?_
      refine g_callS (As := [.int (0 : Int32)]) (st := []) dX12_both_183 clX12_324 rfl rfl (Nat.le_of_ble_eq_true rfl) (rmSH (by decide) (by decide)) (s_truth hW ?_)
      show Go X 1 mX12_both Q 186 [(0, .int x0), (1, .long y1), (3, .long y3)] [.long (if (0 : Int32) = 0 then (0 : Int64) else (1 : Int64))] m
      exact g_lret dX12_both_186 rfl enSH (h11 q1 q2 q3 q5 q7 q9 q11 q12)
    · refine g_iconst (v := 1) dX12_both_178 (by decide) ?_
      refine g_goto 183 dX12_both_179 (by decide) ?_
      refine g_callS (As := [.int (1 : Int32)]) (st := []) dX12_both_183 clX12_324 rfl rfl (Nat.le_of_ble_eq_true rfl) (rmSH (by decide) (by decide)) (s_truth hW ?_)
      show Go X 1 mX12_both Q 186 [(0, .int x0), (1, .long y1), (3, .long y3)] [.long (if (1 : Int32) = 0 then (0 : Int64) else (1 : Int64))] m
      exact g_lret dX12_both_186 rfl enSH (h12 q1 q2 q3 q5 q7 q9 q11 q12)
  by_cases q13 : x0 = 10
  · refine g_tabIn 187 dX12_both_1 (by rw [q13]; decide) (by rw [q13]; decide) (by rw [q13]; rfl) (by decide) ?_
    refine g_lload_n 1 dX12_both_187 rfl rfl ?_
    refine g_lload_n 2 dX12_both_188 rfl rfl ?_
    refine g_land dX12_both_189 ?_
    exact g_lret dX12_both_190 rfl enSH (h13 q1 q2 q3 q5 q7 q9 q11 q13)
  by_cases q14 : x0 = 13
  · refine g_tabIn 80 dX12_both_1 (by rw [q14]; decide) (by rw [q14]; decide) (by rw [q14]; rfl) (by decide) ?_
    refine g_lload_n 1 dX12_both_80 rfl rfl ?_
    refine g_lload_n 2 dX12_both_81 rfl rfl ?_
    refine g_lmul dX12_both_82 ?_
    exact g_lret dX12_both_83 rfl enSH (h14 q1 q2 q3 q5 q7 q9 q11 q13 q14)
  by_cases q15 : x0 = 14
  · refine g_tabIn 84 dX12_both_1 (by rw [q15]; decide) (by rw [q15]; decide) (by rw [q15]; rfl) (by decide) ?_
    refine g_lload_n 2 dX12_both_84 rfl rfl ?_
    refine g_lconst (v := 0) dX12_both_85 (by decide) ?_
    refine g_lcmp dX12_both_86 ?_
    refine g_if_ne 94 dX12_both_87 (by decide) (fun q16 => ?_) (fun q16 => ?_)
    · refine g_lload_n 1 dX12_both_94 rfl rfl ?_
      refine g_lload_n 2 dX12_both_95 rfl rfl ?_
      refine g_ldiv dX12_both_96 (h15 q1 q2 q3 q5 q7 q9 q11 q13 q14 q15 q16) ?_
      exact g_lret dX12_both_97 rfl enSH (h16 q1 q2 q3 q5 q7 q9 q11 q13 q14 q15 q16)
    · refine g_lconst (v := 0) dX12_both_90 (by decide) ?_
      refine g_goto 97 dX12_both_91 (by decide) ?_
      exact g_lret dX12_both_97 rfl enSH (h17 q1 q2 q3 q5 q7 q9 q11 q13 q14 q15 q16)
  by_cases q17 : x0 = 15
  · refine g_tabIn 98 dX12_both_1 (by rw [q17]; decide) (by rw [q17]; decide) (by rw [q17]; rfl) (by decide) ?_
    refine g_lload_n 2 dX12_both_98 rfl rfl ?_
    refine g_lconst (v := 0) dX12_both_99 (by decide) ?_
    refine g_lcmp dX12_both_100 ?_
    refine g_if_ne 108 dX12_both_101 (by decide) (fun q18 => ?_) (fun q18 => ?_)
    · refine g_lload_n 1 dX12_both_108 rfl rfl ?_
      refine g_lload_n 2 dX12_both_109 rfl rfl ?_
      refine g_lrem dX12_both_110 (h18 q1 q2 q3 q5 q7 q9 q11 q13 q14 q15 q17 q18) ?_
      exact g_lret dX12_both_111 rfl enSH (h19 q1 q2 q3 q5 q7 q9 q11 q13 q14 q15 q17 q18)
    · refine g_lconst (v := 0) dX12_both_104 (by decide) ?_
      refine g_goto 111 dX12_both_105 (by decide) ?_
      exact g_lret dX12_both_111 rfl enSH (h20 q1 q2 q3 q5 q7 q9 q11 q13 q14 q15 q17 q18)
  by_cases q19 : x0 = 9
  · refine g_tabIn 191 dX12_both_1 (by rw [q19]; decide) (by rw [q19]; decide) (by rw [q19]; rfl) (by decide) ?_
    refine g_lload_n 1 dX12_both_191 rfl rfl ?_
    refine g_lload_n 2 dX12_both_192 rfl rfl ?_
    refine g_lor dX12_both_193 ?_
    exact g_lret dX12_both_194 rfl enSH (h21 q1 q2 q3 q5 q7 q9 q11 q13 q14 q15 q17 q19)
  by_cases q20 : x0 = 11
  · refine g_tabIn 191 dX12_both_1 (by rw [q20]; decide) (by rw [q20]; decide) (by rw [q20]; rfl) (by decide) ?_
    refine g_lload_n 1 dX12_both_191 rfl rfl ?_
    refine g_lload_n 2 dX12_both_192 rfl rfl ?_
    refine g_lor dX12_both_193 ?_
    exact g_lret dX12_both_194 rfl enSH (h22 q1 q2 q3 q5 q7 q9 q11 q13 q14 q15 q17 q19 q20)
  by_cases q21 : x0 = 12
  · refine g_tabIn 191 dX12_both_1 (by rw [q21]; decide) (by rw [q21]; decide) (by rw [q21]; rfl) (by decide) ?_
    refine g_lload_n 1 dX12_both_191 rfl rfl ?_
    refine g_lload_n 2 dX12_both_192 rfl rfl ?_
    refine g_lor dX12_both_193 ?_
    exact g_lret dX12_both_194 rfl enSH (h23 q1 q2 q3 q5 q7 q9 q11 q13 q14 q15 q17 q19 q20 q21)
  refine g_tabOut 191 dX12_both_1 (p_tabD (fun k hk1 hk2 => ?_)) (by decide) ?_
  · have hk : k = 2 ∨ k = 3 ∨ k = 4 ∨ k = 5 ∨ k = 6 ∨ k = 7 ∨ k = 8 ∨ k = 9 ∨ k = 10 ∨ k = 11 ∨ k = 12 ∨ k = 13 ∨ k = 14 ∨ k = 15 := by omega
    rcases hk with rfl | rfl | rfl | rfl | rfl | rfl | rfl | rfl | rfl | rfl | rfl | rfl | rfl | rfl
    · exact q1
    · exact q2
    · exact q3
    · exact q5
    · exact q7
    · exact q9
    · exact q11
    · exact q19
    · exact q13
    · exact q20
    · exact q21
    · exact q14
    · exact q15
    · exact q17
  refine g_lload_n 1 dX12_both_191 rfl rfl ?_
  refine g_lload_n 2 dX12_both_192 rfl rfl ?_
  refine g_lor dX12_both_193 ?_
  exact g_lret dX12_both_194 rfl enSH (h24 q1 q2 q3 q5 q7 q9 q11 q13 q14 q15 q17 q19 q20 q21)
theorem bX12_wealthNow_0 {X : pX} {Q : Option Value → pMem → Prop} {m : pMem} (hW : Wf m)
    (h1 : vp_in (mI m 536 4) 7)
    (h2 : Go X 2 mX12_wealthNow Q 18 [(0, .ref 535), (1, .int (wSum (mI m 543) (tAt (mI m 539) ((10 : Int32) + (mI m 536 2)) (mI m 536 4).toNatClampNeg) (mI m 536 4).toNatClampNeg)), (2, .int (0 : Int32))] [] m) :
    Go X 2 mX12_wealthNow Q 0 [(0, .ref 535)] [] m := by
  refine g_aload_n 0 dX12_wealthNow_0 rfl rfl ?_
  refine g_aload_n 0 dX12_wealthNow_1 rfl rfl ?_
  refine g_bipush (v := 10) dX12_wealthNow_2 (by decide) ?_
  refine g_aload_n 0 dX12_wealthNow_4 rfl rfl ?_
  refine g_callV (As := []) (st := [.int (10 : Int32), .ref 535, .ref 535]) dX12_wealthNow_5 clX12_352 sh535 rfl rfl (Nat.le_of_ble_eq_true rfl) (rmSH (by decide) (by decide)) (s_town hW ?_)
  show Go X 2 mX12_wealthNow Q 8 [(0, .ref 535)] [.int (mI m 536 2), .int (10 : Int32), .ref 535, .ref 535] m
  refine g_iadd dX12_wealthNow_8 ?_
  refine g_callV (As := [.int ((10 : Int32) + (mI m 536 2))]) (st := [.ref 535]) dX12_wealthNow_9 clX12_338 sh535 rfl rfl (Nat.le_of_ble_eq_true rfl) (rmSH (by decide) (by decide)) (s_mThings hW h1 ?_)
  show Go X 2 mX12_wealthNow Q 12 [(0, .ref 535)] [.int (tAt (mI m 539) ((10 : Int32) + (mI m 536 2)) (mI m 536 4).toNatClampNeg), .ref 535] m
  refine g_callV (As := [.int (tAt (mI m 539) ((10 : Int32) + (mI m 536 2)) (mI m 536 4).toNatClampNeg)]) (st := []) dX12_wealthNow_12 clX12_344 sh535 rfl rfl (Nat.le_of_ble_eq_true rfl) (rmSH (by decide) (by decide)) (s_mWorth hW h1 ?_)
  show Go X 2 mX12_wealthNow Q 15 [(0, .ref 535)] [.int (wSum (mI m 543) (tAt (mI m 539) ((10 : Int32) + (mI m 536 2)) (mI m 536 4).toNatClampNeg) (mI m 536 4).toNatClampNeg)] m
  refine g_istore_n (ls2 := [(1, .int (wSum (mI m 543) (tAt (mI m 539) ((10 : Int32) + (mI m 536 2)) (mI m 536 4).toNatClampNeg) (mI m 536 4).toNatClampNeg)), (0, .ref 535)]) dX12_wealthNow_15 rfl (by decide) rfl ?_
  refine g_iconst (v := 0) dX12_wealthNow_16 (by decide) ?_
  refine g_istore_n (ls2 := [(2, .int (0 : Int32)), (1, .int (wSum (mI m 543) (tAt (mI m 539) ((10 : Int32) + (mI m 536 2)) (mI m 536 4).toNatClampNeg) (mI m 536 4).toNatClampNeg)), (0, .ref 535)]) dX12_wealthNow_17 rfl (by decide) rfl ?_
  exact g_ls [2, 1, 0] rfl h2
theorem bX12_wealthNow_18 {X : pX} {Q : Option Value → pMem → Prop} {m : pMem} {x1 : Int32} {x2 : Int32} (hW : Wf m)
    (h1 : (mI m 536 3) ≤ x2 → Q (some (.int x1)) m)
    (h2 : ¬ ((mI m 536 3) ≤ x2) → vp_in x2 4)
    (h3 : ¬ ((mI m 536 3) ≤ x2) → ¬ (mI m 537 x2.toNatClampNeg) = (mI m 536 2) → Go X 2 mX12_wealthNow Q 18 [(0, .ref 535), (1, .int (x1 + (0 : Int32))), (2, .int (x2 + (1 : Int32)))] [] m)
    (h4 : ¬ ((mI m 536 3) ≤ x2) → (mI m 537 x2.toNatClampNeg) = (mI m 536 2) → vp_in (mI m 536 4) 7)
    (h5 : ¬ ((mI m 536 3) ≤ x2) → (mI m 537 x2.toNatClampNeg) = (mI m 536 2) → Go X 2 mX12_wealthNow Q 18 [(0, .ref 535), (1, .int (x1 + (wSum (mI m 543) (tAt (mI m 539) x2 (mI m 536 4).toNatClampNeg) (mI m 536 4).toNatClampNeg))), (2, .int (x2 + (1 : Int32)))] [] m) :
    Go X 2 mX12_wealthNow Q 18 [(0, .ref 535), (1, .int x1), (2, .int x2)] [] m := by
  refine g_iload_n 2 dX12_wealthNow_18 rfl rfl ?_
  refine g_aload_n 0 dX12_wealthNow_19 rfl rfl ?_
  refine g_getR dX12_wealthNow_20 fl12_9 rfl sh535 (w12_1 hW sh535) ?_
  refine g_iconst (v := 3) dX12_wealthNow_23 (by decide) ?_
  refine g_iald (j := 3) dX12_wealthNow_24 (s12_1 sh535) (by unfold vp_in; decide) (by decide) ?_
  refine g_icmp_ge 63 dX12_wealthNow_25 (by decide) (fun q1 => ?_) (fun q1 => ?_)
  · refine g_iload_n 1 dX12_wealthNow_63 rfl rfl ?_
    exact g_iret dX12_wealthNow_64 rfl enSH (h1 q1)
  · refine g_iload_n 1 dX12_wealthNow_28 rfl rfl ?_
    refine g_aload_n 0 dX12_wealthNow_29 rfl rfl ?_
    refine g_getR dX12_wealthNow_30 fl12_13 rfl sh535 (w12_2 hW sh535) ?_
    refine g_iload_n 2 dX12_wealthNow_33 rfl rfl ?_
    refine g_iald (j := x2.toNatClampNeg) dX12_wealthNow_34 (s12_2 sh535) (h2 q1) rfl ?_
    refine g_aload_n 0 dX12_wealthNow_35 rfl rfl ?_
    refine g_callV (As := []) (st := [.int (mI m 537 x2.toNatClampNeg), .int x1]) dX12_wealthNow_36 clX12_352 sh535 rfl rfl (Nat.le_of_ble_eq_true rfl) (rmSH (by decide) (by decide)) (s_town hW ?_)
    show Go X 2 mX12_wealthNow Q 39 [(0, .ref 535), (1, .int x1), (2, .int x2)] [.int (mI m 536 2), .int (mI m 537 x2.toNatClampNeg), .int x1] m
    refine g_icmp_ne 54 dX12_wealthNow_39 (by decide) (fun q2 => ?_) (fun q2 => ?_)
    · refine g_iconst (v := 0) dX12_wealthNow_54 (by decide) ?_
      refine g_iadd dX12_wealthNow_55 ?_
      refine g_istore_n (ls2 := [(1, .int (x1 + (0 : Int32))), (0, .ref 535), (2, .int x2)]) dX12_wealthNow_56 rfl (by decide) rfl ?_
      refine g_iinc (v := x2 + (1 : Int32)) (ls2 := [(2, .int (x2 + (1 : Int32))), (1, .int (x1 + (0 : Int32))), (0, .ref 535)]) 2 dX12_wealthNow_57 rfl rfl (by decide) rfl ?_
      refine g_goto 18 dX12_wealthNow_60 (by decide) ?_
      exact g_ls [2, 1, 0] rfl (h3 q1 q2)
    · refine g_aload_n 0 dX12_wealthNow_42 rfl rfl ?_
      refine g_aload_n 0 dX12_wealthNow_43 rfl rfl ?_
      refine g_iload_n 2 dX12_wealthNow_44 rfl rfl ?_
      refine g_callV (As := [.int x2]) (st := [.ref 535, .int x1]) dX12_wealthNow_45 clX12_338 sh535 rfl rfl (Nat.le_of_ble_eq_true rfl) (rmSH (by decide) (by decide)) (s_mThings hW (h4 q1 q2) ?_)
      show Go X 2 mX12_wealthNow Q 48 [(0, .ref 535), (1, .int x1), (2, .int x2)] [.int (tAt (mI m 539) x2 (mI m 536 4).toNatClampNeg), .ref 535, .int x1] m
      refine g_callV (As := [.int (tAt (mI m 539) x2 (mI m 536 4).toNatClampNeg)]) (st := [.int x1]) dX12_wealthNow_48 clX12_344 sh535 rfl rfl (Nat.le_of_ble_eq_true rfl) (rmSH (by decide) (by decide)) (s_mWorth hW (h4 q1 q2) ?_)
      show Go X 2 mX12_wealthNow Q 51 [(0, .ref 535), (1, .int x1), (2, .int x2)] [.int (wSum (mI m 543) (tAt (mI m 539) x2 (mI m 536 4).toNatClampNeg) (mI m 536 4).toNatClampNeg), .int x1] m
      refine g_goto 55 dX12_wealthNow_51 (by decide) ?_
      refine g_iadd dX12_wealthNow_55 ?_
      refine g_istore_n (ls2 := [(1, .int (x1 + (wSum (mI m 543) (tAt (mI m 539) x2 (mI m 536 4).toNatClampNeg) (mI m 536 4).toNatClampNeg))), (0, .ref 535), (2, .int x2)]) dX12_wealthNow_56 rfl (by decide) rfl ?_
      refine g_iinc (v := x2 + (1 : Int32)) (ls2 := [(2, .int (x2 + (1 : Int32))), (1, .int (x1 + (wSum (mI m 543) (tAt (mI m 539) x2 (mI m 536 4).toNatClampNeg) (mI m 536 4).toNatClampNeg))), (0, .ref 535)]) 2 dX12_wealthNow_57 rfl rfl (by decide) rfl ?_
      refine g_goto 18 dX12_wealthNow_60 (by decide) ?_
      exact g_ls [2, 1, 0] rfl (h5 q1 q2)
