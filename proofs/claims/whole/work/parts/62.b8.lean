theorem bX12_answer_0 {X : pX} {Q : Option Value → pMem → Prop} {m : pMem} {x1 : Int32} {x2 : Int32} {x3 : Int32} (hW : Wf m)
    (h1 : Go X 2 mX12_answer Q 6 [(0, .ref 535), (1, .int x1), (3, .int x3), (4, .int (0 : Int32)), (5, .int x2)] [] m) :
    Go X 2 mX12_answer Q 0 [(0, .ref 535), (1, .int x1), (2, .int x2), (3, .int x3)] [] m := by
  refine g_iconst (v := 0) dX12_answer_0 (by decide) ?_
  refine g_istore (ls2 := [(4, .int (0 : Int32)), (0, .ref 535), (1, .int x1), (2, .int x2), (3, .int x3)]) dX12_answer_1 (by decide) rfl ?_
  refine g_iload_n 3 dX12_answer_3 rfl rfl ?_
  refine g_istore (ls2 := [(5, .int x2), (4, .int (0 : Int32)), (0, .ref 535), (1, .int x1), (2, .int x2), (3, .int x3)]) dX12_answer_4 (by decide) rfl ?_
  exact g_ls [2, 3, 5, 1, 0] rfl h1
theorem bX12_answer_6 {X : pX} {Q : Option Value → pMem → Prop} {m : pMem} {x1 : Int32} {x3 : Int32} {x4 : Int32} {x5 : Int32} (hW : Wf m)
    (h1 : x3 ≤ x5 → Q (some (.long (mL m 563 0))) m)
    (h2 : ¬ (x3 ≤ x5) → vp_in (((300 : Int32) * x1) + x5) 1800)
    (h3 : ¬ (x3 ≤ x5) → (mI m 555 ((((300 : Int32) * x1) + x5).toNatClampNeg)) = 0 → Go X 2 mX12_answer Q 53 [(0, .ref 535), (1, .int x1), (3, .int x3), (4, .int x4), (5, .int x5), (6, .int (mI m 555 ((((300 : Int32) * x1) + x5).toNatClampNeg))), (7, .int (mI m 556 ((((300 : Int32) * x1) + x5).toNatClampNeg)))] [] m)
    (h4 : ¬ (x3 ≤ x5) → ¬ ((mI m 555 ((((300 : Int32) * x1) + x5).toNatClampNeg)) = 0) → ¬ (mI m 555 ((((300 : Int32) * x1) + x5).toNatClampNeg)) = (1 : Int32) → ¬ (mI m 555 ((((300 : Int32) * x1) + x5).toNatClampNeg)) = (9 : Int32) → vp_in ((x4 + (-1 : Int32)) - (1 : Int32)) 300)
    (h5 : ¬ (x3 ≤ x5) → ¬ ((mI m 555 ((((300 : Int32) * x1) + x5).toNatClampNeg)) = 0) → ¬ (mI m 555 ((((300 : Int32) * x1) + x5).toNatClampNeg)) = (1 : Int32) → ¬ (mI m 555 ((((300 : Int32) * x1) + x5).toNatClampNeg)) = (9 : Int32) → vp_in (x4 + (-1 : Int32)) 300)
    (h6 : ¬ (x3 ≤ x5) → ¬ ((mI m 555 ((((300 : Int32) * x1) + x5).toNatClampNeg)) = 0) → ¬ (mI m 555 ((((300 : Int32) * x1) + x5).toNatClampNeg)) = (1 : Int32) → ¬ (mI m 555 ((((300 : Int32) * x1) + x5).toNatClampNeg)) = (9 : Int32) → Go X 2 mX12_answer Q 6 [(0, .ref 535), (1, .int x1), (3, .int x3), (4, .int (x4 + (-1 : Int32))), (5, .int (x5 + (1 : Int32)))] [] (uL m 563 (((x4 + (-1 : Int32)) - (1 : Int32)).toNatClampNeg) (bothM (mI m 555 ((((300 : Int32) * x1) + x5).toNatClampNeg)) (mL m 563 (((x4 + (-1 : Int32)) - (1 : Int32)).toNatClampNeg)) (mL m 563 ((x4 + (-1 : Int32)).toNatClampNeg)))))
    (h7 : ¬ (x3 ≤ x5) → ¬ ((mI m 555 ((((300 : Int32) * x1) + x5).toNatClampNeg)) = 0) → ¬ (mI m 555 ((((300 : Int32) * x1) + x5).toNatClampNeg)) = (1 : Int32) → (mI m 555 ((((300 : Int32) * x1) + x5).toNatClampNeg)) = (9 : Int32) → vp_in (x4 - (1 : Int32)) 300)
    (h8 : ¬ (x3 ≤ x5) → ¬ ((mI m 555 ((((300 : Int32) * x1) + x5).toNatClampNeg)) = 0) → ¬ (mI m 555 ((((300 : Int32) * x1) + x5).toNatClampNeg)) = (1 : Int32) → (mI m 555 ((((300 : Int32) * x1) + x5).toNatClampNeg)) = (9 : Int32) → Go X 2 mX12_answer Q 6 [(0, .ref 535), (1, .int x1), (3, .int x3), (4, .int x4), (5, .int (x5 + (1 : Int32)))] [] (uL m 563 ((x4 - (1 : Int32)).toNatClampNeg) ((1 : Int64) - (mL m 563 ((x4 - (1 : Int32)).toNatClampNeg)))))
    (h9 : ¬ (x3 ≤ x5) → ¬ ((mI m 555 ((((300 : Int32) * x1) + x5).toNatClampNeg)) = 0) → (mI m 555 ((((300 : Int32) * x1) + x5).toNatClampNeg)) = (1 : Int32) → Go X 2 mX12_answer Q 53 [(0, .ref 535), (1, .int x1), (3, .int x3), (4, .int x4), (5, .int x5), (6, .int (mI m 555 ((((300 : Int32) * x1) + x5).toNatClampNeg))), (7, .int (mI m 556 ((((300 : Int32) * x1) + x5).toNatClampNeg)))] [] m) :
    Go X 2 mX12_answer Q 6 [(0, .ref 535), (1, .int x1), (3, .int x3), (4, .int x4), (5, .int x5)] [] m := by
  refine g_iload 4 dX12_answer_6 rfl ?_
  refine g_iload_n 2 dX12_answer_8 rfl rfl ?_
  refine g_icmp_ge 153 dX12_answer_9 (by decide) (fun q1 => ?_) (fun q1 => ?_)
  · refine g_aload_n 0 dX12_answer_153 rfl rfl ?_
    refine g_getR dX12_answer_154 fl12_97 rfl sh535 (w12_38 hW sh535) ?_
    refine g_iconst (v := 0) dX12_answer_157 (by decide) ?_
    refine g_lald (j := 0) dX12_answer_158 (s12_38 sh535) (by unfold vp_in; decide) (by decide) ?_
    exact g_lret dX12_answer_159 rfl enSH (h1 q1)
  · refine g_aload_n 0 dX12_answer_12 rfl rfl ?_
    refine g_getR dX12_answer_13 fl12_72 rfl sh535 (w12_30 hW sh535) ?_
    refine g_sipush (v := 300) dX12_answer_16 (by decide) ?_
    refine g_iload_n 1 dX12_answer_19 rfl rfl ?_
    refine g_imul dX12_answer_20 ?_
    refine g_iload 4 dX12_answer_21 rfl ?_
    refine g_iadd dX12_answer_23 ?_
    refine g_iald (j := (((300 : Int32) * x1) + x5).toNatClampNeg) dX12_answer_24 (s12_30 sh535) (h2 q1) rfl ?_
    refine g_istore (ls2 := [(6, .int (mI m 555 ((((300 : Int32) * x1) + x5).toNatClampNeg))), (0, .ref 535), (1, .int x1), (3, .int x3), (4, .int x4), (5, .int x5)]) dX12_answer_25 (by decide) rfl ?_
    refine g_aload_n 1 dX12_answer_27 rfl rfl ?_
    refine g_getR dX12_answer_28 fl12_75 rfl sh535 (w12_31 hW sh535) ?_
    refine g_sipush (v := 300) dX12_answer_31 (by decide) ?_
    refine g_iload_n 2 dX12_answer_34 rfl rfl ?_
    refine g_imul dX12_answer_35 ?_
    refine g_iload 5 dX12_answer_36 rfl ?_
    refine g_iadd dX12_answer_38 ?_
    refine g_iald (j := (((300 : Int32) * x1) + x5).toNatClampNeg) dX12_answer_39 (s12_31 sh535) (h2 q1) rfl ?_
    refine g_istore (ls2 := [(7, .int (mI m 556 ((((300 : Int32) * x1) + x5).toNatClampNeg))), (6, .int (mI m 555 ((((300 : Int32) * x1) + x5).toNatClampNeg))), (0, .ref 535), (1, .int x1), (3, .int x3), (4, .int x4), (5, .int x5)]) dX12_answer_40 (by decide) rfl ?_
    refine g_iload 1 dX12_answer_42 rfl ?_
    refine g_if_eq 53 dX12_answer_44 (by decide) (fun q2 => ?_) (fun q2 => ?_)
    · exact g_ls [2, 3, 4, 5, 6, 1, 0] rfl (h3 q1 q2)
    · refine g_iload 1 dX12_answer_47 rfl ?_
      refine g_iconst (v := 1) dX12_answer_49 (by decide) ?_
      refine g_icmp_ne 84 dX12_answer_50 (by decide) (fun q3 => ?_) (fun q3 => ?_)
      · refine g_iload 1 dX12_answer_84 rfl ?_
        refine g_bipush (v := 9) dX12_answer_86 (by decide) ?_
        refine g_icmp_ne 114 dX12_answer_88 (by decide) (fun q4 => ?_) (fun q4 => ?_)
        · refine g_iinc (v := x4 + (-1 : Int32)) (ls2 := [(4, .int (x4 + (-1 : Int32))), (7, .int (mI m 556 ((((300 : Int32) * x1) + x5).toNatClampNeg))), (6, .int (mI m 555 ((((300 : Int32) * x1) + x5).toNatClampNeg))), (0, .ref 535), (1, .int x1), (3, .int x3), (5, .int x5)]) 5 dX12_answer_114 rfl rfl (by decide) rfl ?_
          refine g_aload_n 3 dX12_answer_117 rfl rfl ?_
          refine g_getR dX12_answer_118 fl12_97 rfl sh535 (w12_38 hW sh535) ?_
          refine g_iload 0 dX12_answer_121 rfl ?_
          refine g_iconst (v := 1) dX12_answer_123 (by decide) ?_
          refine g_isub dX12_answer_124 ?_
          refine g_iload 2 dX12_answer_125 rfl ?_
          refine g_aload_n 3 dX12_answer_127 rfl rfl ?_
          refine g_getR dX12_answer_128 fl12_97 rfl sh535 (w12_38 hW sh535) ?_
          refine g_iload 0 dX12_answer_131 rfl ?_
          refine g_iconst (v := 1) dX12_answer_133 (by decide) ?_
          refine g_isub dX12_answer_134 ?_
          refine g_lald (j := ((x4 + (-1 : Int32)) - (1 : Int32)).toNatClampNeg) dX12_answer_135 (s12_38 sh535) (h4 q1 q2 q3 q4) rfl ?_
          refine g_aload_n 3 dX12_answer_136 rfl rfl ?_
          refine g_getR dX12_answer_137 fl12_97 rfl sh535 (w12_38 hW sh535) ?_
          refine g_iload 0 dX12_answer_140 rfl ?_
          refine g_lald (j := (x4 + (-1 : Int32)).toNatClampNeg) dX12_answer_142 (s12_38 sh535) (h5 q1 q2 q3 q4) rfl ?_
          refine g_callS (As := [.int (mI m 555 ((((300 : Int32) * x1) + x5).toNatClampNeg)), .long (mL m 563 (((x4 + (-1 : Int32)) - (1 : Int32)).toNatClampNeg)), .long (mL m 563 ((x4 + (-1 : Int32)).toNatClampNeg))]) (st := [.int ((x4 + (-1 : Int32)) - (1 : Int32)), .ref 563]) dX12_answer_143 clX12_328 rfl rfl (Nat.le_of_ble_eq_true rfl) (rmSH (by decide) (by decide)) (s_both hW ?_)
          show Go X 2 mX12_answer Q 146 [(4, .int (x4 + (-1 : Int32))), (7, .int (mI m 556 ((((300 : Int32) * x1) + x5).toNatClampNeg))), (6, .int (mI m 555 ((((300 : Int32) * x1) + x5).toNatClampNeg))), (0, .ref 535), (1, .int x1), (3, .int x3), (5, .int x5)] [.long (bothM (mI m 555 ((((300 : Int32) * x1) + x5).toNatClampNeg)) (mL m 563 (((x4 + (-1 : Int32)) - (1 : Int32)).toNatClampNeg)) (mL m 563 ((x4 + (-1 : Int32)).toNatClampNeg))), .int ((x4 + (-1 : Int32)) - (1 : Int32)), .ref 563] m
          refine g_last (j := ((x4 + (-1 : Int32)) - (1 : Int32)).toNatClampNeg) dX12_answer_146 (s12_38 sh535) (h4 q1 q2 q3 q4) rfl ?_
          refine g_iinc (v := x5 + (1 : Int32)) (ls2 := [(5, .int (x5 + (1 : Int32))), (4, .int (x4 + (-1 : Int32))), (7, .int (mI m 556 ((((300 : Int32) * x1) + x5).toNatClampNeg))), (6, .int (mI m 555 ((((300 : Int32) * x1) + x5).toNatClampNeg))), (0, .ref 535), (1, .int x1), (3, .int x3)]) 6 dX12_answer_147 rfl rfl (by decide) rfl ?_
          refine g_goto 6 dX12_answer_150 (by decide) ?_
          exact g_ls [4, 5, 6, 1, 0] rfl (h6 q1 q2 q3 q4)
        · refine g_aload_n 2 dX12_answer_91 rfl rfl ?_
          refine g_getR dX12_answer_92 fl12_97 rfl sh535 (w12_38 hW sh535) ?_
          refine g_iload 5 dX12_answer_95 rfl ?_
          refine g_iconst (v := 1) dX12_answer_97 (by decide) ?_
          refine g_isub dX12_answer_98 ?_
          refine g_lconst (v := 1) dX12_answer_99 (by decide) ?_
          refine g_aload_n 2 dX12_answer_100 rfl rfl ?_
          refine g_getR dX12_answer_101 fl12_97 rfl sh535 (w12_38 hW sh535) ?_
          refine g_iload 5 dX12_answer_104 rfl ?_
          refine g_iconst (v := 1) dX12_answer_106 (by decide) ?_
          refine g_isub dX12_answer_107 ?_
          refine g_lald (j := (x4 - (1 : Int32)).toNatClampNeg) dX12_answer_108 (s12_38 sh535) (h7 q1 q2 q3 q4) rfl ?_
          refine g_lsub dX12_answer_109 ?_
          refine g_last (j := (x4 - (1 : Int32)).toNatClampNeg) dX12_answer_110 (s12_38 sh535) (h7 q1 q2 q3 q4) rfl ?_
          refine g_goto 147 dX12_answer_111 (by decide) ?_
          refine g_iinc (v := x5 + (1 : Int32)) (ls2 := [(5, .int (x5 + (1 : Int32))), (7, .int (mI m 556 ((((300 : Int32) * x1) + x5).toNatClampNeg))), (6, .int (mI m 555 ((((300 : Int32) * x1) + x5).toNatClampNeg))), (0, .ref 535), (1, .int x1), (3, .int x3), (4, .int x4)]) 6 dX12_answer_147 rfl rfl (by decide) rfl ?_
          refine g_goto 6 dX12_answer_150 (by decide) ?_
          exact g_ls [3, 4, 5, 6, 0] rfl (h8 q1 q2 q3 q4)
      · exact g_ls [2, 3, 4, 5, 6, 1, 0] rfl (h9 q1 q2 q3)
theorem bX12_answer_53 {X : pX} {Q : Option Value → pMem → Prop} {m : pMem} {x1 : Int32} {x3 : Int32} {x4 : Int32} {x5 : Int32} {x6 : Int32} {x7 : Int32} (hW : Wf m)
    (h1 : ¬ x6 = 0 → vp_in x7 12)
    (h2 : ¬ x6 = 0 → vp_in x4 300)
    (h3 : ¬ x6 = 0 → Go X 2 mX12_answer Q 6 [(0, .ref 535), (1, .int x1), (3, .int x3), (4, .int (x4 + (1 : Int32))), (5, .int (x5 + (1 : Int32)))] [] (uL m 563 x4.toNatClampNeg (mL m 562 x7.toNatClampNeg)))
    (h4 : x6 = 0 → vp_in x4 300)
    (h5 : x6 = 0 → Go X 2 mX12_answer Q 6 [(0, .ref 535), (1, .int x1), (3, .int x3), (4, .int (x4 + (1 : Int32))), (5, .int (x5 + (1 : Int32)))] [] (uL m 563 x4.toNatClampNeg x7.toInt64)) :
    Go X 2 mX12_answer Q 53 [(0, .ref 535), (1, .int x1), (3, .int x3), (4, .int x4), (5, .int x5), (6, .int x6), (7, .int x7)] [] m := by
  refine g_aload_n 0 dX12_answer_53 rfl rfl ?_
  refine g_getR dX12_answer_54 fl12_97 rfl sh535 (w12_38 hW sh535) ?_
  refine g_iload 3 dX12_answer_57 rfl ?_
  refine g_iload 5 dX12_answer_59 rfl ?_
  refine g_if_ne 70 dX12_answer_61 (by decide) (fun q1 => ?_) (fun q1 => ?_)
  · refine g_aload_n 0 dX12_answer_70 rfl rfl ?_
    refine g_getR dX12_answer_71 fl12_93 rfl sh535 (w12_37 hW sh535) ?_
    refine g_iload 6 dX12_answer_74 rfl ?_
    refine g_lald (j := x7.toNatClampNeg) dX12_answer_76 (s12_37 sh535) (h1 q1) rfl ?_
    refine g_last (j := x4.toNatClampNeg) dX12_answer_77 (s12_38 sh535) (h2 q1) rfl ?_
    refine g_iinc (v := x4 + (1 : Int32)) (ls2 := [(4, .int (x4 + (1 : Int32))), (0, .ref 535), (1, .int x1), (3, .int x3), (5, .int x5), (6, .int x6), (7, .int x7)]) 3 dX12_answer_78 rfl rfl (by decide) rfl ?_
    refine g_goto 147 dX12_answer_81 (by decide) ?_
    refine g_iinc (v := x5 + (1 : Int32)) (ls2 := [(5, .int (x5 + (1 : Int32))), (4, .int (x4 + (1 : Int32))), (0, .ref 535), (1, .int x1), (3, .int x3), (6, .int x6), (7, .int x7)]) 4 dX12_answer_147 rfl rfl (by decide) rfl ?_
    refine g_goto 6 dX12_answer_150 (by decide) ?_
    exact g_ls [2, 3, 4, 1, 0] rfl (h3 q1)
  · refine g_iload 6 dX12_answer_64 rfl ?_
    refine g_i2l dX12_answer_66 ?_
    refine g_goto 77 dX12_answer_67 (by decide) ?_
    refine g_last (j := x4.toNatClampNeg) dX12_answer_77 (s12_38 sh535) (h4 q1) rfl ?_
    refine g_iinc (v := x4 + (1 : Int32)) (ls2 := [(4, .int (x4 + (1 : Int32))), (0, .ref 535), (1, .int x1), (3, .int x3), (5, .int x5), (6, .int x6), (7, .int x7)]) 3 dX12_answer_78 rfl rfl (by decide) rfl ?_
    refine g_goto 147 dX12_answer_81 (by decide) ?_
    refine g_iinc (v := x5 + (1 : Int32)) (ls2 := [(5, .int (x5 + (1 : Int32))), (4, .int (x4 + (1 : Int32))), (0, .ref 535), (1, .int x1), (3, .int x3), (6, .int x6), (7, .int x7)]) 4 dX12_answer_147 rfl rfl (by decide) rfl ?_
    refine g_goto 6 dX12_answer_150 (by decide) ?_
    exact g_ls [2, 3, 4, 1, 0] rfl (h5 q1)
theorem bX12_wanted_0 {X : pX} {Q : Option Value → pMem → Prop} {m : pMem} (hW : Wf m)
    (h1 : Go X 3 mX12_wanted Q 13 [(0, .ref 535), (1, .int (mI m 536 8)), (2, .int ((12 : Int32) * (mI m 536 8)))] [] m) :
    Go X 3 mX12_wanted Q 0 [(0, .ref 535)] [] m := by
  refine g_aload_n 0 dX12_wanted_0 rfl rfl ?_
  refine g_getR dX12_wanted_1 fl12_9 rfl sh535 (w12_1 hW sh535) ?_
  refine g_bipush (v := 8) dX12_wanted_4 (by decide) ?_
  refine g_iald (j := 8) dX12_wanted_6 (s12_1 sh535) (by unfold vp_in; decide) (by decide) ?_
  refine g_istore_n (ls2 := [(1, .int (mI m 536 8)), (0, .ref 535)]) dX12_wanted_7 rfl (by decide) rfl ?_
  refine g_bipush (v := 12) dX12_wanted_8 (by decide) ?_
  refine g_iload_n 0 dX12_wanted_10 rfl rfl ?_
  refine g_imul dX12_wanted_11 ?_
  refine g_istore_n (ls2 := [(2, .int ((12 : Int32) * (mI m 536 8))), (1, .int (mI m 536 8)), (0, .ref 535)]) dX12_wanted_12 rfl (by decide) rfl ?_
  exact g_ls [2, 1, 0] rfl h1
theorem bX12_wanted_13 {X : pX} {Q : Option Value → pMem → Prop} {m : pMem} {x1 : Int32} {x2 : Int32} (hW : Wf m)
    (h1 : vp_in x1 6)
    (h2 : (((12 : Int32) * x1) + (mI m 557 x1.toNatClampNeg)) ≤ x2 → Q (some (.long (0 : Int64))) m)
    (h3 : ¬ ((((12 : Int32) * x1) + (mI m 557 x1.toNatClampNeg)) ≤ x2) → vp_in x2 72)
    (h4 : ¬ ((((12 : Int32) * x1) + (mI m 557 x1.toNatClampNeg)) ≤ x2) → (mI m 559 x2.toNatClampNeg) = (mI m 560 x2.toNatClampNeg) → Go X 3 mX12_wanted Q 65 [(0, .ref 535), (1, .int x1), (2, .int x2)] [] m)
    (h5 : ¬ ((((12 : Int32) * x1) + (mI m 557 x1.toNatClampNeg)) ≤ x2) → ¬ ((mI m 559 x2.toNatClampNeg) = (mI m 560 x2.toNatClampNeg)) → vp_in x2 72)
    (h6 : ¬ ((((12 : Int32) * x1) + (mI m 557 x1.toNatClampNeg)) ≤ x2) → ¬ ((mI m 559 x2.toNatClampNeg) = (mI m 560 x2.toNatClampNeg)) → Cl X 2 mX12_answer [.ref 535, .int x1, .int (mI m 559 x2.toNatClampNeg), .int (mI m 560 x2.toNatClampNeg)] m (fun v m2 => Go X 3 mX12_wanted Q 60 [(0, .ref 535), (1, .int x1), (2, .int x2)] (v.toList ++ []) m2)) :
    Go X 3 mX12_wanted Q 13 [(0, .ref 535), (1, .int x1), (2, .int x2)] [] m := by
  refine g_iload_n 2 dX12_wanted_13 rfl rfl ?_
  refine g_bipush (v := 12) dX12_wanted_14 (by decide) ?_
  refine g_iload_n 1 dX12_wanted_16 rfl rfl ?_
  refine g_imul dX12_wanted_17 ?_
  refine g_aload_n 0 dX12_wanted_18 rfl rfl ?_
  refine g_getR dX12_wanted_19 fl12_78 rfl sh535 (w12_32 hW sh535) ?_
  refine g_iload_n 1 dX12_wanted_22 rfl rfl ?_
  refine g_iald (j := x1.toNatClampNeg) dX12_wanted_23 (s12_32 sh535) h1 rfl ?_
  refine g_iadd dX12_wanted_24 ?_
  refine g_icmp_ge 89 dX12_wanted_25 (by decide) (fun q1 => ?_) (fun q1 => ?_)
  · refine g_lconst (v := 0) dX12_wanted_89 (by decide) ?_
    exact g_lret dX12_wanted_90 rfl enSH (h2 q1)
  · refine g_aload_n 0 dX12_wanted_28 rfl rfl ?_
    refine g_getR dX12_wanted_29 fl12_84 rfl sh535 (w12_34 hW sh535) ?_
    refine g_iload_n 2 dX12_wanted_32 rfl rfl ?_
    refine g_iald (j := x2.toNatClampNeg) dX12_wanted_33 (s12_34 sh535) (h3 q1) rfl ?_
    refine g_aload_n 0 dX12_wanted_34 rfl rfl ?_
    refine g_getR dX12_wanted_35 fl12_87 rfl sh535 (w12_35 hW sh535) ?_
    refine g_iload_n 2 dX12_wanted_38 rfl rfl ?_
    refine g_iald (j := x2.toNatClampNeg) dX12_wanted_39 (s12_35 sh535) (h3 q1) rfl ?_
    refine g_icmp_eq 65 dX12_wanted_40 (by decide) (fun q2 => ?_) (fun q2 => ?_)
    · exact g_ls [0, 1, 2] rfl (h4 q1 q2)
    · refine g_aload_n 0 dX12_wanted_43 rfl rfl ?_
      refine g_iload_n 1 dX12_wanted_44 rfl rfl ?_
      refine g_aload_n 0 dX12_wanted_45 rfl rfl ?_
      refine g_getR dX12_wanted_46 fl12_84 rfl sh535 (w12_34 hW sh535) ?_
      refine g_iload_n 2 dX12_wanted_49 rfl rfl ?_
      refine g_iald (j := x2.toNatClampNeg) dX12_wanted_50 (s12_34 sh535) (h5 q1 q2) rfl ?_
      refine g_aload_n 0 dX12_wanted_51 rfl rfl ?_
      refine g_getR dX12_wanted_52 fl12_87 rfl sh535 (w12_35 hW sh535) ?_
      refine g_iload_n 2 dX12_wanted_55 rfl rfl ?_
      refine g_iald (j := x2.toNatClampNeg) dX12_wanted_56 (s12_35 sh535) (h5 q1 q2) rfl ?_
      exact g_callV (As := [.int x1, .int (mI m 559 x2.toNatClampNeg), .int (mI m 560 x2.toNatClampNeg)]) (st := []) dX12_wanted_57 clX12_320 sh535 rfl rfl (Nat.le_of_ble_eq_true rfl) (rmSH (by decide) (by decide)) (h6 q1 q2)
theorem bX12_wanted_65 {X : pX} {Q : Option Value → pMem → Prop} {m : pMem} {x1 : Int32} {x2 : Int32} (hW : Wf m)
    (h1 : vp_in x2 72)
    (h2 : Cl X 2 mX12_answer [.ref 535, .int x1, .int (mI m 558 x2.toNatClampNeg), .int (mI m 559 x2.toNatClampNeg)] m (fun v m2 => Go X 3 mX12_wanted Q 82 [(0, .ref 535), (1, .int x1), (2, .int x2)] (v.toList ++ []) m2)) :
    Go X 3 mX12_wanted Q 65 [(0, .ref 535), (1, .int x1), (2, .int x2)] [] m := by
  refine g_aload_n 0 dX12_wanted_65 rfl rfl ?_
  refine g_iload_n 1 dX12_wanted_66 rfl rfl ?_
  refine g_aload_n 0 dX12_wanted_67 rfl rfl ?_
  refine g_getR dX12_wanted_68 fl12_81 rfl sh535 (w12_33 hW sh535) ?_
  refine g_iload_n 2 dX12_wanted_71 rfl rfl ?_
  refine g_iald (j := x2.toNatClampNeg) dX12_wanted_72 (s12_33 sh535) h1 rfl ?_
  refine g_aload_n 0 dX12_wanted_73 rfl rfl ?_
  refine g_getR dX12_wanted_74 fl12_84 rfl sh535 (w12_34 hW sh535) ?_
  refine g_iload_n 2 dX12_wanted_77 rfl rfl ?_
  refine g_iald (j := x2.toNatClampNeg) dX12_wanted_78 (s12_34 sh535) h1 rfl ?_
  exact g_callV (As := [.int x1, .int (mI m 558 x2.toNatClampNeg), .int (mI m 559 x2.toNatClampNeg)]) (st := []) dX12_wanted_79 clX12_320 sh535 rfl rfl (Nat.le_of_ble_eq_true rfl) (rmSH (by decide) (by decide)) h2
theorem bX12_wanted_60 {X : pX} {Q : Option Value → pMem → Prop} {m : pMem} {x1 : Int32} {x2 : Int32} {ys0 : Int64} (hW : Wf m)
    (h1 : ¬ (lg_cmp ys0 (1 : Int64)) = 0 → Go X 3 mX12_wanted Q 13 [(0, .ref 535), (1, .int x1), (2, .int (x2 + (1 : Int32)))] [] m)
    (h2 : (lg_cmp ys0 (1 : Int64)) = 0 → Go X 3 mX12_wanted Q 65 [(0, .ref 535), (1, .int x1), (2, .int x2)] [] m) :
    Go X 3 mX12_wanted Q 60 [(0, .ref 535), (1, .int x1), (2, .int x2)] [.long ys0] m := by
  refine g_lconst (v := 1) dX12_wanted_60 (by decide) ?_
  refine g_lcmp dX12_wanted_61 ?_
  refine g_if_ne 83 dX12_wanted_62 (by decide) (fun q1 => ?_) (fun q1 => ?_)
  · refine g_iinc (v := x2 + (1 : Int32)) (ls2 := [(2, .int (x2 + (1 : Int32))), (0, .ref 535), (1, .int x1)]) 2 dX12_wanted_83 rfl rfl (by decide) rfl ?_
    refine g_goto 13 dX12_wanted_86 (by decide) ?_
    exact g_ls [1, 2, 0] rfl (h1 q1)
  · exact g_ls [0, 1, 2] rfl (h2 q1)
theorem bX12_wanted_82 {X : pX} {Q : Option Value → pMem → Prop} {m : pMem} {x1 : Int32} {x2 : Int32} {ys0 : Int64} (hW : Wf m)
    (h1 : Q (some (.long ys0)) m) :
    Go X 3 mX12_wanted Q 82 [(0, .ref 535), (1, .int x1), (2, .int x2)] [.long ys0] m := by
  exact g_lret dX12_wanted_82 rfl enSH h1
theorem bX12_wants_0 {X : pX} {Q : Option Value → pMem → Prop} {m : pMem} {x1 : Int32} {x2 : Int32} (hW : Wf m)
    (h1 : vp_in x2 6)
    (h2 : ¬ (mI m 539 x2.toNatClampNeg) = x1 → Go X 4 mX12_wants Q 62 [(0, .ref 535), (1, .int x1)] [.long (0 : Int64), .int (4 : Int32), .ref 562] (uL (uL (uL (uL m 562 0 x1.toInt64) 562 1 x2.toInt64) 562 2 ((mI m 542 x2.toNatClampNeg).toInt64)) 562 3 ((mI m 543 x2.toNatClampNeg).toInt64)))
    (h3 : (mI m 539 x2.toNatClampNeg) = x1 → Go X 4 mX12_wants Q 62 [(0, .ref 535), (1, .int x1)] [.long (1 : Int64), .int (4 : Int32), .ref 562] (uL (uL (uL (uL m 562 0 x1.toInt64) 562 1 x2.toInt64) 562 2 ((mI m 542 x2.toNatClampNeg).toInt64)) 562 3 ((mI m 543 x2.toNatClampNeg).toInt64))) :
    Go X 4 mX12_wants Q 0 [(0, .ref 535), (1, .int x1), (2, .int x2)] [] m := by
  refine g_aload_n 0 dX12_wants_0 rfl rfl ?_
  refine g_getR dX12_wants_1 fl12_93 rfl sh535 (w12_37 hW sh535) ?_
  refine g_iconst (v := 0) dX12_wants_4 (by decide) ?_
  refine g_iload_n 1 dX12_wants_5 rfl rfl ?_
  refine g_i2l dX12_wants_6 ?_
  refine g_last (j := 0) dX12_wants_7 (s12_37 sh535) (by unfold vp_in; decide) (by decide) ?_
  refine g_aload_n 0 dX12_wants_8 rfl rfl ?_
  refine g_getR dX12_wants_9 fl12_93 rfl sh535 (w12_37 hW sh535) ?_
  refine g_iconst (v := 1) dX12_wants_12 (by decide) ?_
  refine g_iload_n 2 dX12_wants_13 rfl rfl ?_
  refine g_i2l dX12_wants_14 ?_
  refine g_last (j := 1) dX12_wants_15 (s12_37 sh535) (by unfold vp_in; decide) (by decide) ?_
  refine g_aload_n 0 dX12_wants_16 rfl rfl ?_
  refine g_getR dX12_wants_17 fl12_93 rfl sh535 (w12_37 hW sh535) ?_
  refine g_iconst (v := 2) dX12_wants_20 (by decide) ?_
  refine g_aload_n 0 dX12_wants_21 rfl rfl ?_
  refine g_getR dX12_wants_22 fl12_28 rfl sh535 (w12_7 hW sh535) ?_
  refine g_iload_n 2 dX12_wants_25 rfl rfl ?_
  refine g_iald (j := x2.toNatClampNeg) dX12_wants_26 (s12_7 sh535) h1 rfl ?_
  refine g_i2l dX12_wants_27 ?_
  refine g_last (j := 2) dX12_wants_28 (s12_37 sh535) (by unfold vp_in; decide) (by decide) ?_
  refine g_aload_n 0 dX12_wants_29 rfl rfl ?_
  refine g_getR dX12_wants_30 fl12_93 rfl sh535 (w12_37 hW sh535) ?_
  refine g_iconst (v := 3) dX12_wants_33 (by decide) ?_
  refine g_aload_n 0 dX12_wants_34 rfl rfl ?_
  refine g_getR dX12_wants_35 fl12_31 rfl sh535 (w12_8 hW sh535) ?_
  refine g_iload_n 2 dX12_wants_38 rfl rfl ?_
  refine g_iald (j := x2.toNatClampNeg) dX12_wants_39 (s12_8 sh535) h1 rfl ?_
  refine g_i2l dX12_wants_40 ?_
  refine g_last (j := 3) dX12_wants_41 (s12_37 sh535) (by unfold vp_in; decide) (by decide) ?_
  refine g_aload_n 0 dX12_wants_42 rfl rfl ?_
  refine g_getR dX12_wants_43 fl12_93 rfl sh535 (w12_37 hW sh535) ?_
  refine g_iconst (v := 4) dX12_wants_46 (by decide) ?_
  refine g_aload_n 0 dX12_wants_47 rfl rfl ?_
  refine g_getR dX12_wants_48 fl12_19 rfl sh535 (w12_4 hW sh535) ?_
  refine g_iload_n 2 dX12_wants_51 rfl rfl ?_
  refine g_iald (j := x2.toNatClampNeg) dX12_wants_52 (s12_4 sh535) h1 rfl ?_
  refine g_iload_n 1 dX12_wants_53 rfl rfl ?_
  refine g_icmp_ne 61 dX12_wants_54 (by decide) (fun q1 => ?_) (fun q1 => ?_)
  · refine g_lconst (v := 0) dX12_wants_61 (by decide) ?_
    exact g_ls [0, 1] rfl (h2 q1)
  · refine g_lconst (v := 1) dX12_wants_57 (by decide) ?_
    refine g_goto 62 dX12_wants_58 (by decide) ?_
    exact g_ls [0, 1] rfl (h3 q1)
theorem bX12_wants_62 {X : pX} {Q : Option Value → pMem → Prop} {m : pMem} {x1 : Int32} {ys0 : Int64} {as2 : Nat} (hW : Wf m) (cs2 : SH[as2]? = some (.inr (.long, 12)))
    (h1 : vp_in (mI m 536 4) 7)
    (h2 : sm64 (tAt (mI m 539) x1 (mI m 536 4).toNatClampNeg))
    (h3 : vp_in x1 4)
    (h4 : vp_in (mI m 537 x1.toNatClampNeg) 8)
    (h5 : Cl X 3 mX12_wanted [.ref 535] (uL (uL (uL (uL (uL (uL (uL (uL m as2 4 ys0) 562 5 ((pcI (tAt (mI m 539) x1 (mI m 536 4).toNatClampNeg)).toInt64)) 562 6 ((wSum (mI m 542) (tAt (mI m 539) x1 (mI m 536 4).toNatClampNeg) (mI m 536 4).toNatClampNeg).toInt64)) 562 7 ((mI m 537 x1.toNatClampNeg).toInt64)) 562 8 (((mI m 536 2) - (mI m 537 x1.toNatClampNeg)).toInt64)) 562 9 ((mI m 541 x1.toNatClampNeg).toInt64)) 562 10 ((mI m 540 ((mI m 537 x1.toNatClampNeg).toNatClampNeg)).toInt64)) 562 11 ((mI m 536 5).toInt64)) (fun v m2 => Go X 4 mX12_wants Q 179 [(0, .ref 535), (1, .int x1)] (v.toList ++ []) m2)) :
    Go X 4 mX12_wants Q 62 [(0, .ref 535), (1, .int x1)] [.long ys0, .int (4 : Int32), .ref as2] m := by
  refine g_last (j := 4) dX12_wants_62 cs2 (by unfold vp_in; decide) (by decide) ?_
  refine g_aload_n 0 dX12_wants_63 rfl rfl ?_
  refine g_getR dX12_wants_64 fl12_93 rfl sh535 (w12_37 hW sh535) ?_
  refine g_iconst (v := 5) dX12_wants_67 (by decide) ?_
  refine g_aload_n 0 dX12_wants_68 rfl rfl ?_
  refine g_iload_n 1 dX12_wants_69 rfl rfl ?_
  refine g_callV (As := [.int x1]) (st := [.int (5 : Int32), .ref 562]) dX12_wants_70 clX12_338 sh535 rfl rfl (Nat.le_of_ble_eq_true rfl) (rmSH (by decide) (by decide)) (s_mThings hW h1 ?_)
  show Go X 4 mX12_wants Q 73 [(0, .ref 535), (1, .int x1)] [.int (tAt (mI m 539) x1 (mI m 536 4).toNatClampNeg), .int (5 : Int32), .ref 562] (uL m as2 4 ys0)
  refine g_callS (As := [.int (tAt (mI m 539) x1 (mI m 536 4).toNatClampNeg)]) (st := [.int (5 : Int32), .ref 562]) dX12_wants_73 clX12_355 rfl rfl (Nat.le_of_ble_eq_true rfl) (rmSH (by decide) (by decide)) (s_bits hW h2 ?_)
  show Go X 4 mX12_wants Q 76 [(0, .ref 535), (1, .int x1)] [.int (pcI (tAt (mI m 539) x1 (mI m 536 4).toNatClampNeg)), .int (5 : Int32), .ref 562] (uL m as2 4 ys0)
  refine g_i2l dX12_wants_76 ?_
  refine g_last (j := 5) dX12_wants_77 (s12_37 sh535) (by unfold vp_in; decide) (by decide) ?_
  refine g_aload_n 0 dX12_wants_78 rfl rfl ?_
  refine g_getR dX12_wants_79 fl12_93 rfl sh535 (w12_37 hW sh535) ?_
  refine g_bipush (v := 6) dX12_wants_82 (by decide) ?_
  refine g_aload_n 0 dX12_wants_84 rfl rfl ?_
  refine g_aload_n 0 dX12_wants_85 rfl rfl ?_
  refine g_iload_n 1 dX12_wants_86 rfl rfl ?_
  refine g_callV (As := [.int x1]) (st := [.ref 535, .int (6 : Int32), .ref 562]) dX12_wants_87 clX12_338 sh535 rfl rfl (Nat.le_of_ble_eq_true rfl) (rmSH (by decide) (by decide)) (s_mThings hW h1 ?_)
  show Go X 4 mX12_wants Q 90 [(0, .ref 535), (1, .int x1)] [.int (tAt (mI m 539) x1 (mI m 536 4).toNatClampNeg), .ref 535, .int (6 : Int32), .ref 562] (uL (uL m as2 4 ys0) 562 5 ((pcI (tAt (mI m 539) x1 (mI m 536 4).toNatClampNeg)).toInt64))
  refine g_callV (As := [.int (tAt (mI m 539) x1 (mI m 536 4).toNatClampNeg)]) (st := [.int (6 : Int32), .ref 562]) dX12_wants_90 clX12_341 sh535 rfl rfl (Nat.le_of_ble_eq_true rfl) (rmSH (by decide) (by decide)) (s_mWeight hW h1 ?_)
  show Go X 4 mX12_wants Q 93 [(0, .ref 535), (1, .int x1)] [.int (wSum (mI m 542) (tAt (mI m 539) x1 (mI m 536 4).toNatClampNeg) (mI m 536 4).toNatClampNeg), .int (6 : Int32), .ref 562] (uL (uL m as2 4 ys0) 562 5 ((pcI (tAt (mI m 539) x1 (mI m 536 4).toNatClampNeg)).toInt64))
  refine g_i2l dX12_wants_93 ?_
  refine g_last (j := 6) dX12_wants_94 (s12_37 sh535) (by unfold vp_in; decide) (by decide) ?_
  refine g_aload_n 0 dX12_wants_95 rfl rfl ?_
  refine g_getR dX12_wants_96 fl12_93 rfl sh535 (w12_37 hW sh535) ?_
  refine g_bipush (v := 7) dX12_wants_99 (by decide) ?_
  refine g_aload_n 0 dX12_wants_101 rfl rfl ?_
  refine g_getR dX12_wants_102 fl12_13 rfl sh535 (w12_2 hW sh535) ?_
  refine g_iload_n 1 dX12_wants_105 rfl rfl ?_
  refine g_iald (j := x1.toNatClampNeg) dX12_wants_106 (s12_2 sh535) h3 rfl ?_
  refine g_i2l dX12_wants_107 ?_
  refine g_last (j := 7) dX12_wants_108 (s12_37 sh535) (by unfold vp_in; decide) (by decide) ?_
  refine g_aload_n 0 dX12_wants_109 rfl rfl ?_
  refine g_getR dX12_wants_110 fl12_93 rfl sh535 (w12_37 hW sh535) ?_
  refine g_bipush (v := 8) dX12_wants_113 (by decide) ?_
  refine g_aload_n 0 dX12_wants_115 rfl rfl ?_
  refine g_callV (As := []) (st := [.int (8 : Int32), .ref 562]) dX12_wants_116 clX12_352 sh535 rfl rfl (Nat.le_of_ble_eq_true rfl) (rmSH (by decide) (by decide)) (s_town hW ?_)
  show Go X 4 mX12_wants Q 119 [(0, .ref 535), (1, .int x1)] [.int (mI m 536 2), .int (8 : Int32), .ref 562] (uL (uL (uL (uL m as2 4 ys0) 562 5 ((pcI (tAt (mI m 539) x1 (mI m 536 4).toNatClampNeg)).toInt64)) 562 6 ((wSum (mI m 542) (tAt (mI m 539) x1 (mI m 536 4).toNatClampNeg) (mI m 536 4).toNatClampNeg).toInt64)) 562 7 ((mI m 537 x1.toNatClampNeg).toInt64))
  refine g_aload_n 0 dX12_wants_119 rfl rfl ?_
  refine g_getR dX12_wants_120 fl12_13 rfl sh535 (w12_2 hW sh535) ?_
  refine g_iload_n 1 dX12_wants_123 rfl rfl ?_
  refine g_iald (j := x1.toNatClampNeg) dX12_wants_124 (s12_2 sh535) h3 rfl ?_
  refine g_isub dX12_wants_125 ?_
  refine g_i2l dX12_wants_126 ?_
  refine g_last (j := 8) dX12_wants_127 (s12_37 sh535) (by unfold vp_in; decide) (by decide) ?_
  refine g_aload_n 0 dX12_wants_128 rfl rfl ?_
  refine g_getR dX12_wants_129 fl12_93 rfl sh535 (w12_37 hW sh535) ?_
  refine g_bipush (v := 9) dX12_wants_132 (by decide) ?_
  refine g_aload_n 0 dX12_wants_134 rfl rfl ?_
  refine g_getR dX12_wants_135 fl12_25 rfl sh535 (w12_6 hW sh535) ?_
  refine g_iload_n 1 dX12_wants_138 rfl rfl ?_
  refine g_iald (j := x1.toNatClampNeg) dX12_wants_139 (s12_6 sh535) h3 rfl ?_
  refine g_i2l dX12_wants_140 ?_
  refine g_last (j := 9) dX12_wants_141 (s12_37 sh535) (by unfold vp_in; decide) (by decide) ?_
  refine g_aload_n 0 dX12_wants_142 rfl rfl ?_
  refine g_getR dX12_wants_143 fl12_93 rfl sh535 (w12_37 hW sh535) ?_
  refine g_bipush (v := 10) dX12_wants_146 (by decide) ?_
  refine g_aload_n 0 dX12_wants_148 rfl rfl ?_
  refine g_getR dX12_wants_149 fl12_22 rfl sh535 (w12_5 hW sh535) ?_
  refine g_aload_n 0 dX12_wants_152 rfl rfl ?_
  refine g_getR dX12_wants_153 fl12_13 rfl sh535 (w12_2 hW sh535) ?_
  refine g_iload_n 1 dX12_wants_156 rfl rfl ?_
  refine g_iald (j := x1.toNatClampNeg) dX12_wants_157 (s12_2 sh535) h3 rfl ?_
  refine g_iald (j := (mI m 537 x1.toNatClampNeg).toNatClampNeg) dX12_wants_158 (s12_5 sh535) h4 rfl ?_
  refine g_i2l dX12_wants_159 ?_
  refine g_last (j := 10) dX12_wants_160 (s12_37 sh535) (by unfold vp_in; decide) (by decide) ?_
  refine g_aload_n 0 dX12_wants_161 rfl rfl ?_
  refine g_getR dX12_wants_162 fl12_93 rfl sh535 (w12_37 hW sh535) ?_
  refine g_bipush (v := 11) dX12_wants_165 (by decide) ?_
  refine g_aload_n 0 dX12_wants_167 rfl rfl ?_
  refine g_getR dX12_wants_168 fl12_9 rfl sh535 (w12_1 hW sh535) ?_
  refine g_iconst (v := 5) dX12_wants_171 (by decide) ?_
  refine g_iald (j := 5) dX12_wants_172 (s12_1 sh535) (by unfold vp_in; decide) (by decide) ?_
  refine g_i2l dX12_wants_173 ?_
  refine g_last (j := 11) dX12_wants_174 (s12_37 sh535) (by unfold vp_in; decide) (by decide) ?_
  refine g_aload_n 0 dX12_wants_175 rfl rfl ?_
  exact g_callV (As := []) (st := []) dX12_wants_176 clX12_358 sh535 rfl rfl (Nat.le_of_ble_eq_true rfl) (rmSH (by decide) (by decide)) h5
theorem bX12_wants_179 {X : pX} {Q : Option Value → pMem → Prop} {m : pMem} {x1 : Int32} {ys0 : Int64} (hW : Wf m)
    (h1 : (lg_cmp ys0 (0 : Int64)) ≤ 0 → Q (some (.int (0 : Int32))) m)
    (h2 : ¬ ((lg_cmp ys0 (0 : Int64)) ≤ 0) → Q (some (.int (1 : Int32))) m) :
    Go X 4 mX12_wants Q 179 [(0, .ref 535), (1, .int x1)] [.long ys0] m := by
  refine g_lconst (v := 0) dX12_wants_179 (by decide) ?_
  refine g_lcmp dX12_wants_180 ?_
  refine g_if_le 188 dX12_wants_181 (by decide) (fun q1 => ?_) (fun q1 => ?_)
  · refine g_iconst (v := 0) dX12_wants_188 (by decide) ?_
    exact g_bret dX12_wants_189 rfl (Or.inl rfl) enSH (h1 q1)
  · refine g_iconst (v := 1) dX12_wants_184 (by decide) ?_
    refine g_goto 189 dX12_wants_185 (by decide) ?_
    exact g_bret dX12_wants_189 rfl (Or.inr rfl) enSH (h2 q1)
theorem bX12_packs_0 {X : pX} {Q : Option Value → pMem → Prop} {m : pMem} {x1 : Int32} (hW : Wf m)
    (h1 : Go X 5 mX12_packs Q 2 [(0, .ref 535), (1, .int x1), (2, .int (0 : Int32))] [] m) :
    Go X 5 mX12_packs Q 0 [(0, .ref 535), (1, .int x1)] [] m := by
  refine g_iconst (v := 0) dX12_packs_0 (by decide) ?_
  refine g_istore_n (ls2 := [(2, .int (0 : Int32)), (0, .ref 535), (1, .int x1)]) dX12_packs_1 rfl (by decide) rfl ?_
  exact g_ls [1, 2, 0] rfl h1
theorem bX12_packs_2 {X : pX} {Q : Option Value → pMem → Prop} {m : pMem} {x1 : Int32} {x2 : Int32} (hW : Wf m)
    (h1 : (mI m 536 4) ≤ x2 → Q none m)
    (h2 : ¬ ((mI m 536 4) ≤ x2) → vp_in x2 6)
    (h3 : ¬ ((mI m 536 4) ≤ x2) → (mI m 539 x2.toNatClampNeg) = x1 → Cl X 4 mX12_wants [.ref 535, .int x1, .int x2] m (fun v m2 => Go X 5 mX12_packs Q 46 [(0, .ref 535), (1, .int x1), (2, .int x2)] (v.toList ++ []) m2))
    (h4 : ¬ ((mI m 536 4) ≤ x2) → ¬ ((mI m 539 x2.toNatClampNeg) = x1) → vp_in x2 6)
    (h5 : ¬ ((mI m 536 4) ≤ x2) → ¬ ((mI m 539 x2.toNatClampNeg) = x1) → vp_in x1 4)
    (h6 : ¬ ((mI m 536 4) ≤ x2) → ¬ ((mI m 539 x2.toNatClampNeg) = x1) → ¬ (mI m 539 x2.toNatClampNeg) = ((10 : Int32) + (mI m 537 x1.toNatClampNeg)) → Go X 5 mX12_packs Q 2 [(0, .ref 535), (1, .int x1), (2, .int (x2 + (1 : Int32)))] [] m)
    (h7 : ¬ ((mI m 536 4) ≤ x2) → ¬ ((mI m 539 x2.toNatClampNeg) = x1) → (mI m 539 x2.toNatClampNeg) = ((10 : Int32) + (mI m 537 x1.toNatClampNeg)) → Cl X 4 mX12_wants [.ref 535, .int x1, .int x2] m (fun v m2 => Go X 5 mX12_packs Q 46 [(0, .ref 535), (1, .int x1), (2, .int x2)] (v.toList ++ []) m2)) :
    Go X 5 mX12_packs Q 2 [(0, .ref 535), (1, .int x1), (2, .int x2)] [] m := by
  refine g_iload_n 2 dX12_packs_2 rfl rfl ?_
  refine g_aload_n 0 dX12_packs_3 rfl rfl ?_
  refine g_getR dX12_packs_4 fl12_9 rfl sh535 (w12_1 hW sh535) ?_
  refine g_iconst (v := 4) dX12_packs_7 (by decide) ?_
  refine g_iald (j := 4) dX12_packs_8 (s12_1 sh535) (by unfold vp_in; decide) (by decide) ?_
  refine g_icmp_ge 97 dX12_packs_9 (by decide) (fun q1 => ?_) (fun q1 => ?_)
  · exact g_vret dX12_packs_97 rfl enSH (h1 q1)
  · refine g_aload_n 0 dX12_packs_12 rfl rfl ?_
    refine g_getR dX12_packs_13 fl12_19 rfl sh535 (w12_4 hW sh535) ?_
    refine g_iload_n 2 dX12_packs_16 rfl rfl ?_
    refine g_iald (j := x2.toNatClampNeg) dX12_packs_17 (s12_4 sh535) (h2 q1) rfl ?_
    refine g_iload_n 1 dX12_packs_18 rfl rfl ?_
    refine g_icmp_eq 40 dX12_packs_19 (by decide) (fun q2 => ?_) (fun q2 => ?_)
    · refine g_aload_n 0 dX12_packs_40 rfl rfl ?_
      refine g_iload_n 1 dX12_packs_41 rfl rfl ?_
      refine g_iload_n 2 dX12_packs_42 rfl rfl ?_
      exact g_callV (As := [.int x1, .int x2]) (st := []) dX12_packs_43 clX12_362 sh535 rfl rfl (Nat.le_of_ble_eq_true rfl) (rmSH (by decide) (by decide)) (h3 q1 q2)
    · refine g_aload_n 0 dX12_packs_22 rfl rfl ?_
      refine g_getR dX12_packs_23 fl12_19 rfl sh535 (w12_4 hW sh535) ?_
      refine g_iload_n 2 dX12_packs_26 rfl rfl ?_
      refine g_iald (j := x2.toNatClampNeg) dX12_packs_27 (s12_4 sh535) (h4 q1 q2) rfl ?_
      refine g_bipush (v := 10) dX12_packs_28 (by decide) ?_
      refine g_aload_n 0 dX12_packs_30 rfl rfl ?_
      refine g_getR dX12_packs_31 fl12_13 rfl sh535 (w12_2 hW sh535) ?_
      refine g_iload_n 1 dX12_packs_34 rfl rfl ?_
      refine g_iald (j := x1.toNatClampNeg) dX12_packs_35 (s12_2 sh535) (h5 q1 q2) rfl ?_
      refine g_iadd dX12_packs_36 ?_
      refine g_icmp_ne 91 dX12_packs_37 (by decide) (fun q3 => ?_) (fun q3 => ?_)
      · refine g_iinc (v := x2 + (1 : Int32)) (ls2 := [(2, .int (x2 + (1 : Int32))), (0, .ref 535), (1, .int x1)]) 2 dX12_packs_91 rfl rfl (by decide) rfl ?_
        refine g_goto 2 dX12_packs_94 (by decide) ?_
        exact g_ls [1, 2, 0] rfl (h6 q1 q2 q3)
      · refine g_aload_n 0 dX12_packs_40 rfl rfl ?_
        refine g_iload_n 1 dX12_packs_41 rfl rfl ?_
        refine g_iload_n 2 dX12_packs_42 rfl rfl ?_
        exact g_callV (As := [.int x1, .int x2]) (st := []) dX12_packs_43 clX12_362 sh535 rfl rfl (Nat.le_of_ble_eq_true rfl) (rmSH (by decide) (by decide)) (h7 q1 q2 q3)
theorem bX12_packs_46 {X : pX} {Q : Option Value → pMem → Prop} {m : pMem} {x1 : Int32} {x2 : Int32} {xs0 : Int32} (hW : Wf m)
    (h1 : ¬ xs0 = 0 → vp_in (mI m 536 4) 7)
    (h2 : ¬ xs0 = 0 → sm64 (tAt (mI m 539) x1 (mI m 536 4).toNatClampNeg))
    (h3 : ¬ xs0 = 0 → (mI m 536 1) ≤ (pcI (tAt (mI m 539) x1 (mI m 536 4).toNatClampNeg)) → Go X 5 mX12_packs Q 2 [(0, .ref 535), (1, .int x1), (2, .int (x2 + (1 : Int32)))] [] m)
    (h4 : ¬ xs0 = 0 → ¬ ((mI m 536 1) ≤ (pcI (tAt (mI m 539) x1 (mI m 536 4).toNatClampNeg))) → vp_in x2 6)
    (h5 : ¬ xs0 = 0 → ¬ ((mI m 536 1) ≤ (pcI (tAt (mI m 539) x1 (mI m 536 4).toNatClampNeg))) → Go X 5 mX12_packs Q 2 [(0, .ref 535), (1, .int x1), (2, .int (x2 + (1 : Int32)))] [] (uI m 539 x2.toNatClampNeg x1))
    (h6 : xs0 = 0 → vp_in x1 4)
    (h7 : xs0 = 0 → vp_in x2 6)
    (h8 : xs0 = 0 → Go X 5 mX12_packs Q 2 [(0, .ref 535), (1, .int x1), (2, .int (x2 + (1 : Int32)))] [] (uI m 539 x2.toNatClampNeg ((10 : Int32) + (mI m 537 x1.toNatClampNeg)))) :
    Go X 5 mX12_packs Q 46 [(0, .ref 535), (1, .int x1), (2, .int x2)] [.int xs0] m := by
  refine g_if_ne 67 dX12_packs_46 (by decide) (fun q1 => ?_) (fun q1 => ?_)
  · refine g_aload_n 0 dX12_packs_67 rfl rfl ?_
    refine g_iload_n 1 dX12_packs_68 rfl rfl ?_
    refine g_callV (As := [.int x1]) (st := []) dX12_packs_69 clX12_338 sh535 rfl rfl (Nat.le_of_ble_eq_true rfl) (rmSH (by decide) (by decide)) (s_mThings hW (h1 q1) ?_)
    show Go X 5 mX12_packs Q 72 [(0, .ref 535), (1, .int x1), (2, .int x2)] [.int (tAt (mI m 539) x1 (mI m 536 4).toNatClampNeg)] m
    refine g_callS (As := [.int (tAt (mI m 539) x1 (mI m 536 4).toNatClampNeg)]) (st := []) dX12_packs_72 clX12_355 rfl rfl (Nat.le_of_ble_eq_true rfl) (rmSH (by decide) (by decide)) (s_bits hW (h2 q1) ?_)
    show Go X 5 mX12_packs Q 75 [(0, .ref 535), (1, .int x1), (2, .int x2)] [.int (pcI (tAt (mI m 539) x1 (mI m 536 4).toNatClampNeg))] m
    refine g_aload_n 0 dX12_packs_75 rfl rfl ?_
    refine g_getR dX12_packs_76 fl12_9 rfl sh535 (w12_1 hW sh535) ?_
    refine g_iconst (v := 1) dX12_packs_79 (by decide) ?_
    refine g_iald (j := 1) dX12_packs_80 (s12_1 sh535) (by unfold vp_in; decide) (by decide) ?_
    refine g_icmp_ge 91 dX12_packs_81 (by decide) (fun q2 => ?_) (fun q2 => ?_)
    · refine g_iinc (v := x2 + (1 : Int32)) (ls2 := [(2, .int (x2 + (1 : Int32))), (0, .ref 535), (1, .int x1)]) 2 dX12_packs_91 rfl rfl (by decide) rfl ?_
      refine g_goto 2 dX12_packs_94 (by decide) ?_
      exact g_ls [1, 2, 0] rfl (h3 q1 q2)
    · refine g_aload_n 0 dX12_packs_84 rfl rfl ?_
      refine g_getR dX12_packs_85 fl12_19 rfl sh535 (w12_4 hW sh535) ?_
      refine g_iload_n 2 dX12_packs_88 rfl rfl ?_
      refine g_iload_n 1 dX12_packs_89 rfl rfl ?_
      refine g_iast (j := x2.toNatClampNeg) dX12_packs_90 (s12_4 sh535) (h4 q1 q2) rfl ?_
      refine g_iinc (v := x2 + (1 : Int32)) (ls2 := [(2, .int (x2 + (1 : Int32))), (0, .ref 535), (1, .int x1)]) 2 dX12_packs_91 rfl rfl (by decide) rfl ?_
      refine g_goto 2 dX12_packs_94 (by decide) ?_
      exact g_ls [1, 2, 0] rfl (h5 q1 q2)
  · refine g_aload_n 0 dX12_packs_49 rfl rfl ?_
    refine g_getR dX12_packs_50 fl12_19 rfl sh535 (w12_4 hW sh535) ?_
    refine g_iload_n 2 dX12_packs_53 rfl rfl ?_
    refine g_bipush (v := 10) dX12_packs_54 (by decide) ?_
    refine g_aload_n 0 dX12_packs_56 rfl rfl ?_
    refine g_getR dX12_packs_57 fl12_13 rfl sh535 (w12_2 hW sh535) ?_
    refine g_iload_n 1 dX12_packs_60 rfl rfl ?_
    refine g_iald (j := x1.toNatClampNeg) dX12_packs_61 (s12_2 sh535) (h6 q1) rfl ?_
    refine g_iadd dX12_packs_62 ?_
    refine g_iast (j := x2.toNatClampNeg) dX12_packs_63 (s12_4 sh535) (h7 q1) rfl ?_
    refine g_goto 91 dX12_packs_64 (by decide) ?_
    refine g_iinc (v := x2 + (1 : Int32)) (ls2 := [(2, .int (x2 + (1 : Int32))), (0, .ref 535), (1, .int x1)]) 2 dX12_packs_91 rfl rfl (by decide) rfl ?_
    refine g_goto 2 dX12_packs_94 (by decide) ?_
    exact g_ls [1, 2, 0] rfl (h8 q1)
theorem bX12_goes_0 {X : pX} {Q : Option Value → pMem → Prop} {m : pMem} (hW : Wf m)
    (h1 : Go X 6 mX12_goes Q 4 [(0, .ref 535), (1, .int (0 : Int32)), (2, .int (0 : Int32))] [] m) :
    Go X 6 mX12_goes Q 0 [(0, .ref 535)] [] m := by
  refine g_iconst (v := 0) dX12_goes_0 (by decide) ?_
  refine g_istore_n (ls2 := [(1, .int (0 : Int32)), (0, .ref 535)]) dX12_goes_1 rfl (by decide) rfl ?_
  refine g_iconst (v := 0) dX12_goes_2 (by decide) ?_
  refine g_istore_n (ls2 := [(2, .int (0 : Int32)), (1, .int (0 : Int32)), (0, .ref 535)]) dX12_goes_3 rfl (by decide) rfl ?_
  exact g_ls [2, 1, 0] rfl h1
theorem bX12_goes_4 {X : pX} {Q : Option Value → pMem → Prop} {m : pMem} {x1 : Int32} {x2 : Int32} (hW : Wf m)
    (h1 : (mI m 536 3) ≤ x2 → Q (some (.int x1)) (uI m 536 5 ((mI m 536 5) + (1 : Int32))))
    (h2 : ¬ ((mI m 536 3) ≤ x2) → vp_in x2 4)
    (h3 : ¬ ((mI m 536 3) ≤ x2) → (mI m 536 2) ≤ (mI m 537 x2.toNatClampNeg) → Go X 6 mX12_goes Q 4 [(0, .ref 535), (1, .int x1), (2, .int (x2 + (1 : Int32)))] [] m)
    (h4 : ¬ ((mI m 536 3) ≤ x2) → ¬ ((mI m 536 2) ≤ (mI m 537 x2.toNatClampNeg)) → vp_in x2 4)
    (h5 : ¬ ((mI m 536 3) ≤ x2) → ¬ ((mI m 536 2) ≤ (mI m 537 x2.toNatClampNeg)) → ¬ (mI m 538 x2.toNatClampNeg) = 0 → Go X 6 mX12_goes Q 52 [(0, .ref 535), (1, .int x1), (2, .int x2)] [] m)
    (h6 : ¬ ((mI m 536 3) ≤ x2) → ¬ ((mI m 536 2) ≤ (mI m 537 x2.toNatClampNeg)) → (mI m 538 x2.toNatClampNeg) = 0 → (mI m 536 8) = (-1 : Int32) → Go X 6 mX12_goes Q 52 [(0, .ref 535), (1, .int x1), (2, .int x2)] [] m)
    (h7 : ¬ ((mI m 536 3) ≤ x2) → ¬ ((mI m 536 2) ≤ (mI m 537 x2.toNatClampNeg)) → (mI m 538 x2.toNatClampNeg) = 0 → ¬ ((mI m 536 8) = (-1 : Int32)) → Cl X 5 mX12_packs [.ref 535, .int x2] m (fun v m2 => Go X 6 mX12_goes Q 52 [(0, .ref 535), (1, .int x1), (2, .int x2)] (v.toList ++ []) m2)) :
    Go X 6 mX12_goes Q 4 [(0, .ref 535), (1, .int x1), (2, .int x2)] [] m := by
  refine g_iload_n 2 dX12_goes_4 rfl rfl ?_
  refine g_aload_n 0 dX12_goes_5 rfl rfl ?_
  refine g_getR dX12_goes_6 fl12_9 rfl sh535 (w12_1 hW sh535) ?_
  refine g_iconst (v := 3) dX12_goes_9 (by decide) ?_
  refine g_iald (j := 3) dX12_goes_10 (s12_1 sh535) (by unfold vp_in; decide) (by decide) ?_
  refine g_icmp_ge 126 dX12_goes_11 (by decide) (fun q1 => ?_) (fun q1 => ?_)
  · refine g_aload_n 0 dX12_goes_126 rfl rfl ?_
    refine g_getR dX12_goes_127 fl12_9 rfl sh535 (w12_1 hW sh535) ?_
    refine g_iconst (v := 5) dX12_goes_130 (by decide) ?_
    refine g_dup2 dX12_goes_131 rfl rfl ?_
    refine g_iald (j := 5) dX12_goes_132 (s12_1 sh535) (by unfold vp_in; decide) (by decide) ?_
    refine g_iconst (v := 1) dX12_goes_133 (by decide) ?_
    refine g_iadd dX12_goes_134 ?_
    refine g_iast (j := 5) dX12_goes_135 (s12_1 sh535) (by unfold vp_in; decide) (by decide) ?_
    refine g_iload_n 1 dX12_goes_136 rfl rfl ?_
    exact g_iret dX12_goes_137 rfl enSH (h1 q1)
  · refine g_aload_n 0 dX12_goes_14 rfl rfl ?_
    refine g_getR dX12_goes_15 fl12_13 rfl sh535 (w12_2 hW sh535) ?_
    refine g_iload_n 2 dX12_goes_18 rfl rfl ?_
    refine g_iald (j := x2.toNatClampNeg) dX12_goes_19 (s12_2 sh535) (h2 q1) rfl ?_
    refine g_aload_n 0 dX12_goes_20 rfl rfl ?_
    refine g_callV (As := []) (st := [.int (mI m 537 x2.toNatClampNeg)]) dX12_goes_21 clX12_352 sh535 rfl rfl (Nat.le_of_ble_eq_true rfl) (rmSH (by decide) (by decide)) (s_town hW ?_)
    show Go X 6 mX12_goes Q 24 [(0, .ref 535), (1, .int x1), (2, .int x2)] [.int (mI m 536 2), .int (mI m 537 x2.toNatClampNeg)] m
    refine g_icmp_ge 120 dX12_goes_24 (by decide) (fun q2 => ?_) (fun q2 => ?_)
    · refine g_iinc (v := x2 + (1 : Int32)) (ls2 := [(2, .int (x2 + (1 : Int32))), (0, .ref 535), (1, .int x1)]) 2 dX12_goes_120 rfl rfl (by decide) rfl ?_
      refine g_goto 4 dX12_goes_123 (by decide) ?_
      exact g_ls [1, 2, 0] rfl (h3 q1 q2)
    · refine g_aload_n 0 dX12_goes_27 rfl rfl ?_
      refine g_getR dX12_goes_28 fl12_16 rfl sh535 (w12_3 hW sh535) ?_
      refine g_iload_n 2 dX12_goes_31 rfl rfl ?_
      refine g_iald (j := x2.toNatClampNeg) dX12_goes_32 (s12_3 sh535) (h4 q1 q2) rfl ?_
      refine g_if_ne 52 dX12_goes_33 (by decide) (fun q3 => ?_) (fun q3 => ?_)
      · exact g_ls [0, 1, 2] rfl (h5 q1 q2 q3)
      · refine g_aload_n 0 dX12_goes_36 rfl rfl ?_
        refine g_getR dX12_goes_37 fl12_9 rfl sh535 (w12_1 hW sh535) ?_
        refine g_bipush (v := 8) dX12_goes_40 (by decide) ?_
        refine g_iald (j := 8) dX12_goes_42 (s12_1 sh535) (by unfold vp_in; decide) (by decide) ?_
        refine g_iconst (v := -1) dX12_goes_43 (by decide) ?_
        refine g_icmp_eq 52 dX12_goes_44 (by decide) (fun q4 => ?_) (fun q4 => ?_)
        · exact g_ls [0, 1, 2] rfl (h6 q1 q2 q3 q4)
        · refine g_aload_n 0 dX12_goes_47 rfl rfl ?_
          refine g_iload_n 2 dX12_goes_48 rfl rfl ?_
          exact g_callV (As := [.int x2]) (st := []) dX12_goes_49 clX12_365 sh535 rfl rfl (Nat.le_of_ble_eq_true rfl) (rmSH (by decide) (by decide)) (h7 q1 q2 q3 q4)
theorem bX12_goes_52 {X : pX} {Q : Option Value → pMem → Prop} {m : pMem} {x1 : Int32} {x2 : Int32} (hW : Wf m)
    (h1 : vp_in x2 4)
    (h2 : vp_in (mI m 537 x2.toNatClampNeg) 8)
    (h3 : vp_in (mI m 536 4) 7)
    (h4 : (mI (uI m 538 x2.toNatClampNeg ((mI m 538 x2.toNatClampNeg) + (mI m 541 x2.toNatClampNeg))) 538 x2.toNatClampNeg) < ((mI m 540 ((mI m 537 x2.toNatClampNeg).toNatClampNeg)) + (wSum (mI m 542) (tAt (mI m 539) x2 (mI m 536 4).toNatClampNeg) (mI m 536 4).toNatClampNeg)) → Go X 6 mX12_goes Q 4 [(0, .ref 535), (1, .int x1), (2, .int (x2 + (1 : Int32)))] [] (uI m 538 x2.toNatClampNeg ((mI m 538 x2.toNatClampNeg) + (mI m 541 x2.toNatClampNeg))))
    (h5 : ¬ ((mI (uI m 538 x2.toNatClampNeg ((mI m 538 x2.toNatClampNeg) + (mI m 541 x2.toNatClampNeg))) 538 x2.toNatClampNeg) < ((mI m 540 ((mI m 537 x2.toNatClampNeg).toNatClampNeg)) + (wSum (mI m 542) (tAt (mI m 539) x2 (mI m 536 4).toNatClampNeg) (mI m 536 4).toNatClampNeg))) → vp_in x2 4)
    (h6 : ¬ ((mI (uI m 538 x2.toNatClampNeg ((mI m 538 x2.toNatClampNeg) + (mI m 541 x2.toNatClampNeg))) 538 x2.toNatClampNeg) < ((mI m 540 ((mI m 537 x2.toNatClampNeg).toNatClampNeg)) + (wSum (mI m 542) (tAt (mI m 539) x2 (mI m 536 4).toNatClampNeg) (mI m 536 4).toNatClampNeg))) → Go X 6 mX12_goes Q 4 [(0, .ref 535), (1, .int (x1 ||| ((1 : Int32) <<< (x2 &&& 31)))), (2, .int (x2 + (1 : Int32)))] [] (uI (uI (uI m 538 x2.toNatClampNeg ((mI m 538 x2.toNatClampNeg) + (mI m 541 x2.toNatClampNeg))) 537 x2.toNatClampNeg ((mI m 537 x2.toNatClampNeg) + (1 : Int32))) 538 x2.toNatClampNeg (0 : Int32))) :
    Go X 6 mX12_goes Q 52 [(0, .ref 535), (1, .int x1), (2, .int x2)] [] m := by
  refine g_aload_n 0 dX12_goes_52 rfl rfl ?_
  refine g_getR dX12_goes_53 fl12_16 rfl sh535 (w12_3 hW sh535) ?_
  refine g_iload_n 2 dX12_goes_56 rfl rfl ?_
  refine g_dup2 dX12_goes_57 rfl rfl ?_
  refine g_iald (j := x2.toNatClampNeg) dX12_goes_58 (s12_3 sh535) h1 rfl ?_
  refine g_aload_n 0 dX12_goes_59 rfl rfl ?_
  refine g_getR dX12_goes_60 fl12_25 rfl sh535 (w12_6 hW sh535) ?_
  refine g_iload_n 2 dX12_goes_63 rfl rfl ?_
  refine g_iald (j := x2.toNatClampNeg) dX12_goes_64 (s12_6 sh535) h1 rfl ?_
  refine g_iadd dX12_goes_65 ?_
  refine g_iast (j := x2.toNatClampNeg) dX12_goes_66 (s12_3 sh535) h1 rfl ?_
  refine g_aload_n 0 dX12_goes_67 rfl rfl ?_
  refine g_getR dX12_goes_68 fl12_16 rfl sh535 (w12_3 hW sh535) ?_
  refine g_iload_n 2 dX12_goes_71 rfl rfl ?_
  refine g_iald (j := x2.toNatClampNeg) dX12_goes_72 (s12_3 sh535) h1 rfl ?_
  refine g_aload_n 0 dX12_goes_73 rfl rfl ?_
  refine g_getR dX12_goes_74 fl12_22 rfl sh535 (w12_5 hW sh535) ?_
  refine g_aload_n 0 dX12_goes_77 rfl rfl ?_
  refine g_getR dX12_goes_78 fl12_13 rfl sh535 (w12_2 hW sh535) ?_
  refine g_iload_n 2 dX12_goes_81 rfl rfl ?_
  refine g_iald (j := x2.toNatClampNeg) dX12_goes_82 (s12_2 sh535) h1 rfl ?_
  refine g_iald (j := (mI m 537 x2.toNatClampNeg).toNatClampNeg) dX12_goes_83 (s12_5 sh535) h2 rfl ?_
  refine g_aload_n 0 dX12_goes_84 rfl rfl ?_
  refine g_aload_n 0 dX12_goes_85 rfl rfl ?_
  refine g_iload_n 2 dX12_goes_86 rfl rfl ?_
  refine g_callV (As := [.int x2]) (st := [.ref 535, .int (mI m 540 ((mI m 537 x2.toNatClampNeg).toNatClampNeg)), .int (mI (uI m 538 x2.toNatClampNeg ((mI m 538 x2.toNatClampNeg) + (mI m 541 x2.toNatClampNeg))) 538 x2.toNatClampNeg)]) dX12_goes_87 clX12_338 sh535 rfl rfl (Nat.le_of_ble_eq_true rfl) (rmSH (by decide) (by decide)) (s_mThings hW h3 ?_)
  show Go X 6 mX12_goes Q 90 [(0, .ref 535), (1, .int x1), (2, .int x2)] [.int (tAt (mI m 539) x2 (mI m 536 4).toNatClampNeg), .ref 535, .int (mI m 540 ((mI m 537 x2.toNatClampNeg).toNatClampNeg)), .int (mI (uI m 538 x2.toNatClampNeg ((mI m 538 x2.toNatClampNeg) + (mI m 541 x2.toNatClampNeg))) 538 x2.toNatClampNeg)] (uI m 538 x2.toNatClampNeg ((mI m 538 x2.toNatClampNeg) + (mI m 541 x2.toNatClampNeg)))
  refine g_callV (As := [.int (tAt (mI m 539) x2 (mI m 536 4).toNatClampNeg)]) (st := [.int (mI m 540 ((mI m 537 x2.toNatClampNeg).toNatClampNeg)), .int (mI (uI m 538 x2.toNatClampNeg ((mI m 538 x2.toNatClampNeg) + (mI m 541 x2.toNatClampNeg))) 538 x2.toNatClampNeg)]) dX12_goes_90 clX12_341 sh535 rfl rfl (Nat.le_of_ble_eq_true rfl) (rmSH (by decide) (by decide)) (s_mWeight hW h3 ?_)
  show Go X 6 mX12_goes Q 93 [(0, .ref 535), (1, .int x1), (2, .int x2)] [.int (wSum (mI m 542) (tAt (mI m 539) x2 (mI m 536 4).toNatClampNeg) (mI m 536 4).toNatClampNeg), .int (mI m 540 ((mI m 537 x2.toNatClampNeg).toNatClampNeg)), .int (mI (uI m 538 x2.toNatClampNeg ((mI m 538 x2.toNatClampNeg) + (mI m 541 x2.toNatClampNeg))) 538 x2.toNatClampNeg)] (uI m 538 x2.toNatClampNeg ((mI m 538 x2.toNatClampNeg) + (mI m 541 x2.toNatClampNeg)))
  refine g_iadd dX12_goes_93 ?_
  refine g_icmp_lt 120 dX12_goes_94 (by decide) (fun q1 => ?_) (fun q1 => ?_)
  · refine g_iinc (v := x2 + (1 : Int32)) (ls2 := [(2, .int (x2 + (1 : Int32))), (0, .ref 535), (1, .int x1)]) 2 dX12_goes_120 rfl rfl (by decide) rfl ?_
    refine g_goto 4 dX12_goes_123 (by decide) ?_
    exact g_ls [1, 2, 0] rfl (h4 q1)
  · refine g_aload_n 0 dX12_goes_97 rfl rfl ?_
    refine g_getR dX12_goes_98 fl12_13 rfl sh535 (w12_2 hW sh535) ?_
    refine g_iload_n 2 dX12_goes_101 rfl rfl ?_
    refine g_dup2 dX12_goes_102 rfl rfl ?_
    refine g_iald (j := x2.toNatClampNeg) dX12_goes_103 (s12_2 sh535) (h5 q1) rfl ?_
    refine g_iconst (v := 1) dX12_goes_104 (by decide) ?_
    refine g_iadd dX12_goes_105 ?_
    refine g_iast (j := x2.toNatClampNeg) dX12_goes_106 (s12_2 sh535) (h5 q1) rfl ?_
    refine g_aload_n 0 dX12_goes_107 rfl rfl ?_
    refine g_getR dX12_goes_108 fl12_16 rfl sh535 (w12_3 hW sh535) ?_
    refine g_iload_n 2 dX12_goes_111 rfl rfl ?_
    refine g_iconst (v := 0) dX12_goes_112 (by decide) ?_
    refine g_iast (j := x2.toNatClampNeg) dX12_goes_113 (s12_3 sh535) (h5 q1) rfl ?_
    refine g_iload_n 1 dX12_goes_114 rfl rfl ?_
    refine g_iconst (v := 1) dX12_goes_115 (by decide) ?_
    refine g_iload_n 2 dX12_goes_116 rfl rfl ?_
    refine g_ishl dX12_goes_117 ?_
    refine g_ior dX12_goes_118 ?_
    refine g_istore_n (ls2 := [(1, .int (x1 ||| ((1 : Int32) <<< (x2 &&& 31)))), (0, .ref 535), (2, .int x2)]) dX12_goes_119 rfl (by decide) rfl ?_
    refine g_iinc (v := x2 + (1 : Int32)) (ls2 := [(2, .int (x2 + (1 : Int32))), (1, .int (x1 ||| ((1 : Int32) <<< (x2 &&& 31)))), (0, .ref 535)]) 2 dX12_goes_120 rfl rfl (by decide) rfl ?_
    refine g_goto 4 dX12_goes_123 (by decide) ?_
    exact g_ls [2, 1, 0] rfl (h6 q1)
theorem bX12_goFor_0 {X : pX} {Q : Option Value → pMem → Prop} {m : pMem} {x1 : Int32} (hW : Wf m)
    (h1 : Go X 7 mX12_goFor Q 2 [(0, .ref 535), (1, .int x1), (2, .int (0 : Int32))] [] m) :
    Go X 7 mX12_goFor Q 0 [(0, .ref 535), (1, .int x1)] [] m := by
  refine g_iconst (v := 0) dX12_goFor_0 (by decide) ?_
  refine g_istore_n (ls2 := [(2, .int (0 : Int32)), (0, .ref 535), (1, .int x1)]) dX12_goFor_1 rfl (by decide) rfl ?_
  exact g_ls [1, 2, 0] rfl h1
theorem bX12_goFor_2 {X : pX} {Q : Option Value → pMem → Prop} {m : pMem} {x1 : Int32} {x2 : Int32} (hW : Wf m)
    (h1 : x1 ≤ x2 → Q none m)
    (h2 : ¬ (x1 ≤ x2) → Cl X 6 mX12_goes [.ref 535] m (fun v m2 => Go X 7 mX12_goFor Q 11 [(0, .ref 535), (1, .int x1), (2, .int x2)] (v.toList ++ []) m2)) :
    Go X 7 mX12_goFor Q 2 [(0, .ref 535), (1, .int x1), (2, .int x2)] [] m := by
  refine g_iload_n 2 dX12_goFor_2 rfl rfl ?_
  refine g_iload_n 1 dX12_goFor_3 rfl rfl ?_
  refine g_icmp_ge 18 dX12_goFor_4 (by decide) (fun q1 => ?_) (fun q1 => ?_)
  · exact g_vret dX12_goFor_18 rfl enSH (h1 q1)
  · refine g_aload_n 0 dX12_goFor_7 rfl rfl ?_
    exact g_callV (As := []) (st := []) dX12_goFor_8 clX12_368 sh535 rfl rfl (Nat.le_of_ble_eq_true rfl) (rmSH (by decide) (by decide)) (h2 q1)
theorem bX12_goFor_11 {X : pX} {Q : Option Value → pMem → Prop} {m : pMem} {x1 : Int32} {x2 : Int32} {xs0 : Int32} (hW : Wf m)
    (h1 : Go X 7 mX12_goFor Q 2 [(0, .ref 535), (1, .int x1), (2, .int (x2 + (1 : Int32)))] [] m) :
    Go X 7 mX12_goFor Q 11 [(0, .ref 535), (1, .int x1), (2, .int x2)] [.int xs0] m := by
  refine g_pop dX12_goFor_11 rfl ?_
  refine g_iinc (v := x2 + (1 : Int32)) (ls2 := [(2, .int (x2 + (1 : Int32))), (0, .ref 535), (1, .int x1)]) 2 dX12_goFor_12 rfl rfl (by decide) rfl ?_
  refine g_goto 2 dX12_goFor_15 (by decide) ?_
  exact g_ls [1, 2, 0] rfl h1
