theorem bX1_takenBy_0 {X : pX} {Q : Option Value → pMem → Prop} {m : pMem} {x1 : Int32} {x2 : Int32} (hW : Wf m)
    (h1 : Go X 1 mX1_takenBy Q 5 [(0, .ref 515), (1, .int x1), (2, .int x2), (3, .int (0 : Int32)), (4, .int (0 : Int32))] [] m) :
    Go X 1 mX1_takenBy Q 0 [(0, .ref 515), (1, .int x1), (2, .int x2)] [] m := by
  refine g_iconst (v := 0) dX1_takenBy_0 (by decide) ?_
  refine g_istore_n (ls2 := [(3, .int (0 : Int32)), (0, .ref 515), (1, .int x1), (2, .int x2)]) dX1_takenBy_1 rfl (by decide) rfl ?_
  refine g_iconst (v := 0) dX1_takenBy_2 (by decide) ?_
  refine g_istore (ls2 := [(4, .int (0 : Int32)), (3, .int (0 : Int32)), (0, .ref 515), (1, .int x1), (2, .int x2)]) dX1_takenBy_3 (by decide) rfl ?_
  exact g_ls [2, 3, 4, 1, 0] rfl h1
theorem bX1_takenBy_5 {X : pX} {Q : Option Value → pMem → Prop} {m : pMem} {x1 : Int32} {x2 : Int32} {x3 : Int32} {x4 : Int32} (hW : Wf m)
    (h1 : (mI m 515 6) ≤ x4 → Q (some (.int x3)) m)
    (h2 : ¬ ((mI m 515 6) ≤ x4) → (6 : Int32) ≤ x4 → Q (some (.int x3)) m)
    (h3 : ¬ ((mI m 515 6) ≤ x4) → ¬ ((6 : Int32) ≤ x4) → vp_in x4 6)
    (h4 : ¬ ((mI m 515 6) ≤ x4) → ¬ ((6 : Int32) ≤ x4) → 0 < (mI m 521 x4.toNatClampNeg) ∧ ((x1 / (mI m 521 x4.toNatClampNeg)) - (x1 / (mI m 521 x4.toNatClampNeg)) / (3 : Int32) * (3 : Int32)) = x2 → vp_in x4 6)
    (h5 : ¬ ((mI m 515 6) ≤ x4) → ¬ ((6 : Int32) ≤ x4) → 0 < (mI m 521 x4.toNatClampNeg) ∧ ((x1 / (mI m 521 x4.toNatClampNeg)) - (x1 / (mI m 521 x4.toNatClampNeg)) / (3 : Int32) * (3 : Int32)) = x2 → Go X 1 mX1_takenBy Q 5 [(0, .ref 515), (1, .int x1), (2, .int x2), (3, .int (x3 ||| ((1 : Int32) <<< ((mI m 520 x4.toNatClampNeg) &&& 31)))), (4, .int (x4 + (1 : Int32)))] [] m)
    (h6 : ¬ ((mI m 515 6) ≤ x4) → ¬ ((6 : Int32) ≤ x4) → ¬ (0 < (mI m 521 x4.toNatClampNeg) ∧ ((x1 / (mI m 521 x4.toNatClampNeg)) - (x1 / (mI m 521 x4.toNatClampNeg)) / (3 : Int32) * (3 : Int32)) = x2) → Go X 1 mX1_takenBy Q 5 [(0, .ref 515), (1, .int x1), (2, .int x2), (3, .int x3), (4, .int (x4 + (1 : Int32)))] [] m) :
    Go X 1 mX1_takenBy Q 5 [(0, .ref 515), (1, .int x1), (2, .int x2), (3, .int x3), (4, .int x4)] [] m := by
  refine g_iload 4 dX1_takenBy_5 rfl ?_
  refine g_aload_n 0 dX1_takenBy_7 rfl rfl ?_
  refine g_getI dX1_takenBy_8 fl1_88 sh515 ?_
  refine g_icmp_ge 54 dX1_takenBy_11 (by decide) (fun q1 => ?_) (fun q1 => ?_)
  · refine g_iload_n 3 dX1_takenBy_54 rfl rfl ?_
    exact g_iret dX1_takenBy_55 rfl enSH (h1 q1)
  · refine g_iload 4 dX1_takenBy_14 rfl ?_
    refine g_bipush (v := 6) dX1_takenBy_16 (by decide) ?_
    refine g_icmp_ge 54 dX1_takenBy_18 (by decide) (fun q2 => ?_) (fun q2 => ?_)
    · refine g_iload_n 3 dX1_takenBy_54 rfl rfl ?_
      exact g_iret dX1_takenBy_55 rfl enSH (h2 q1 q2)
    · refine g_iload_n 1 dX1_takenBy_21 rfl rfl ?_
      refine g_aload_n 0 dX1_takenBy_22 rfl rfl ?_
      refine g_getR dX1_takenBy_23 fl1_23 rfl sh515 (w1_5 hW sh515) ?_
      refine g_iload 4 dX1_takenBy_26 rfl ?_
      refine g_iald (j := x4.toNatClampNeg) dX1_takenBy_28 (s1_5 sh515) (h3 q1 q2) rfl ?_
      refine g_iload_n 2 dX1_takenBy_29 rfl rfl ?_
      refine g_callS (As := [.int x1, .int (mI m 521 x4.toNatClampNeg), .int x2]) (st := []) dX1_takenBy_30 clX1_91 rfl rfl (Nat.le_of_ble_eq_true rfl) (rmSH (by decide) (by decide)) (s_isDigit hW (fun q3 => ?_) (fun q3 => ?_))
      · refine g_if_eq 48 dX1_takenBy_33 (by decide) (fun q4 => absurd q4 (by decide)) (fun q4 => ?_)
        refine g_iload_n 3 dX1_takenBy_36 rfl rfl ?_
        refine g_iconst (v := 1) dX1_takenBy_37 (by decide) ?_
        refine g_aload_n 0 dX1_takenBy_38 rfl rfl ?_
        refine g_getR dX1_takenBy_39 fl1_20 rfl sh515 (w1_4 hW sh515) ?_
        refine g_iload 4 dX1_takenBy_42 rfl ?_
        refine g_iald (j := x4.toNatClampNeg) dX1_takenBy_44 (s1_4 sh515) (h4 q1 q2 q3) rfl ?_
        refine g_ishl dX1_takenBy_45 ?_
        refine g_ior dX1_takenBy_46 ?_
        refine g_istore_n (ls2 := [(3, .int (x3 ||| ((1 : Int32) <<< ((mI m 520 x4.toNatClampNeg) &&& 31)))), (0, .ref 515), (1, .int x1), (2, .int x2), (4, .int x4)]) dX1_takenBy_47 rfl (by decide) rfl ?_
        refine g_iinc (v := x4 + (1 : Int32)) (ls2 := [(4, .int (x4 + (1 : Int32))), (3, .int (x3 ||| ((1 : Int32) <<< ((mI m 520 x4.toNatClampNeg) &&& 31)))), (0, .ref 515), (1, .int x1), (2, .int x2)]) 4 dX1_takenBy_48 rfl rfl (by decide) rfl ?_
        refine g_goto 5 dX1_takenBy_51 (by decide) ?_
        exact g_ls [2, 3, 4, 1, 0] rfl (h5 q1 q2 q3)
      · refine g_if_eq 48 dX1_takenBy_33 (by decide) (fun q5 => ?_) (fun q5 => absurd q5 (by decide))
        refine g_iinc (v := x4 + (1 : Int32)) (ls2 := [(4, .int (x4 + (1 : Int32))), (0, .ref 515), (1, .int x1), (2, .int x2), (3, .int x3)]) 4 dX1_takenBy_48 rfl rfl (by decide) rfl ?_
        refine g_goto 5 dX1_takenBy_51 (by decide) ?_
        exact g_ls [1, 2, 3, 4, 0] rfl (h6 q1 q2 q3)
theorem bX1_best_0 {X : pX} {Q : Option Value → pMem → Prop} {m : pMem} {x1 : Int32} {x2 : Int32} {x3 : Int32} (hW : Wf m)
    (h1 : vp_in x2 2)
    (h2 : sm64 (mI m 522 x2.toNatClampNeg))
    (h3 : (pcI (mI m 522 x2.toNatClampNeg)) < (mI m 31 1) → Go X 1 mX1_best Q 33 [(0, .ref 515), (1, .int x1), (2, .int x2), (4, .int x3), (5, .int (0 : Int32))] [] (uI m 515 9 (-1 : Int32)))
    (h4 : ¬ ((pcI (mI m 522 x2.toNatClampNeg)) < (mI m 31 1)) → Q (some (.int x3)) (uI m 515 9 (-1 : Int32))) :
    Go X 1 mX1_best Q 0 [(0, .ref 515), (1, .int x1), (2, .int x2), (3, .int x3)] [] m := by
  refine g_iload_n 3 dX1_best_0 rfl rfl ?_
  refine g_istore (ls2 := [(4, .int x3), (0, .ref 515), (1, .int x1), (2, .int x2), (3, .int x3)]) dX1_best_1 (by decide) rfl ?_
  refine g_aload_n 1 dX1_best_3 rfl rfl ?_
  refine g_iconst (v := -1) dX1_best_4 (by decide) ?_
  refine g_putI dX1_best_5 fl1_95 (fun h => by cases h) sh515 ?_
  refine g_aload_n 1 dX1_best_8 rfl rfl ?_
  refine g_getR dX1_best_9 fl1_26 rfl sh515 (w1_7 hW sh515) ?_
  refine g_iload_n 3 dX1_best_12 rfl rfl ?_
  refine g_iald (j := x2.toNatClampNeg) dX1_best_13 (s1_7 sh515) h1 rfl ?_
  refine g_callS (As := [.int (mI m 522 x2.toNatClampNeg)]) (st := []) dX1_best_14 clX1_98 rfl rfl (Nat.le_of_ble_eq_true rfl) (rmSH (by decide) (by decide)) (s_bitCount hW h2 ?_)
  show Go X 1 mX1_best Q 17 [(4, .int x3), (0, .ref 515), (1, .int x1), (2, .int x2), (3, .int x3)] [.int (pcI (mI m 522 x2.toNatClampNeg))] (uI m 515 9 (-1 : Int32))
  refine g_aload_n 1 dX1_best_17 rfl rfl ?_
  refine g_getR dX1_best_18 fl1_29 rfl sh515 (w1_0 hW sh515) ?_
  refine g_getI dX1_best_21 fl1_103 sh31 ?_
  refine g_icmp_lt 30 dX1_best_24 (by decide) (fun q1 => ?_) (fun q1 => ?_)
  · refine g_iconst (v := 0) dX1_best_30 (by decide) ?_
    refine g_istore (ls2 := [(5, .int (0 : Int32)), (4, .int x3), (0, .ref 515), (1, .int x1), (2, .int x2), (3, .int x3)]) dX1_best_31 (by decide) rfl ?_
    exact g_ls [2, 3, 4, 1, 0] rfl (h3 q1)
  · refine g_iload 0 dX1_best_27 rfl ?_
    exact g_iret dX1_best_29 rfl enSH (h4 q1)
theorem bX1_best_33 {X : pX} {Q : Option Value → pMem → Prop} {m : pMem} {x1 : Int32} {x2 : Int32} {x4 : Int32} {x5 : Int32} (hW : Wf m)
    (h1 : (mI m 515 6) ≤ x5 → Q (some (.int x4)) m)
    (h2 : ¬ ((mI m 515 6) ≤ x5) → (6 : Int32) ≤ x5 → Q (some (.int x4)) m)
    (h3 : ¬ ((mI m 515 6) ≤ x5) → ¬ ((6 : Int32) ≤ x5) → vp_in x5 6)
    (h4 : ¬ ((mI m 515 6) ≤ x5) → ¬ ((6 : Int32) ≤ x5) → 0 < (mI m 521 x5.toNatClampNeg) ∧ ((x1 / (mI m 521 x5.toNatClampNeg)) - (x1 / (mI m 521 x5.toNatClampNeg)) / (3 : Int32) * (3 : Int32)) = (0 : Int32) → (2916 : Int32) ≤ (((x1 + ((x2 + (1 : Int32)) * (mI m 521 x5.toNatClampNeg))) * (4 : Int32)) + (((1 : Int32) - x2) * (2 : Int32))) → Go X 1 mX1_best Q 33 [(0, .ref 515), (1, .int x1), (2, .int x2), (4, .int x4), (5, .int (x5 + (1 : Int32)))] [] m)
    (h5 : ¬ ((mI m 515 6) ≤ x5) → ¬ ((6 : Int32) ≤ x5) → 0 < (mI m 521 x5.toNatClampNeg) ∧ ((x1 / (mI m 521 x5.toNatClampNeg)) - (x1 / (mI m 521 x5.toNatClampNeg)) / (3 : Int32) * (3 : Int32)) = (0 : Int32) → ¬ ((2916 : Int32) ≤ (((x1 + ((x2 + (1 : Int32)) * (mI m 521 x5.toNatClampNeg))) * (4 : Int32)) + (((1 : Int32) - x2) * (2 : Int32)))) → vp_in (((x1 + ((x2 + (1 : Int32)) * (mI m 521 x5.toNatClampNeg))) * (4 : Int32)) + (((1 : Int32) - x2) * (2 : Int32))) 2916)
    (h6 : ¬ ((mI m 515 6) ≤ x5) → ¬ ((6 : Int32) ≤ x5) → 0 < (mI m 521 x5.toNatClampNeg) ∧ ((x1 / (mI m 521 x5.toNatClampNeg)) - (x1 / (mI m 521 x5.toNatClampNeg)) / (3 : Int32) * (3 : Int32)) = (0 : Int32) → ¬ ((2916 : Int32) ≤ (((x1 + ((x2 + (1 : Int32)) * (mI m 521 x5.toNatClampNeg))) * (4 : Int32)) + (((1 : Int32) - x2) * (2 : Int32)))) → ¬ x2 = 0 → x4 ≤ (mI m 516 ((((x1 + ((x2 + (1 : Int32)) * (mI m 521 x5.toNatClampNeg))) * (4 : Int32)) + (((1 : Int32) - x2) * (2 : Int32))).toNatClampNeg)) → Go X 1 mX1_best Q 33 [(0, .ref 515), (1, .int x1), (2, .int x2), (4, .int x4), (5, .int (x5 + (1 : Int32)))] [] m)
    (h7 : ¬ ((mI m 515 6) ≤ x5) → ¬ ((6 : Int32) ≤ x5) → 0 < (mI m 521 x5.toNatClampNeg) ∧ ((x1 / (mI m 521 x5.toNatClampNeg)) - (x1 / (mI m 521 x5.toNatClampNeg)) / (3 : Int32) * (3 : Int32)) = (0 : Int32) → ¬ ((2916 : Int32) ≤ (((x1 + ((x2 + (1 : Int32)) * (mI m 521 x5.toNatClampNeg))) * (4 : Int32)) + (((1 : Int32) - x2) * (2 : Int32)))) → ¬ x2 = 0 → ¬ (x4 ≤ (mI m 516 ((((x1 + ((x2 + (1 : Int32)) * (mI m 521 x5.toNatClampNeg))) * (4 : Int32)) + (((1 : Int32) - x2) * (2 : Int32))).toNatClampNeg))) → Go X 1 mX1_best Q 127 [(0, .ref 515), (1, .int x1), (2, .int x2), (5, .int x5), (7, .int (mI m 516 ((((x1 + ((x2 + (1 : Int32)) * (mI m 521 x5.toNatClampNeg))) * (4 : Int32)) + (((1 : Int32) - x2) * (2 : Int32))).toNatClampNeg)))] [] m)
    (h8 : ¬ ((mI m 515 6) ≤ x5) → ¬ ((6 : Int32) ≤ x5) → 0 < (mI m 521 x5.toNatClampNeg) ∧ ((x1 / (mI m 521 x5.toNatClampNeg)) - (x1 / (mI m 521 x5.toNatClampNeg)) / (3 : Int32) * (3 : Int32)) = (0 : Int32) → ¬ ((2916 : Int32) ≤ (((x1 + ((x2 + (1 : Int32)) * (mI m 521 x5.toNatClampNeg))) * (4 : Int32)) + (((1 : Int32) - x2) * (2 : Int32)))) → x2 = 0 → (mI m 516 ((((x1 + ((x2 + (1 : Int32)) * (mI m 521 x5.toNatClampNeg))) * (4 : Int32)) + (((1 : Int32) - x2) * (2 : Int32))).toNatClampNeg)) ≤ x4 → Go X 1 mX1_best Q 33 [(0, .ref 515), (1, .int x1), (2, .int x2), (4, .int x4), (5, .int (x5 + (1 : Int32)))] [] m)
    (h9 : ¬ ((mI m 515 6) ≤ x5) → ¬ ((6 : Int32) ≤ x5) → 0 < (mI m 521 x5.toNatClampNeg) ∧ ((x1 / (mI m 521 x5.toNatClampNeg)) - (x1 / (mI m 521 x5.toNatClampNeg)) / (3 : Int32) * (3 : Int32)) = (0 : Int32) → ¬ ((2916 : Int32) ≤ (((x1 + ((x2 + (1 : Int32)) * (mI m 521 x5.toNatClampNeg))) * (4 : Int32)) + (((1 : Int32) - x2) * (2 : Int32)))) → x2 = 0 → ¬ ((mI m 516 ((((x1 + ((x2 + (1 : Int32)) * (mI m 521 x5.toNatClampNeg))) * (4 : Int32)) + (((1 : Int32) - x2) * (2 : Int32))).toNatClampNeg)) ≤ x4) → Go X 1 mX1_best Q 127 [(0, .ref 515), (1, .int x1), (2, .int x2), (5, .int x5), (7, .int (mI m 516 ((((x1 + ((x2 + (1 : Int32)) * (mI m 521 x5.toNatClampNeg))) * (4 : Int32)) + (((1 : Int32) - x2) * (2 : Int32))).toNatClampNeg)))] [] m)
    (h10 : ¬ ((mI m 515 6) ≤ x5) → ¬ ((6 : Int32) ≤ x5) → ¬ (0 < (mI m 521 x5.toNatClampNeg) ∧ ((x1 / (mI m 521 x5.toNatClampNeg)) - (x1 / (mI m 521 x5.toNatClampNeg)) / (3 : Int32) * (3 : Int32)) = (0 : Int32)) → Go X 1 mX1_best Q 33 [(0, .ref 515), (1, .int x1), (2, .int x2), (4, .int x4), (5, .int (x5 + (1 : Int32)))] [] m) :
    Go X 1 mX1_best Q 33 [(0, .ref 515), (1, .int x1), (2, .int x2), (4, .int x4), (5, .int x5)] [] m := by
  refine g_iload 4 dX1_best_33 rfl ?_
  refine g_aload_n 0 dX1_best_35 rfl rfl ?_
  refine g_getI dX1_best_36 fl1_88 sh515 ?_
  refine g_icmp_ge 148 dX1_best_39 (by decide) (fun q1 => ?_) (fun q1 => ?_)
  · refine g_iload 3 dX1_best_148 rfl ?_
    exact g_iret dX1_best_150 rfl enSH (h1 q1)
  · refine g_iload 4 dX1_best_42 rfl ?_
    refine g_bipush (v := 6) dX1_best_44 (by decide) ?_
    refine g_icmp_ge 148 dX1_best_46 (by decide) (fun q2 => ?_) (fun q2 => ?_)
    · refine g_iload 3 dX1_best_148 rfl ?_
      exact g_iret dX1_best_150 rfl enSH (h2 q1 q2)
    · refine g_iload_n 1 dX1_best_49 rfl rfl ?_
      refine g_iload_n 2 dX1_best_50 rfl rfl ?_
      refine g_iconst (v := 1) dX1_best_51 (by decide) ?_
      refine g_iadd dX1_best_52 ?_
      refine g_aload_n 0 dX1_best_53 rfl rfl ?_
      refine g_getR dX1_best_54 fl1_23 rfl sh515 (w1_5 hW sh515) ?_
      refine g_iload 4 dX1_best_57 rfl ?_
      refine g_iald (j := x5.toNatClampNeg) dX1_best_59 (s1_5 sh515) (h3 q1 q2) rfl ?_
      refine g_imul dX1_best_60 ?_
      refine g_iadd dX1_best_61 ?_
      refine g_iconst (v := 4) dX1_best_62 (by decide) ?_
      refine g_imul dX1_best_63 ?_
      refine g_iconst (v := 1) dX1_best_64 (by decide) ?_
      refine g_iload_n 2 dX1_best_65 rfl rfl ?_
      refine g_isub dX1_best_66 ?_
      refine g_iconst (v := 2) dX1_best_67 (by decide) ?_
      refine g_imul dX1_best_68 ?_
      refine g_iadd dX1_best_69 ?_
      refine g_istore (ls2 := [(6, .int (((x1 + ((x2 + (1 : Int32)) * (mI m 521 x5.toNatClampNeg))) * (4 : Int32)) + (((1 : Int32) - x2) * (2 : Int32)))), (0, .ref 515), (1, .int x1), (2, .int x2), (4, .int x4), (5, .int x5)]) dX1_best_70 (by decide) rfl ?_
      refine g_iload_n 2 dX1_best_72 rfl rfl ?_
      refine g_aload_n 1 dX1_best_73 rfl rfl ?_
      refine g_getR dX1_best_74 fl1_23 rfl sh515 (w1_5 hW sh515) ?_
      refine g_iload 5 dX1_best_77 rfl ?_
      refine g_iald (j := x5.toNatClampNeg) dX1_best_79 (s1_5 sh515) (h3 q1 q2) rfl ?_
      refine g_iconst (v := 0) dX1_best_80 (by decide) ?_
      refine g_callS (As := [.int x1, .int (mI m 521 x5.toNatClampNeg), .int (0 : Int32)]) (st := []) dX1_best_81 clX1_91 rfl rfl (Nat.le_of_ble_eq_true rfl) (rmSH (by decide) (by decide)) (s_isDigit hW (fun q3 => ?_) (fun q3 => ?_))
      · refine g_if_eq 142 dX1_best_84 (by decide) (fun q4 => absurd q4 (by decide)) (fun q4 => ?_)
        refine g_iload 0 dX1_best_87 rfl ?_
        refine g_aload_n 1 dX1_best_89 rfl rfl ?_
        refine g_getR dX1_best_90 fl1_11 rfl sh515 (w1_2 hW sh515) ?_
        refine g_alen (v := (2916 : Int32)) dX1_best_93 (s1_2 sh515) (by decide) (by first | rfl | decide) ?_
        refine g_icmp_ge 142 dX1_best_94 (by decide) (fun q5 => ?_) (fun q5 => ?_)
        · refine g_iinc (v := x5 + (1 : Int32)) (ls2 := [(5, .int (x5 + (1 : Int32))), (6, .int (((x1 + ((x2 + (1 : Int32)) * (mI m 521 x5.toNatClampNeg))) * (4 : Int32)) + (((1 : Int32) - x2) * (2 : Int32)))), (0, .ref 515), (1, .int x1), (2, .int x2), (4, .int x4)]) 5 dX1_best_142 rfl rfl (by decide) rfl ?_
          refine g_goto 33 dX1_best_145 (by decide) ?_
          exact g_ls [2, 3, 4, 5, 0] rfl (h4 q1 q2 q3 q5)
        · refine g_aload_n 1 dX1_best_97 rfl rfl ?_
          refine g_getR dX1_best_98 fl1_11 rfl sh515 (w1_2 hW sh515) ?_
          refine g_iload 0 dX1_best_101 rfl ?_
          refine g_iald (j := (((x1 + ((x2 + (1 : Int32)) * (mI m 521 x5.toNatClampNeg))) * (4 : Int32)) + (((1 : Int32) - x2) * (2 : Int32))).toNatClampNeg) dX1_best_103 (s1_2 sh515) (h5 q1 q2 q3 q5) rfl ?_
          refine g_istore (ls2 := [(7, .int (mI m 516 ((((x1 + ((x2 + (1 : Int32)) * (mI m 521 x5.toNatClampNeg))) * (4 : Int32)) + (((1 : Int32) - x2) * (2 : Int32))).toNatClampNeg))), (6, .int (((x1 + ((x2 + (1 : Int32)) * (mI m 521 x5.toNatClampNeg))) * (4 : Int32)) + (((1 : Int32) - x2) * (2 : Int32)))), (0, .ref 515), (1, .int x1), (2, .int x2), (4, .int x4), (5, .int x5)]) dX1_best_104 (by decide) rfl ?_
          refine g_iload_n 4 dX1_best_106 rfl rfl ?_
          refine g_if_ne 120 dX1_best_107 (by decide) (fun q6 => ?_) (fun q6 => ?_)
          · refine g_iload 0 dX1_best_120 rfl ?_
            refine g_iload 5 dX1_best_122 rfl ?_
            refine g_icmp_ge 142 dX1_best_124 (by decide) (fun q7 => ?_) (fun q7 => ?_)
            · refine g_iinc (v := x5 + (1 : Int32)) (ls2 := [(5, .int (x5 + (1 : Int32))), (7, .int (mI m 516 ((((x1 + ((x2 + (1 : Int32)) * (mI m 521 x5.toNatClampNeg))) * (4 : Int32)) + (((1 : Int32) - x2) * (2 : Int32))).toNatClampNeg))), (6, .int (((x1 + ((x2 + (1 : Int32)) * (mI m 521 x5.toNatClampNeg))) * (4 : Int32)) + (((1 : Int32) - x2) * (2 : Int32)))), (0, .ref 515), (1, .int x1), (2, .int x2), (4, .int x4)]) 6 dX1_best_142 rfl rfl (by decide) rfl ?_
              refine g_goto 33 dX1_best_145 (by decide) ?_
              exact g_ls [3, 4, 5, 6, 0] rfl (h6 q1 q2 q3 q5 q6 q7)
            · exact g_ls [2, 3, 4, 6, 0] rfl (h7 q1 q2 q3 q5 q6 q7)
          · refine g_iload 0 dX1_best_110 rfl ?_
            refine g_iload 5 dX1_best_112 rfl ?_
            refine g_icmp_le 142 dX1_best_114 (by decide) (fun q8 => ?_) (fun q8 => ?_)
            · refine g_iinc (v := x5 + (1 : Int32)) (ls2 := [(5, .int (x5 + (1 : Int32))), (7, .int (mI m 516 ((((x1 + ((x2 + (1 : Int32)) * (mI m 521 x5.toNatClampNeg))) * (4 : Int32)) + (((1 : Int32) - x2) * (2 : Int32))).toNatClampNeg))), (6, .int (((x1 + ((x2 + (1 : Int32)) * (mI m 521 x5.toNatClampNeg))) * (4 : Int32)) + (((1 : Int32) - x2) * (2 : Int32)))), (0, .ref 515), (1, .int x1), (2, .int x2), (4, .int x4)]) 6 dX1_best_142 rfl rfl (by decide) rfl ?_
              refine g_goto 33 dX1_best_145 (by decide) ?_
              exact g_ls [3, 4, 5, 6, 0] rfl (h8 q1 q2 q3 q5 q6 q8)
            · refine g_goto 127 dX1_best_117 (by decide) ?_
              exact g_ls [2, 3, 4, 6, 0] rfl (h9 q1 q2 q3 q5 q6 q8)
      · refine g_if_eq 142 dX1_best_84 (by decide) (fun q9 => ?_) (fun q9 => absurd q9 (by decide))
        refine g_iinc (v := x5 + (1 : Int32)) (ls2 := [(5, .int (x5 + (1 : Int32))), (6, .int (((x1 + ((x2 + (1 : Int32)) * (mI m 521 x5.toNatClampNeg))) * (4 : Int32)) + (((1 : Int32) - x2) * (2 : Int32)))), (0, .ref 515), (1, .int x1), (2, .int x2), (4, .int x4)]) 5 dX1_best_142 rfl rfl (by decide) rfl ?_
        refine g_goto 33 dX1_best_145 (by decide) ?_
        exact g_ls [2, 3, 4, 5, 0] rfl (h10 q1 q2 q3)
theorem bX1_best_127 {X : pX} {Q : Option Value → pMem → Prop} {m : pMem} {x1 : Int32} {x2 : Int32} {x5 : Int32} {x7 : Int32} (hW : Wf m)
    (h1 : vp_in x5 6)
    (h2 : Go X 1 mX1_best Q 33 [(0, .ref 515), (1, .int x1), (2, .int x2), (4, .int x7), (5, .int (x5 + (1 : Int32)))] [] (uI m 515 9 (mI m 520 x5.toNatClampNeg))) :
    Go X 1 mX1_best Q 127 [(0, .ref 515), (1, .int x1), (2, .int x2), (5, .int x5), (7, .int x7)] [] m := by
  refine g_iload 4 dX1_best_127 rfl ?_
  refine g_istore (ls2 := [(4, .int x7), (0, .ref 515), (1, .int x1), (2, .int x2), (5, .int x5), (7, .int x7)]) dX1_best_129 (by decide) rfl ?_
  refine g_aload_n 1 dX1_best_131 rfl rfl ?_
  refine g_aload_n 1 dX1_best_132 rfl rfl ?_
  refine g_getR dX1_best_133 fl1_20 rfl sh515 (w1_4 hW sh515) ?_
  refine g_iload 4 dX1_best_136 rfl ?_
  refine g_iald (j := x5.toNatClampNeg) dX1_best_138 (s1_4 sh515) h1 rfl ?_
  refine g_putI dX1_best_139 fl1_95 (fun h => by cases h) sh515 ?_
  refine g_iinc (v := x5 + (1 : Int32)) (ls2 := [(5, .int (x5 + (1 : Int32))), (4, .int x7), (0, .ref 515), (1, .int x1), (2, .int x2), (7, .int x7)]) 4 dX1_best_142 rfl rfl (by decide) rfl ?_
  refine g_goto 33 dX1_best_145 (by decide) ?_
  exact g_ls [2, 3, 4, 1, 0] rfl h2
theorem bX1_setWorth_0 {X : pX} {Q : Option Value → pMem → Prop} {m : pMem} {x1 : Int32} {x2 : Int32} (hW : Wf m)
    (h1 : Go X 2 mX1_setWorth Q 2 [(0, .ref 515), (1, .int x1), (2, .int x2), (3, .int (0 : Int32))] [] m) :
    Go X 2 mX1_setWorth Q 0 [(0, .ref 515), (1, .int x1), (2, .int x2)] [] m := by
  refine g_iconst (v := 0) dX1_setWorth_0 (by decide) ?_
  refine g_istore_n (ls2 := [(3, .int (0 : Int32)), (0, .ref 515), (1, .int x1), (2, .int x2)]) dX1_setWorth_1 rfl (by decide) rfl ?_
  exact g_ls [1, 2, 3, 0] rfl h1
theorem bX1_setWorth_2 {X : pX} {Q : Option Value → pMem → Prop} {m : pMem} {x1 : Int32} {x2 : Int32} {x3 : Int32} (hW : Wf m)
    (h1 : (64 : Int32) ≤ x3 → Q none m)
    (h2 : ¬ ((64 : Int32) ≤ x3) → vp_in x1 2)
    (h3 : ¬ ((64 : Int32) ≤ x3) → vp_in x2 4)
    (h4 : ¬ ((64 : Int32) ≤ x3) → dyOk (mI m 31 3) (mI m 33) x2 (mI m 38 x2.toNatClampNeg) (mI m 31 2))
    (h5 : ¬ ((64 : Int32) ≤ x3) → vp_in x3 64)
    (h6 : ¬ ((64 : Int32) ≤ x3) → Go X 2 mX1_setWorth Q 2 [(0, .ref 515), (1, .int x1), (2, .int x2), (3, .int (x3 + (1 : Int32)))] [] (uI m (518 + x1.toNatClampNeg) x3.toNatClampNeg ((wSum (mI m 35) x3 6) - (dyI (mI m 32) (mI m 33 x2.toNatClampNeg) (wSum (mI m 34) x3 6) (mI m 38 x2.toNatClampNeg) (mI m 31 2))))) :
    Go X 2 mX1_setWorth Q 2 [(0, .ref 515), (1, .int x1), (2, .int x2), (3, .int x3)] [] m := by
  refine g_iload_n 3 dX1_setWorth_2 rfl rfl ?_
  refine g_bipush (v := 64) dX1_setWorth_3 (by decide) ?_
  refine g_icmp_ge 56 dX1_setWorth_5 (by decide) (fun q1 => ?_) (fun q1 => ?_)
  · exact g_vret dX1_setWorth_56 rfl enSH (h1 q1)
  · refine g_aload_n 0 dX1_setWorth_8 rfl rfl ?_
    refine g_getR dX1_setWorth_9 fl1_17 rfl sh515 (w1_3 hW sh515) ?_
    refine g_iload_n 1 dX1_setWorth_12 rfl rfl ?_
    refine g_aaldA dX1_setWorth_13 sh517 (h2 q1) rfl (wWorth hW (inN (h2 q1))) ?_
    refine g_iload_n 3 dX1_setWorth_14 rfl rfl ?_
    refine g_aload_n 0 dX1_setWorth_15 rfl rfl ?_
    refine g_getR dX1_setWorth_16 fl1_29 rfl sh515 (w1_0 hW sh515) ?_
    refine g_iload_n 3 dX1_setWorth_19 rfl rfl ?_
    refine g_callV (As := [.int x3]) (st := [.int x3, .ref (518 + x1.toNatClampNeg)]) dX1_setWorth_20 clX1_70 sh31 rfl rfl (Nat.le_of_ble_eq_true rfl) (rmSH (by decide) (by decide)) (s_worthOf hW sh31 ?_)
    show Go X 2 mX1_setWorth Q 23 [(0, .ref 515), (1, .int x1), (2, .int x2), (3, .int x3)] [.int (wSum (mI m 35) x3 6), .int x3, .ref (518 + x1.toNatClampNeg)] m
    refine g_aload_n 0 dX1_setWorth_23 rfl rfl ?_
    refine g_getR dX1_setWorth_24 fl1_29 rfl sh515 (w1_0 hW sh515) ?_
    refine g_iload_n 2 dX1_setWorth_27 rfl rfl ?_
    refine g_aload_n 0 dX1_setWorth_28 rfl rfl ?_
    refine g_getR dX1_setWorth_29 fl1_33 rfl sh515 (w1_1 hW sh515) ?_
    refine g_getR dX1_setWorth_32 fl1_75 rfl sh37 (w8_1 hW sh37) ?_
    refine g_iload_n 2 dX1_setWorth_35 rfl rfl ?_
    refine g_iald (j := x2.toNatClampNeg) dX1_setWorth_36 (s8_1 sh37) (h3 q1) rfl ?_
    refine g_aload_n 0 dX1_setWorth_37 rfl rfl ?_
    refine g_getR dX1_setWorth_38 fl1_29 rfl sh515 (w1_0 hW sh515) ?_
    refine g_getI dX1_setWorth_41 fl1_78 sh31 ?_
    refine g_iload_n 3 dX1_setWorth_44 rfl rfl ?_
    refine g_callV (As := [.int x2, .int (mI m 38 x2.toNatClampNeg), .int (mI m 31 2), .int x3]) (st := [.int (wSum (mI m 35) x3 6), .int x3, .ref (518 + x1.toNatClampNeg)]) dX1_setWorth_45 clX1_81 sh31 rfl rfl (Nat.le_of_ble_eq_true rfl) (rmSH (by decide) (by decide)) (s_daysFor hW sh31 (h4 q1) ?_)
    show Go X 2 mX1_setWorth Q 48 [(0, .ref 515), (1, .int x1), (2, .int x2), (3, .int x3)] [.int (dyI (mI m 32) (mI m 33 x2.toNatClampNeg) (wSum (mI m 34) x3 6) (mI m 38 x2.toNatClampNeg) (mI m 31 2)), .int (wSum (mI m 35) x3 6), .int x3, .ref (518 + x1.toNatClampNeg)] m
    refine g_isub dX1_setWorth_48 ?_
    refine g_iast (j := x3.toNatClampNeg) dX1_setWorth_49 (shWorth _ (inN (h2 q1))) (h5 q1) rfl ?_
    refine g_iinc (v := x3 + (1 : Int32)) (ls2 := [(3, .int (x3 + (1 : Int32))), (0, .ref 515), (1, .int x1), (2, .int x2)]) 3 dX1_setWorth_50 rfl rfl (by decide) rfl ?_
    refine g_goto 2 dX1_setWorth_53 (by decide) ?_
    exact g_ls [1, 2, 3, 0] rfl (h6 q1)
theorem bX1_layOut_0 {X : pX} {Q : Option Value → pMem → Prop} {m : pMem} {x1 : Int32} (hW : Wf m)
    (h1 : vp_in x1 4)
    (h2 : Go X 2 mX1_layOut Q 19 [(0, .ref 515), (2, .int (tAt (mI m 40) ((10 : Int32) + mI m 38 x1.toNatClampNeg) 6)), (3, .int (1 : Int32)), (4, .int (0 : Int32))] [] (uI m 515 6 (0 : Int32))) :
    Go X 2 mX1_layOut Q 0 [(0, .ref 515), (1, .int x1)] [] m := by
  refine g_aload_n 0 dX1_layOut_0 rfl rfl ?_
  refine g_getR dX1_layOut_1 fl1_33 rfl sh515 (w1_1 hW sh515) ?_
  refine g_iload_n 1 dX1_layOut_4 rfl rfl ?_
  refine g_callV (As := [.int x1]) (st := []) dX1_layOut_5 clX1_85 sh37 rfl rfl (Nat.le_of_ble_eq_true rfl) (rmSH (by decide) (by decide)) (s_lyingBy hW sh37 h1 ?_)
  show Go X 2 mX1_layOut Q 8 [(0, .ref 515), (1, .int x1)] [.int (tAt (mI m 40) ((10 : Int32) + mI m 38 x1.toNatClampNeg) 6)] m
  refine g_istore_n (ls2 := [(2, .int (tAt (mI m 40) ((10 : Int32) + mI m 38 x1.toNatClampNeg) 6)), (0, .ref 515), (1, .int x1)]) dX1_layOut_8 rfl (by decide) rfl ?_
  refine g_iconst (v := 1) dX1_layOut_9 (by decide) ?_
  refine g_istore_n (ls2 := [(3, .int (1 : Int32)), (2, .int (tAt (mI m 40) ((10 : Int32) + mI m 38 x1.toNatClampNeg) 6)), (0, .ref 515), (1, .int x1)]) dX1_layOut_10 rfl (by decide) rfl ?_
  refine g_aload_n 2 dX1_layOut_11 rfl rfl ?_
  refine g_iconst (v := 0) dX1_layOut_12 (by decide) ?_
  refine g_putI dX1_layOut_13 fl1_88 (fun h => by cases h) sh515 ?_
  refine g_iconst (v := 0) dX1_layOut_16 (by decide) ?_
  refine g_istore (ls2 := [(4, .int (0 : Int32)), (3, .int (1 : Int32)), (2, .int (tAt (mI m 40) ((10 : Int32) + mI m 38 x1.toNatClampNeg) 6)), (0, .ref 515), (1, .int x1)]) dX1_layOut_17 (by decide) rfl ?_
  exact g_ls [3, 2, 1, 0] rfl h2
theorem bX1_layOut_19 {X : pX} {Q : Option Value → pMem → Prop} {m : pMem} {x2 : Int32} {x3 : Int32} {x4 : Int32} (hW : Wf m)
    (h1 : (6 : Int32) ≤ x4 → Q (some (.int x3)) m)
    (h2 : ¬ ((6 : Int32) ≤ x4) → ¬ ((x2 >>> (x4 &&& 31)) &&& (1 : Int32)) = (1 : Int32) → Go X 2 mX1_layOut Q 19 [(0, .ref 515), (2, .int x2), (3, .int x3), (4, .int (x4 + (1 : Int32)))] [] m)
    (h3 : ¬ ((6 : Int32) ≤ x4) → ((x2 >>> (x4 &&& 31)) &&& (1 : Int32)) = (1 : Int32) → vp_in (mI m 515 6) 6)
    (h4 : ¬ ((6 : Int32) ≤ x4) → ((x2 >>> (x4 &&& 31)) &&& (1 : Int32)) = (1 : Int32) → Go X 2 mX1_layOut Q 19 [(0, .ref 515), (2, .int x2), (3, .int (x3 * (3 : Int32))), (4, .int (x4 + (1 : Int32)))] [] (uI (uI (uI m 520 ((mI m 515 6).toNatClampNeg) x4) 521 ((mI m 515 6).toNatClampNeg) x3) 515 6 ((mI m 515 6) + (1 : Int32)))) :
    Go X 2 mX1_layOut Q 19 [(0, .ref 515), (2, .int x2), (3, .int x3), (4, .int x4)] [] m := by
  refine g_iload 3 dX1_layOut_19 rfl ?_
  refine g_bipush (v := 6) dX1_layOut_21 (by decide) ?_
  refine g_icmp_ge 77 dX1_layOut_23 (by decide) (fun q1 => ?_) (fun q1 => ?_)
  · refine g_iload_n 2 dX1_layOut_77 rfl rfl ?_
    exact g_iret dX1_layOut_78 rfl enSH (h1 q1)
  · refine g_iload_n 1 dX1_layOut_26 rfl rfl ?_
    refine g_iload 3 dX1_layOut_27 rfl ?_
    refine g_ishr dX1_layOut_29 ?_
    refine g_iconst (v := 1) dX1_layOut_30 (by decide) ?_
    refine g_iand dX1_layOut_31 ?_
    refine g_iconst (v := 1) dX1_layOut_32 (by decide) ?_
    refine g_icmp_ne 71 dX1_layOut_33 (by decide) (fun q2 => ?_) (fun q2 => ?_)
    · refine g_iinc (v := x4 + (1 : Int32)) (ls2 := [(4, .int (x4 + (1 : Int32))), (0, .ref 515), (2, .int x2), (3, .int x3)]) 3 dX1_layOut_71 rfl rfl (by decide) rfl ?_
      refine g_goto 19 dX1_layOut_74 (by decide) ?_
      exact g_ls [1, 2, 3, 0] rfl (h2 q1 q2)
    · refine g_aload_n 0 dX1_layOut_36 rfl rfl ?_
      refine g_getR dX1_layOut_37 fl1_20 rfl sh515 (w1_4 hW sh515) ?_
      refine g_aload_n 0 dX1_layOut_40 rfl rfl ?_
      refine g_getI dX1_layOut_41 fl1_88 sh515 ?_
      refine g_iload 3 dX1_layOut_44 rfl ?_
      refine g_iast (j := (mI m 515 6).toNatClampNeg) dX1_layOut_46 (s1_4 sh515) (h3 q1 q2) rfl ?_
      refine g_aload_n 0 dX1_layOut_47 rfl rfl ?_
      refine g_getR dX1_layOut_48 fl1_23 rfl sh515 (w1_5 hW sh515) ?_
      refine g_aload_n 0 dX1_layOut_51 rfl rfl ?_
      refine g_getI dX1_layOut_52 fl1_88 sh515 ?_
      refine g_iload_n 2 dX1_layOut_55 rfl rfl ?_
      refine g_iast (j := (mI m 515 6).toNatClampNeg) dX1_layOut_56 (s1_5 sh515) (h3 q1 q2) rfl ?_
      refine g_aload_n 0 dX1_layOut_57 rfl rfl ?_
      refine g_dup dX1_layOut_58 rfl ?_
      refine g_getI dX1_layOut_59 fl1_88 sh515 ?_
      refine g_iconst (v := 1) dX1_layOut_62 (by decide) ?_
      refine g_iadd dX1_layOut_63 ?_
      refine g_putI dX1_layOut_64 fl1_88 (fun h => by cases h) sh515 ?_
      refine g_iload_n 2 dX1_layOut_67 rfl rfl ?_
      refine g_iconst (v := 3) dX1_layOut_68 (by decide) ?_
      refine g_imul dX1_layOut_69 ?_
      refine g_istore_n (ls2 := [(3, .int (x3 * (3 : Int32))), (0, .ref 515), (2, .int x2), (4, .int x4)]) dX1_layOut_70 rfl (by decide) rfl ?_
      refine g_iinc (v := x4 + (1 : Int32)) (ls2 := [(4, .int (x4 + (1 : Int32))), (3, .int (x3 * (3 : Int32))), (0, .ref 515), (2, .int x2)]) 3 dX1_layOut_71 rfl rfl (by decide) rfl ?_
      refine g_goto 19 dX1_layOut_74 (by decide) ?_
      exact g_ls [2, 3, 1, 0] rfl (h4 q1 q2)
theorem bX1_play_0 {X : pX} {Q : Option Value → pMem → Prop} {m : pMem} {x1 : Int32} {x2 : Int32} (hW : Wf m)
    (h1 : Cl X 2 mX1_setWorth [.ref 515, .int (0 : Int32), .int x1] m (fun v m2 => Go X 3 mX1_play Q 6 [(0, .ref 515), (1, .int x1), (2, .int x2)] (v.toList ++ []) m2)) :
    Go X 3 mX1_play Q 0 [(0, .ref 515), (1, .int x1), (2, .int x2)] [] m := by
  refine g_aload_n 0 dX1_play_0 rfl rfl ?_
  refine g_iconst (v := 0) dX1_play_1 (by decide) ?_
  refine g_iload_n 1 dX1_play_2 rfl rfl ?_
  exact g_callV (As := [.int (0 : Int32), .int x1]) (st := []) dX1_play_3 clX1_37 sh515 rfl rfl (Nat.le_of_ble_eq_true rfl) (rmSH (by decide) (by decide)) h1
theorem bX1_play_6 {X : pX} {Q : Option Value → pMem → Prop} {m : pMem} {x1 : Int32} {x2 : Int32} (hW : Wf m)
    (h1 : Cl X 2 mX1_setWorth [.ref 515, .int (1 : Int32), .int x2] m (fun v m2 => Go X 3 mX1_play Q 12 [(0, .ref 515), (1, .int x1), (2, .int x2)] (v.toList ++ []) m2)) :
    Go X 3 mX1_play Q 6 [(0, .ref 515), (1, .int x1), (2, .int x2)] [] m := by
  refine g_aload_n 0 dX1_play_6 rfl rfl ?_
  refine g_iconst (v := 1) dX1_play_7 (by decide) ?_
  refine g_iload_n 2 dX1_play_8 rfl rfl ?_
  exact g_callV (As := [.int (1 : Int32), .int x2]) (st := []) dX1_play_9 clX1_37 sh515 rfl rfl (Nat.le_of_ble_eq_true rfl) (rmSH (by decide) (by decide)) h1
theorem bX1_play_12 {X : pX} {Q : Option Value → pMem → Prop} {m : pMem} {x1 : Int32} {x2 : Int32} (hW : Wf m)
    (h1 : Cl X 2 mX1_layOut [.ref 515, .int x1] m (fun v m2 => Go X 3 mX1_play Q 17 [(0, .ref 515), (1, .int x1), (2, .int x2)] (v.toList ++ []) m2)) :
    Go X 3 mX1_play Q 12 [(0, .ref 515), (1, .int x1), (2, .int x2)] [] m := by
  refine g_aload_n 0 dX1_play_12 rfl rfl ?_
  refine g_iload_n 1 dX1_play_13 rfl rfl ?_
  exact g_callV (As := [.int x1]) (st := []) dX1_play_14 clX1_41 sh515 rfl rfl (Nat.le_of_ble_eq_true rfl) (rmSH (by decide) (by decide)) h1
theorem bX1_play_17 {X : pX} {Q : Option Value → pMem → Prop} {m : pMem} {x1 : Int32} {x2 : Int32} {xs0 : Int32} (hW : Wf m)
    (h1 : Go X 3 mX1_play Q 49 [(0, .ref 515), (4, .int (tAt (mI m 40) x1 6)), (5, .int (tAt (mI m 40) x2 6)), (6, .int ((if (729 : Int32) < xs0 then (729 : Int32) else xs0) - (1 : Int32)))] [] m) :
    Go X 3 mX1_play Q 17 [(0, .ref 515), (1, .int x1), (2, .int x2)] [.int xs0] m := by
  refine g_istore_n (ls2 := [(3, .int xs0), (0, .ref 515), (1, .int x1), (2, .int x2)]) dX1_play_17 rfl (by decide) rfl ?_
  refine g_aload_n 1 dX1_play_18 rfl rfl ?_
  refine g_getR dX1_play_19 fl1_33 rfl sh515 (w1_1 hW sh515) ?_
  refine g_iload_n 2 dX1_play_22 rfl rfl ?_
  refine g_callV (As := [.int x1]) (st := []) dX1_play_23 clX1_45 sh37 rfl rfl (Nat.le_of_ble_eq_true rfl) (rmSH (by decide) (by decide)) (s_hadBy hW sh37 ?_)
  show Go X 3 mX1_play Q 26 [(3, .int xs0), (0, .ref 515), (1, .int x1), (2, .int x2)] [.int (tAt (mI m 40) x1 6)] m
  refine g_istore (ls2 := [(4, .int (tAt (mI m 40) x1 6)), (3, .int xs0), (0, .ref 515), (1, .int x1), (2, .int x2)]) dX1_play_26 (by decide) rfl ?_
  refine g_aload_n 2 dX1_play_28 rfl rfl ?_
  refine g_getR dX1_play_29 fl1_33 rfl sh515 (w1_1 hW sh515) ?_
  refine g_iload_n 4 dX1_play_32 rfl rfl ?_
  refine g_callV (As := [.int x2]) (st := []) dX1_play_33 clX1_45 sh37 rfl rfl (Nat.le_of_ble_eq_true rfl) (rmSH (by decide) (by decide)) (s_hadBy hW sh37 ?_)
  show Go X 3 mX1_play Q 36 [(4, .int (tAt (mI m 40) x1 6)), (3, .int xs0), (0, .ref 515), (1, .int x1), (2, .int x2)] [.int (tAt (mI m 40) x2 6)] m
  refine g_istore (ls2 := [(5, .int (tAt (mI m 40) x2 6)), (4, .int (tAt (mI m 40) x1 6)), (3, .int xs0), (0, .ref 515), (1, .int x1), (2, .int x2)]) dX1_play_36 (by decide) rfl ?_
  refine g_iload_n 2 dX1_play_38 rfl rfl ?_
  refine g_sipush (v := 729) dX1_play_39 (by decide) ?_
  refine g_mmin dX1_play_42 mmwX1_50 (Nat.le_of_ble_eq_true rfl) ⟨by decide, by decide⟩ ⟨Nat.le_refl _, Nat.le_refl _⟩ ?_
  refine g_iconst (v := 1) dX1_play_45 (by decide) ?_
  refine g_isub dX1_play_46 ?_
  refine g_istore (ls2 := [(6, .int ((if (729 : Int32) < xs0 then (729 : Int32) else xs0) - (1 : Int32))), (5, .int (tAt (mI m 40) x2 6)), (4, .int (tAt (mI m 40) x1 6)), (3, .int xs0), (0, .ref 515), (1, .int x1), (2, .int x2)]) dX1_play_47 (by decide) rfl ?_
  exact g_ls [4, 2, 1, 0] rfl h1
theorem bX1_play_49 {X : pX} {Q : Option Value → pMem → Prop} {m : pMem} {x4 : Int32} {x5 : Int32} {x6 : Int32} (hW : Wf m)
    (h1 : x6 < 0 → Q none (uI m 515 8 (mI m 516 0)))
    (h2 : ¬ (x6 < 0) → Cl X 1 mX1_takenBy [.ref 515, .int x6, .int (1 : Int32)] m (fun v m2 => Go X 3 mX1_play Q 68 [(0, .ref 515), (4, .int x4), (5, .int x5), (6, .int x6)] (v.toList ++ [.int x4, .int (0 : Int32), .ref 522]) m2)) :
    Go X 3 mX1_play Q 49 [(0, .ref 515), (4, .int x4), (5, .int x5), (6, .int x6)] [] m := by
  refine g_iload 3 dX1_play_49 rfl ?_
  refine g_if_lt 201 dX1_play_51 (by decide) (fun q1 => ?_) (fun q1 => ?_)
  · refine g_aload_n 0 dX1_play_201 rfl rfl ?_
    refine g_aload_n 0 dX1_play_202 rfl rfl ?_
    refine g_getR dX1_play_203 fl1_11 rfl sh515 (w1_2 hW sh515) ?_
    refine g_iconst (v := 0) dX1_play_206 (by decide) ?_
    refine g_iald (j := 0) dX1_play_207 (s1_2 sh515) (by unfold vp_in; decide) (by decide) ?_
    refine g_putI dX1_play_208 fl1_66 (fun h => by cases h) sh515 ?_
    exact g_vret dX1_play_211 rfl enSH (h1 q1)
  · refine g_aload_n 0 dX1_play_54 rfl rfl ?_
    refine g_getR dX1_play_55 fl1_26 rfl sh515 (w1_7 hW sh515) ?_
    refine g_iconst (v := 0) dX1_play_58 (by decide) ?_
    refine g_iload 1 dX1_play_59 rfl ?_
    refine g_aload_n 0 dX1_play_61 rfl rfl ?_
    refine g_iload 3 dX1_play_62 rfl ?_
    refine g_iconst (v := 1) dX1_play_64 (by decide) ?_
    exact g_callV (As := [.int x6, .int (1 : Int32)]) (st := [.int x4, .int (0 : Int32), .ref 522]) dX1_play_65 clX1_56 sh515 rfl rfl (Nat.le_of_ble_eq_true rfl) (rmSH (by decide) (by decide)) (h2 q1)
theorem bX1_play_68 {X : pX} {Q : Option Value → pMem → Prop} {m : pMem} {x4 : Int32} {x5 : Int32} {x6 : Int32} {xs0 : Int32} {xs1 : Int32} {as3 : Nat} (hW : Wf m) (cs3 : SH[as3]? = some (.inr (.int, 2)))
    (h1 : Cl X 1 mX1_takenBy [.ref 515, .int x6, .int (2 : Int32)] (uI m as3 0 (xs1 ||| xs0)) (fun v m2 => Go X 3 mX1_play Q 84 [(0, .ref 515), (4, .int x4), (5, .int x5), (6, .int x6)] (v.toList ++ [.int x5, .int (1 : Int32), .ref 522]) m2)) :
    Go X 3 mX1_play Q 68 [(0, .ref 515), (4, .int x4), (5, .int x5), (6, .int x6)] [.int xs0, .int xs1, .int (0 : Int32), .ref as3] m := by
  refine g_ior dX1_play_68 ?_
  refine g_iast (j := 0) dX1_play_69 cs3 (by unfold vp_in; decide) (by decide) ?_
  refine g_aload_n 0 dX1_play_70 rfl rfl ?_
  refine g_getR dX1_play_71 fl1_26 rfl sh515 (w1_7 hW sh515) ?_
  refine g_iconst (v := 1) dX1_play_74 (by decide) ?_
  refine g_iload 2 dX1_play_75 rfl ?_
  refine g_aload_n 0 dX1_play_77 rfl rfl ?_
  refine g_iload 3 dX1_play_78 rfl ?_
  refine g_iconst (v := 2) dX1_play_80 (by decide) ?_
  exact g_callV (As := [.int x6, .int (2 : Int32)]) (st := [.int x5, .int (1 : Int32), .ref 522]) dX1_play_81 clX1_56 sh515 rfl rfl (Nat.le_of_ble_eq_true rfl) (rmSH (by decide) (by decide)) h1
theorem bX1_play_84 {X : pX} {Q : Option Value → pMem → Prop} {m : pMem} {x4 : Int32} {x5 : Int32} {x6 : Int32} {xs0 : Int32} {xs1 : Int32} {as3 : Nat} (hW : Wf m) (cs3 : SH[as3]? = some (.inr (.int, 2)))
    (h1 : Cl X 0 mX1_worthOfSet [.ref 515, .int (0 : Int32)] (uI m as3 1 (xs1 ||| xs0)) (fun v m2 => Go X 3 mX1_play Q 91 [(0, .ref 515), (4, .int x4), (5, .int x5), (6, .int x6)] (v.toList ++ []) m2)) :
    Go X 3 mX1_play Q 84 [(0, .ref 515), (4, .int x4), (5, .int x5), (6, .int x6)] [.int xs0, .int xs1, .int (1 : Int32), .ref as3] m := by
  refine g_ior dX1_play_84 ?_
  refine g_iast (j := 1) dX1_play_85 cs3 (by unfold vp_in; decide) (by decide) ?_
  refine g_aload_n 0 dX1_play_86 rfl rfl ?_
  refine g_iconst (v := 0) dX1_play_87 (by decide) ?_
  exact g_callV (As := [.int (0 : Int32)]) (st := []) dX1_play_88 clX1_59 sh515 rfl rfl (Nat.le_of_ble_eq_true rfl) (rmSH (by decide) (by decide)) h1
theorem bX1_play_91 {X : pX} {Q : Option Value → pMem → Prop} {m : pMem} {x4 : Int32} {x5 : Int32} {x6 : Int32} {xs0 : Int32} (hW : Wf m)
    (h1 : Cl X 0 mX1_worthOfSet [.ref 515, .int (1 : Int32)] m (fun v m2 => Go X 3 mX1_play Q 96 [(0, .ref 515), (4, .int x4), (5, .int x5), (6, .int x6)] (v.toList ++ [.int xs0]) m2)) :
    Go X 3 mX1_play Q 91 [(0, .ref 515), (4, .int x4), (5, .int x5), (6, .int x6)] [.int xs0] m := by
  refine g_aload_n 0 dX1_play_91 rfl rfl ?_
  refine g_iconst (v := 1) dX1_play_92 (by decide) ?_
  exact g_callV (As := [.int (1 : Int32)]) (st := [.int xs0]) dX1_play_93 clX1_59 sh515 rfl rfl (Nat.le_of_ble_eq_true rfl) (rmSH (by decide) (by decide)) h1
theorem bX1_play_96 {X : pX} {Q : Option Value → pMem → Prop} {m : pMem} {x4 : Int32} {x5 : Int32} {x6 : Int32} {xs0 : Int32} {xs1 : Int32} (hW : Wf m)
    (h1 : Cl X 1 mX1_best [.ref 515, .int x6, .int (0 : Int32), .int (xs1 - xs0)] m (fun v m2 => Go X 3 mX1_play Q 118 [(0, .ref 515), (4, .int x4), (5, .int x5), (6, .int x6), (7, .int (xs1 - xs0))] (v.toList ++ [.int ((x6 * (4 : Int32)) + (1 : Int32)), .ref 516]) m2)) :
    Go X 3 mX1_play Q 96 [(0, .ref 515), (4, .int x4), (5, .int x5), (6, .int x6)] [.int xs0, .int xs1] m := by
  refine g_isub dX1_play_96 ?_
  refine g_istore (ls2 := [(7, .int (xs1 - xs0)), (0, .ref 515), (4, .int x4), (5, .int x5), (6, .int x6)]) dX1_play_97 (by decide) rfl ?_
  refine g_aload_n 1 dX1_play_99 rfl rfl ?_
  refine g_getR dX1_play_100 fl1_11 rfl sh515 (w1_2 hW sh515) ?_
  refine g_iload 4 dX1_play_103 rfl ?_
  refine g_iconst (v := 4) dX1_play_105 (by decide) ?_
  refine g_imul dX1_play_106 ?_
  refine g_iconst (v := 1) dX1_play_107 (by decide) ?_
  refine g_iadd dX1_play_108 ?_
  refine g_aload_n 1 dX1_play_109 rfl rfl ?_
  refine g_iload 4 dX1_play_110 rfl ?_
  refine g_iconst (v := 0) dX1_play_112 (by decide) ?_
  refine g_iload 0 dX1_play_113 rfl ?_
  refine g_ls [1, 2, 3, 4, 0] (ls2 := [(0, .ref 515), (4, .int x4), (5, .int x5), (6, .int x6), (7, .int (xs1 - xs0))]) rfl ?_
  exact g_callV (As := [.int x6, .int (0 : Int32), .int (xs1 - xs0)]) (st := [.int ((x6 * (4 : Int32)) + (1 : Int32)), .ref 516]) dX1_play_115 clX1_62 sh515 rfl rfl (Nat.le_of_ble_eq_true rfl) (rmSH (by decide) (by decide)) h1
theorem bX1_play_118 {X : pX} {Q : Option Value → pMem → Prop} {m : pMem} {x4 : Int32} {x5 : Int32} {x6 : Int32} {x7 : Int32} {xs0 : Int32} {xs1 : Int32} {as2 : Nat} (hW : Wf m) (cs2 : SH[as2]? = some (.inr (.int, 2916)))
    (h1 : vp_in xs1 2916)
    (h2 : Cl X 1 mX1_best [.ref 515, .int x6, .int (1 : Int32), .int x7] (uI m as2 xs1.toNatClampNeg xs0) (fun v m2 => Go X 3 mX1_play Q 138 [(0, .ref 515), (4, .int x4), (5, .int x5), (6, .int x6), (7, .int x7)] (v.toList ++ [.int ((x6 * (4 : Int32)) + (3 : Int32)), .ref 516]) m2)) :
    Go X 3 mX1_play Q 118 [(0, .ref 515), (4, .int x4), (5, .int x5), (6, .int x6), (7, .int x7)] [.int xs0, .int xs1, .ref as2] m := by
  refine g_iast (j := xs1.toNatClampNeg) dX1_play_118 cs2 h1 rfl ?_
  refine g_aload_n 0 dX1_play_119 rfl rfl ?_
  refine g_getR dX1_play_120 fl1_11 rfl sh515 (w1_2 hW sh515) ?_
  refine g_iload 3 dX1_play_123 rfl ?_
  refine g_iconst (v := 4) dX1_play_125 (by decide) ?_
  refine g_imul dX1_play_126 ?_
  refine g_iconst (v := 3) dX1_play_127 (by decide) ?_
  refine g_iadd dX1_play_128 ?_
  refine g_aload_n 0 dX1_play_129 rfl rfl ?_
  refine g_iload 3 dX1_play_130 rfl ?_
  refine g_iconst (v := 1) dX1_play_132 (by decide) ?_
  refine g_iload 4 dX1_play_133 rfl ?_
  exact g_callV (As := [.int x6, .int (1 : Int32), .int x7]) (st := [.int ((x6 * (4 : Int32)) + (3 : Int32)), .ref 516]) dX1_play_135 clX1_62 sh515 rfl rfl (Nat.le_of_ble_eq_true rfl) (rmSH (by decide) (by decide)) h2
theorem bX1_play_138 {X : pX} {Q : Option Value → pMem → Prop} {m : pMem} {x4 : Int32} {x5 : Int32} {x6 : Int32} {x7 : Int32} {xs0 : Int32} {xs1 : Int32} {as2 : Nat} (hW : Wf m) (cs2 : SH[as2]? = some (.inr (.int, 2916)))
    (h1 : vp_in xs1 2916)
    (h2 : vp_in ((x6 * (4 : Int32)) + (1 : Int32)) 2916)
    (h3 : Cl X 1 mX1_best [.ref 515, .int x6, .int (1 : Int32), .int (mI (uI m as2 xs1.toNatClampNeg xs0) 516 (((x6 * (4 : Int32)) + (1 : Int32)).toNatClampNeg))] (uI m as2 xs1.toNatClampNeg xs0) (fun v m2 => Go X 3 mX1_play Q 167 [(0, .ref 515), (4, .int x4), (5, .int x5), (6, .int x6), (7, .int x7)] (v.toList ++ [.int ((x6 * (4 : Int32)) + (2 : Int32)), .ref 516]) m2)) :
    Go X 3 mX1_play Q 138 [(0, .ref 515), (4, .int x4), (5, .int x5), (6, .int x6), (7, .int x7)] [.int xs0, .int xs1, .ref as2] m := by
  refine g_iast (j := xs1.toNatClampNeg) dX1_play_138 cs2 h1 rfl ?_
  refine g_aload_n 0 dX1_play_139 rfl rfl ?_
  refine g_getR dX1_play_140 fl1_11 rfl sh515 (w1_2 hW sh515) ?_
  refine g_iload 3 dX1_play_143 rfl ?_
  refine g_iconst (v := 4) dX1_play_145 (by decide) ?_
  refine g_imul dX1_play_146 ?_
  refine g_iconst (v := 2) dX1_play_147 (by decide) ?_
  refine g_iadd dX1_play_148 ?_
  refine g_aload_n 0 dX1_play_149 rfl rfl ?_
  refine g_iload 3 dX1_play_150 rfl ?_
  refine g_iconst (v := 1) dX1_play_152 (by decide) ?_
  refine g_aload_n 0 dX1_play_153 rfl rfl ?_
  refine g_getR dX1_play_154 fl1_11 rfl sh515 (w1_2 hW sh515) ?_
  refine g_iload 3 dX1_play_157 rfl ?_
  refine g_iconst (v := 4) dX1_play_159 (by decide) ?_
  refine g_imul dX1_play_160 ?_
  refine g_iconst (v := 1) dX1_play_161 (by decide) ?_
  refine g_iadd dX1_play_162 ?_
  refine g_iald (j := ((x6 * (4 : Int32)) + (1 : Int32)).toNatClampNeg) dX1_play_163 (s1_2 sh515) h2 rfl ?_
  exact g_callV (As := [.int x6, .int (1 : Int32), .int (mI (uI m as2 xs1.toNatClampNeg xs0) 516 (((x6 * (4 : Int32)) + (1 : Int32)).toNatClampNeg))]) (st := [.int ((x6 * (4 : Int32)) + (2 : Int32)), .ref 516]) dX1_play_164 clX1_62 sh515 rfl rfl (Nat.le_of_ble_eq_true rfl) (rmSH (by decide) (by decide)) h3
theorem bX1_play_167 {X : pX} {Q : Option Value → pMem → Prop} {m : pMem} {x4 : Int32} {x5 : Int32} {x6 : Int32} {x7 : Int32} {xs0 : Int32} {xs1 : Int32} {as2 : Nat} (hW : Wf m) (cs2 : SH[as2]? = some (.inr (.int, 2916)))
    (h1 : vp_in xs1 2916)
    (h2 : vp_in ((x6 * (4 : Int32)) + (3 : Int32)) 2916)
    (h3 : Cl X 1 mX1_best [.ref 515, .int x6, .int (0 : Int32), .int (mI (uI m as2 xs1.toNatClampNeg xs0) 516 (((x6 * (4 : Int32)) + (3 : Int32)).toNatClampNeg))] (uI m as2 xs1.toNatClampNeg xs0) (fun v m2 => Go X 3 mX1_play Q 194 [(0, .ref 515), (4, .int x4), (5, .int x5), (6, .int x6), (7, .int x7)] (v.toList ++ [.int (x6 * (4 : Int32)), .ref 516]) m2)) :
    Go X 3 mX1_play Q 167 [(0, .ref 515), (4, .int x4), (5, .int x5), (6, .int x6), (7, .int x7)] [.int xs0, .int xs1, .ref as2] m := by
  refine g_iast (j := xs1.toNatClampNeg) dX1_play_167 cs2 h1 rfl ?_
  refine g_aload_n 0 dX1_play_168 rfl rfl ?_
  refine g_getR dX1_play_169 fl1_11 rfl sh515 (w1_2 hW sh515) ?_
  refine g_iload 3 dX1_play_172 rfl ?_
  refine g_iconst (v := 4) dX1_play_174 (by decide) ?_
  refine g_imul dX1_play_175 ?_
  refine g_aload_n 0 dX1_play_176 rfl rfl ?_
  refine g_iload 3 dX1_play_177 rfl ?_
  refine g_iconst (v := 0) dX1_play_179 (by decide) ?_
  refine g_aload_n 0 dX1_play_180 rfl rfl ?_
  refine g_getR dX1_play_181 fl1_11 rfl sh515 (w1_2 hW sh515) ?_
  refine g_iload 3 dX1_play_184 rfl ?_
  refine g_iconst (v := 4) dX1_play_186 (by decide) ?_
  refine g_imul dX1_play_187 ?_
  refine g_iconst (v := 3) dX1_play_188 (by decide) ?_
  refine g_iadd dX1_play_189 ?_
  refine g_iald (j := ((x6 * (4 : Int32)) + (3 : Int32)).toNatClampNeg) dX1_play_190 (s1_2 sh515) h2 rfl ?_
  exact g_callV (As := [.int x6, .int (0 : Int32), .int (mI (uI m as2 xs1.toNatClampNeg xs0) 516 (((x6 * (4 : Int32)) + (3 : Int32)).toNatClampNeg))]) (st := [.int (x6 * (4 : Int32)), .ref 516]) dX1_play_191 clX1_62 sh515 rfl rfl (Nat.le_of_ble_eq_true rfl) (rmSH (by decide) (by decide)) h3
theorem bX1_play_194 {X : pX} {Q : Option Value → pMem → Prop} {m : pMem} {x4 : Int32} {x5 : Int32} {x6 : Int32} {x7 : Int32} {xs0 : Int32} {xs1 : Int32} {as2 : Nat} (hW : Wf m) (cs2 : SH[as2]? = some (.inr (.int, 2916)))
    (h1 : vp_in xs1 2916)
    (h2 : Go X 3 mX1_play Q 49 [(0, .ref 515), (4, .int x4), (5, .int x5), (6, .int (x6 + (-1 : Int32)))] [] (uI m as2 xs1.toNatClampNeg xs0)) :
    Go X 3 mX1_play Q 194 [(0, .ref 515), (4, .int x4), (5, .int x5), (6, .int x6), (7, .int x7)] [.int xs0, .int xs1, .ref as2] m := by
  refine g_iast (j := xs1.toNatClampNeg) dX1_play_194 cs2 h1 rfl ?_
  refine g_iinc (v := x6 + (-1 : Int32)) (ls2 := [(6, .int (x6 + (-1 : Int32))), (0, .ref 515), (4, .int x4), (5, .int x5), (7, .int x7)]) 3 dX1_play_195 rfl rfl (by decide) rfl ?_
  refine g_goto 49 dX1_play_198 (by decide) ?_
  exact g_ls [1, 2, 3, 0] rfl h2
theorem bX11_game_0 {X : pX} {Q : Option Value → pMem → Prop} {m : pMem} {x1 : Int32} {x2 : Int32} {x3 : Int32} (hW : Wf m)
    (h1 : ¬ x1 = x2 ∧ ((¬ x1 < 0 ∧ ¬ mI m 31 3 ≤ x1 ∧ ¬ (4 : Int32) ≤ x1) ∧ mI m 39 x1.toNatClampNeg = 0) ∧ ((¬ x2 < 0 ∧ ¬ mI m 31 3 ≤ x2 ∧ ¬ (4 : Int32) ≤ x2) ∧ mI m 39 x2.toNatClampNeg = 0) ∧ mI m 38 x1.toNatClampNeg = mI m 38 x2.toNatClampNeg → x3 < 0 → Q (some (.int (-10000 : Int32))) m)
    (h2 : ¬ x1 = x2 ∧ ((¬ x1 < 0 ∧ ¬ mI m 31 3 ≤ x1 ∧ ¬ (4 : Int32) ≤ x1) ∧ mI m 39 x1.toNatClampNeg = 0) ∧ ((¬ x2 < 0 ∧ ¬ mI m 31 3 ≤ x2 ∧ ¬ (4 : Int32) ≤ x2) ∧ mI m 39 x2.toNatClampNeg = 0) ∧ mI m 38 x1.toNatClampNeg = mI m 38 x2.toNatClampNeg → ¬ (x3 < 0) → x3 ≤ (1 : Int32) → Cl X 3 mX1_play [.ref 515, .int x1, .int x2] m (fun v m2 => Go X 4 mX11_game Q 31 [(0, .ref 0), (1, .int x1), (2, .int x2), (3, .int x3)] (v.toList ++ []) m2))
    (h3 : ¬ x1 = x2 ∧ ((¬ x1 < 0 ∧ ¬ mI m 31 3 ≤ x1 ∧ ¬ (4 : Int32) ≤ x1) ∧ mI m 39 x1.toNatClampNeg = 0) ∧ ((¬ x2 < 0 ∧ ¬ mI m 31 3 ≤ x2 ∧ ¬ (4 : Int32) ≤ x2) ∧ mI m 39 x2.toNatClampNeg = 0) ∧ mI m 38 x1.toNatClampNeg = mI m 38 x2.toNatClampNeg → ¬ (x3 < 0) → ¬ (x3 ≤ (1 : Int32)) → Q (some (.int (-10000 : Int32))) m)
    (h4 : ¬ (¬ x1 = x2 ∧ ((¬ x1 < 0 ∧ ¬ mI m 31 3 ≤ x1 ∧ ¬ (4 : Int32) ≤ x1) ∧ mI m 39 x1.toNatClampNeg = 0) ∧ ((¬ x2 < 0 ∧ ¬ mI m 31 3 ≤ x2 ∧ ¬ (4 : Int32) ≤ x2) ∧ mI m 39 x2.toNatClampNeg = 0) ∧ mI m 38 x1.toNatClampNeg = mI m 38 x2.toNatClampNeg) → Q (some (.int (-10000 : Int32))) m) :
    Go X 4 mX11_game Q 0 [(0, .ref 0), (1, .int x1), (2, .int x2), (3, .int x3)] [] m := by
  refine g_aload_n 0 dX11_game_0 rfl rfl ?_
  refine g_iload_n 1 dX11_game_1 rfl rfl ?_
  refine g_iload_n 2 dX11_game_2 rfl rfl ?_
  refine g_callV (As := [.int x1, .int x2]) (st := []) dX11_game_3 clX11_242 sh0 rfl rfl (Nat.le_of_ble_eq_true rfl) (rmSH (by decide) (by decide)) (s_cTog hW (fun q1 => ?_) (fun q1 => ?_))
  · refine g_if_eq 18 dX11_game_6 (by decide) (fun q2 => absurd q2 (by decide)) (fun q2 => ?_)
    refine g_iload_n 3 dX11_game_9 rfl rfl ?_
    refine g_if_lt 18 dX11_game_10 (by decide) (fun q3 => ?_) (fun q3 => ?_)
    · refine g_sipush (v := -10000) dX11_game_18 (by decide) ?_
      exact g_iret dX11_game_21 rfl enSH (h1 q1 q3)
    · refine g_iload_n 3 dX11_game_13 rfl rfl ?_
      refine g_iconst (v := 1) dX11_game_14 (by decide) ?_
      refine g_icmp_le 22 dX11_game_15 (by decide) (fun q4 => ?_) (fun q4 => ?_)
      · refine g_aload_n 0 dX11_game_22 rfl rfl ?_
        refine g_getR dX11_game_23 fl11_83 rfl sh0 (w11_10 hW sh0) ?_
        refine g_iload_n 1 dX11_game_26 rfl rfl ?_
        refine g_iload_n 2 dX11_game_27 rfl rfl ?_
        exact g_callV (As := [.int x1, .int x2]) (st := []) dX11_game_28 clX11_283 sh515 rfl rfl (Nat.le_of_ble_eq_true rfl) (rmSH (by decide) (by decide)) (h2 q1 q3 q4)
      · refine g_sipush (v := -10000) dX11_game_18 (by decide) ?_
        exact g_iret dX11_game_21 rfl enSH (h3 q1 q3 q4)
  · refine g_if_eq 18 dX11_game_6 (by decide) (fun q5 => ?_) (fun q5 => absurd q5 (by decide))
    refine g_sipush (v := -10000) dX11_game_18 (by decide) ?_
    exact g_iret dX11_game_21 rfl enSH (h4 q1)
theorem bX11_game_31 {X : pX} {Q : Option Value → pMem → Prop} {m : pMem} {x1 : Int32} {x2 : Int32} {x3 : Int32} (hW : Wf m)
    (h1 : ¬ x3 = 0 → Q (some (.int (mI m 515 9))) m)
    (h2 : x3 = 0 → Q (some (.int (mI m 515 8))) m) :
    Go X 4 mX11_game Q 31 [(0, .ref 0), (1, .int x1), (2, .int x2), (3, .int x3)] [] m := by
  refine g_iload_n 3 dX11_game_31 rfl rfl ?_
  refine g_if_ne 45 dX11_game_32 (by decide) (fun q1 => ?_) (fun q1 => ?_)
  · refine g_aload_n 0 dX11_game_45 rfl rfl ?_
    refine g_getR dX11_game_46 fl11_83 rfl sh0 (w11_10 hW sh0) ?_
    refine g_getI dX11_game_49 fl11_290 sh515 ?_
    exact g_iret dX11_game_52 rfl enSH (h1 q1)
  · refine g_aload_n 0 dX11_game_35 rfl rfl ?_
    refine g_getR dX11_game_36 fl11_83 rfl sh0 (w11_10 hW sh0) ?_
    refine g_getI dX11_game_39 fl11_287 sh515 ?_
    refine g_goto 52 dX11_game_42 (by decide) ?_
    exact g_iret dX11_game_52 rfl enSH (h2 q1)
theorem bX12_takenBy_0 {X : pX} {Q : Option Value → pMem → Prop} {m : pMem} {x1 : Int32} {x2 : Int32} (hW : Wf m)
    (h1 : ¬ x2 = (1 : Int32) → vp_in (mI m 536 4) 7)
    (h2 : ¬ x2 = (1 : Int32) → Go X 1 mX12_takenBy Q 24 [(0, .ref 535), (1, .int x1), (2, .int x2), (3, .int (tAt (mI m 539) (mI m 535 47) (mI m 536 4).toNatClampNeg)), (4, .int (0 : Int32))] [] m)
    (h3 : x2 = (1 : Int32) → vp_in (mI m 536 4) 7)
    (h4 : x2 = (1 : Int32) → Go X 1 mX12_takenBy Q 24 [(0, .ref 535), (1, .int x1), (2, .int x2), (3, .int (tAt (mI m 539) (mI m 535 46) (mI m 536 4).toNatClampNeg)), (4, .int (0 : Int32))] [] m) :
    Go X 1 mX12_takenBy Q 0 [(0, .ref 535), (1, .int x1), (2, .int x2)] [] m := by
  refine g_aload_n 0 dX12_takenBy_0 rfl rfl ?_
  refine g_iload_n 2 dX12_takenBy_1 rfl rfl ?_
  refine g_iconst (v := 1) dX12_takenBy_2 (by decide) ?_
  refine g_icmp_ne 13 dX12_takenBy_3 (by decide) (fun q1 => ?_) (fun q1 => ?_)
  · refine g_aload_n 0 dX12_takenBy_13 rfl rfl ?_
    refine g_getI dX12_takenBy_14 fl12_436 sh535 ?_
    refine g_callV (As := [.int (mI m 535 47)]) (st := []) dX12_takenBy_17 clX12_338 sh535 rfl rfl (Nat.le_of_ble_eq_true rfl) (rmSH (by decide) (by decide)) (s_mThings hW (h1 q1) ?_)
    show Go X 1 mX12_takenBy Q 20 [(0, .ref 535), (1, .int x1), (2, .int x2)] [.int (tAt (mI m 539) (mI m 535 47) (mI m 536 4).toNatClampNeg)] m
    refine g_istore_n (ls2 := [(3, .int (tAt (mI m 539) (mI m 535 47) (mI m 536 4).toNatClampNeg)), (0, .ref 535), (1, .int x1), (2, .int x2)]) dX12_takenBy_20 rfl (by decide) rfl ?_
    refine g_iconst (v := 0) dX12_takenBy_21 (by decide) ?_
    refine g_istore (ls2 := [(4, .int (0 : Int32)), (3, .int (tAt (mI m 539) (mI m 535 47) (mI m 536 4).toNatClampNeg)), (0, .ref 535), (1, .int x1), (2, .int x2)]) dX12_takenBy_22 (by decide) rfl ?_
    exact g_ls [2, 3, 4, 1, 0] rfl (h2 q1)
  · refine g_aload_n 0 dX12_takenBy_6 rfl rfl ?_
    refine g_getI dX12_takenBy_7 fl12_433 sh535 ?_
    refine g_goto 17 dX12_takenBy_10 (by decide) ?_
    refine g_callV (As := [.int (mI m 535 46)]) (st := []) dX12_takenBy_17 clX12_338 sh535 rfl rfl (Nat.le_of_ble_eq_true rfl) (rmSH (by decide) (by decide)) (s_mThings hW (h3 q1) ?_)
    show Go X 1 mX12_takenBy Q 20 [(0, .ref 535), (1, .int x1), (2, .int x2)] [.int (tAt (mI m 539) (mI m 535 46) (mI m 536 4).toNatClampNeg)] m
    refine g_istore_n (ls2 := [(3, .int (tAt (mI m 539) (mI m 535 46) (mI m 536 4).toNatClampNeg)), (0, .ref 535), (1, .int x1), (2, .int x2)]) dX12_takenBy_20 rfl (by decide) rfl ?_
    refine g_iconst (v := 0) dX12_takenBy_21 (by decide) ?_
    refine g_istore (ls2 := [(4, .int (0 : Int32)), (3, .int (tAt (mI m 539) (mI m 535 46) (mI m 536 4).toNatClampNeg)), (0, .ref 535), (1, .int x1), (2, .int x2)]) dX12_takenBy_22 (by decide) rfl ?_
    exact g_ls [2, 3, 4, 1, 0] rfl (h4 q1)
theorem bX12_takenBy_24 {X : pX} {Q : Option Value → pMem → Prop} {m : pMem} {x1 : Int32} {x2 : Int32} {x3 : Int32} {x4 : Int32} (hW : Wf m)
    (h1 : (mI m 536 4) ≤ x4 → Q (some (.int x3)) m)
    (h2 : ¬ ((mI m 536 4) ≤ x4) → vp_in x4 6)
    (h3 : ¬ ((mI m 536 4) ≤ x4) → ¬ (mI m 567 x4.toNatClampNeg) = 0)
    (h4 : ¬ ((mI m 536 4) ≤ x4) → ¬ ((x1 / (mI m 567 x4.toNatClampNeg)) - (x1 / (mI m 567 x4.toNatClampNeg)) / (3 : Int32) * (3 : Int32)) = x2 → Go X 1 mX12_takenBy Q 24 [(0, .ref 535), (1, .int x1), (2, .int x2), (3, .int (x3 ||| (0 : Int32))), (4, .int (x4 + (1 : Int32)))] [] m)
    (h5 : ¬ ((mI m 536 4) ≤ x4) → ((x1 / (mI m 567 x4.toNatClampNeg)) - (x1 / (mI m 567 x4.toNatClampNeg)) / (3 : Int32) * (3 : Int32)) = x2 → Go X 1 mX12_takenBy Q 24 [(0, .ref 535), (1, .int x1), (2, .int x2), (3, .int (x3 ||| ((1 : Int32) <<< (x4 &&& 31)))), (4, .int (x4 + (1 : Int32)))] [] m) :
    Go X 1 mX12_takenBy Q 24 [(0, .ref 535), (1, .int x1), (2, .int x2), (3, .int x3), (4, .int x4)] [] m := by
  refine g_iload 4 dX12_takenBy_24 rfl ?_
  refine g_aload_n 0 dX12_takenBy_26 rfl rfl ?_
  refine g_getR dX12_takenBy_27 fl12_9 rfl sh535 (w12_1 hW sh535) ?_
  refine g_iconst (v := 4) dX12_takenBy_30 (by decide) ?_
  refine g_iald (j := 4) dX12_takenBy_31 (s12_1 sh535) (by unfold vp_in; decide) (by decide) ?_
  refine g_icmp_ge 67 dX12_takenBy_32 (by decide) (fun q1 => ?_) (fun q1 => ?_)
  · refine g_iload_n 3 dX12_takenBy_67 rfl rfl ?_
    exact g_iret dX12_takenBy_68 rfl enSH (h1 q1)
  · refine g_iload_n 3 dX12_takenBy_35 rfl rfl ?_
    refine g_iload_n 1 dX12_takenBy_36 rfl rfl ?_
    refine g_aload_n 0 dX12_takenBy_37 rfl rfl ?_
    refine g_getR dX12_takenBy_38 fl12_109 rfl sh535 (w12_45 hW sh535) ?_
    refine g_iload 4 dX12_takenBy_41 rfl ?_
    refine g_iald (j := x4.toNatClampNeg) dX12_takenBy_43 (s12_45 sh535) (h2 q1) rfl ?_
    refine g_idiv dX12_takenBy_44 (h3 q1) ?_
    refine g_iconst (v := 3) dX12_takenBy_45 (by decide) ?_
    refine g_irem dX12_takenBy_46 (by decide) ?_
    refine g_iload_n 2 dX12_takenBy_47 rfl rfl ?_
    refine g_icmp_ne 58 dX12_takenBy_48 (by decide) (fun q2 => ?_) (fun q2 => ?_)
    · refine g_iconst (v := 0) dX12_takenBy_58 (by decide) ?_
      refine g_ior dX12_takenBy_59 ?_
      refine g_istore_n (ls2 := [(3, .int (x3 ||| (0 : Int32))), (0, .ref 535), (1, .int x1), (2, .int x2), (4, .int x4)]) dX12_takenBy_60 rfl (by decide) rfl ?_
      refine g_iinc (v := x4 + (1 : Int32)) (ls2 := [(4, .int (x4 + (1 : Int32))), (3, .int (x3 ||| (0 : Int32))), (0, .ref 535), (1, .int x1), (2, .int x2)]) 4 dX12_takenBy_61 rfl rfl (by decide) rfl ?_
      refine g_goto 24 dX12_takenBy_64 (by decide) ?_
      exact g_ls [2, 3, 4, 1, 0] rfl (h4 q1 q2)
    · refine g_iconst (v := 1) dX12_takenBy_51 (by decide) ?_
      refine g_iload 4 dX12_takenBy_52 rfl ?_
      refine g_ishl dX12_takenBy_54 ?_
      refine g_goto 59 dX12_takenBy_55 (by decide) ?_
      refine g_ior dX12_takenBy_59 ?_
      refine g_istore_n (ls2 := [(3, .int (x3 ||| ((1 : Int32) <<< (x4 &&& 31)))), (0, .ref 535), (1, .int x1), (2, .int x2), (4, .int x4)]) dX12_takenBy_60 rfl (by decide) rfl ?_
      refine g_iinc (v := x4 + (1 : Int32)) (ls2 := [(4, .int (x4 + (1 : Int32))), (3, .int (x3 ||| ((1 : Int32) <<< (x4 &&& 31)))), (0, .ref 535), (1, .int x1), (2, .int x2)]) 4 dX12_takenBy_61 rfl rfl (by decide) rfl ?_
      refine g_goto 24 dX12_takenBy_64 (by decide) ?_
      exact g_ls [2, 3, 4, 1, 0] rfl (h5 q1 q2)
theorem bX12_worthIn_0 {X : pX} {Q : Option Value → pMem → Prop} {m : pMem} {x1 : Int32} {x2 : Int32} (hW : Wf m)
    (h1 : Cl X 1 mX12_takenBy [.ref 535, .int x1, .int x2] m (fun v m2 => Go X 3 mX12_worthIn Q 6 [(0, .ref 535), (1, .int x1), (2, .int x2)] (v.toList ++ []) m2)) :
    Go X 3 mX12_worthIn Q 0 [(0, .ref 535), (1, .int x1), (2, .int x2)] [] m := by
  refine g_aload_n 0 dX12_worthIn_0 rfl rfl ?_
  refine g_iload_n 1 dX12_worthIn_1 rfl rfl ?_
  refine g_iload_n 2 dX12_worthIn_2 rfl rfl ?_
  exact g_callV (As := [.int x1, .int x2]) (st := []) dX12_worthIn_3 clX12_439 sh535 rfl rfl (Nat.le_of_ble_eq_true rfl) (rmSH (by decide) (by decide)) h1
theorem bX12_worthIn_6 {X : pX} {Q : Option Value → pMem → Prop} {m : pMem} {x1 : Int32} {x2 : Int32} {xs0 : Int32} (hW : Wf m)
    (h1 : vp_in (mI m 536 4) 7)
    (h2 : ¬ x2 = (1 : Int32) → vp_in (mI m 536 4) 7)
    (h3 : ¬ x2 = (1 : Int32) → dyOkM (mI m 541) (mI m 535 47) (mI m 537 (mI m 535 47).toNatClampNeg) (mI m 536 2))
    (h4 : ¬ x2 = (1 : Int32) → Q (some (.int ((wSum (mI m 543) xs0 (mI m 536 4).toNatClampNeg) - (dyI (mI m 540) (mI m 541 (mI m 535 47).toNatClampNeg) (wSum (mI m 542) xs0 (mI m 536 4).toNatClampNeg) (mI m 537 (mI m 535 47).toNatClampNeg) (mI m 536 2))))) m)
    (h5 : x2 = (1 : Int32) → vp_in (mI m 536 4) 7)
    (h6 : x2 = (1 : Int32) → dyOkM (mI m 541) (mI m 535 46) (mI m 537 (mI m 535 46).toNatClampNeg) (mI m 536 2))
    (h7 : x2 = (1 : Int32) → Q (some (.int ((wSum (mI m 543) xs0 (mI m 536 4).toNatClampNeg) - (dyI (mI m 540) (mI m 541 (mI m 535 46).toNatClampNeg) (wSum (mI m 542) xs0 (mI m 536 4).toNatClampNeg) (mI m 537 (mI m 535 46).toNatClampNeg) (mI m 536 2))))) m) :
    Go X 3 mX12_worthIn Q 6 [(0, .ref 535), (1, .int x1), (2, .int x2)] [.int xs0] m := by
  refine g_istore_n (ls2 := [(3, .int xs0), (0, .ref 535), (1, .int x1), (2, .int x2)]) dX12_worthIn_6 rfl (by decide) rfl ?_
  refine g_aload_n 1 dX12_worthIn_7 rfl rfl ?_
  refine g_iload_n 0 dX12_worthIn_8 rfl rfl ?_
  refine g_callV (As := [.int xs0]) (st := []) dX12_worthIn_9 clX12_344 sh535 rfl rfl (Nat.le_of_ble_eq_true rfl) (rmSH (by decide) (by decide)) (s_mWorth hW h1 ?_)
  show Go X 3 mX12_worthIn Q 12 [(3, .int xs0), (0, .ref 535), (1, .int x1), (2, .int x2)] [.int (wSum (mI m 543) xs0 (mI m 536 4).toNatClampNeg)] m
  refine g_aload_n 1 dX12_worthIn_12 rfl rfl ?_
  refine g_iload_n 3 dX12_worthIn_13 rfl rfl ?_
  refine g_iconst (v := 1) dX12_worthIn_14 (by decide) ?_
  refine g_icmp_ne 25 dX12_worthIn_15 (by decide) (fun q1 => ?_) (fun q1 => ?_)
  · refine g_aload_n 1 dX12_worthIn_25 rfl rfl ?_
    refine g_getI dX12_worthIn_26 fl12_436 sh535 ?_
    refine g_iload_n 0 dX12_worthIn_29 rfl rfl ?_
    refine g_callV (As := [.int (mI m 535 47), .int xs0]) (st := [.int (wSum (mI m 543) xs0 (mI m 536 4).toNatClampNeg)]) dX12_worthIn_30 clX12_428 sh535 rfl rfl (Nat.le_of_ble_eq_true rfl) (rmSH (by decide) (by decide)) (s_home hW (h2 q1) (h3 q1) ?_)
    show Go X 3 mX12_worthIn Q 33 [(3, .int xs0), (0, .ref 535), (1, .int x1), (2, .int x2)] [.int (dyI (mI m 540) (mI m 541 (mI m 535 47).toNatClampNeg) (wSum (mI m 542) xs0 (mI m 536 4).toNatClampNeg) (mI m 537 (mI m 535 47).toNatClampNeg) (mI m 536 2)), .int (wSum (mI m 543) xs0 (mI m 536 4).toNatClampNeg)] m
    refine g_isub dX12_worthIn_33 ?_
    exact g_iret dX12_worthIn_34 rfl enSH (h4 q1)
  · refine g_aload_n 1 dX12_worthIn_18 rfl rfl ?_
    refine g_getI dX12_worthIn_19 fl12_433 sh535 ?_
    refine g_goto 29 dX12_worthIn_22 (by decide) ?_
    refine g_iload_n 0 dX12_worthIn_29 rfl rfl ?_
    refine g_callV (As := [.int (mI m 535 46), .int xs0]) (st := [.int (wSum (mI m 543) xs0 (mI m 536 4).toNatClampNeg)]) dX12_worthIn_30 clX12_428 sh535 rfl rfl (Nat.le_of_ble_eq_true rfl) (rmSH (by decide) (by decide)) (s_home hW (h5 q1) (h6 q1) ?_)
    show Go X 3 mX12_worthIn Q 33 [(3, .int xs0), (0, .ref 535), (1, .int x1), (2, .int x2)] [.int (dyI (mI m 540) (mI m 541 (mI m 535 46).toNatClampNeg) (wSum (mI m 542) xs0 (mI m 536 4).toNatClampNeg) (mI m 537 (mI m 535 46).toNatClampNeg) (mI m 536 2)), .int (wSum (mI m 543) xs0 (mI m 536 4).toNatClampNeg)] m
    refine g_isub dX12_worthIn_33 ?_
    exact g_iret dX12_worthIn_34 rfl enSH (h7 q1)
theorem bX12_isLaid_0 {X : pX} {Q : Option Value → pMem → Prop} {m : pMem} {x1 : Int32} (hW : Wf m)
    (h1 : Go X 1 mX12_isLaid Q 2 [(0, .ref 535), (1, .int x1), (2, .int (0 : Int32))] [] m) :
    Go X 1 mX12_isLaid Q 0 [(0, .ref 535), (1, .int x1)] [] m := by
  refine g_iconst (v := 0) dX12_isLaid_0 (by decide) ?_
  refine g_istore_n (ls2 := [(2, .int (0 : Int32)), (0, .ref 535), (1, .int x1)]) dX12_isLaid_1 rfl (by decide) rfl ?_
  exact g_ls [1, 2, 0] rfl h1
theorem bX12_isLaid_2 {X : pX} {Q : Option Value → pMem → Prop} {m : pMem} {x1 : Int32} {x2 : Int32} (hW : Wf m)
    (h1 : (6 : Int32) ≤ x2 → Q (some (.int (1 : Int32))) m)
    (h2 : ¬ ((6 : Int32) ≤ x2) → vp_in x2 6)
    (h3 : ¬ ((6 : Int32) ≤ x2) → ¬ (mI m 567 x2.toNatClampNeg) = 0)
    (h4 : ¬ ((6 : Int32) ≤ x2) → ((x1 / (mI m 567 x2.toNatClampNeg)) - (x1 / (mI m 567 x2.toNatClampNeg)) / (3 : Int32) * (3 : Int32)) ≤ 0 → Go X 1 mX12_isLaid Q 2 [(0, .ref 535), (1, .int x1), (2, .int (x2 + (1 : Int32)))] [] m)
    (h5 : ¬ ((6 : Int32) ≤ x2) → ¬ (((x1 / (mI m 567 x2.toNatClampNeg)) - (x1 / (mI m 567 x2.toNatClampNeg)) / (3 : Int32) * (3 : Int32)) ≤ 0) → (((mI m 535 48) >>> (x2 &&& 31)) &&& (1 : Int32)) = (1 : Int32) → x2 < (mI m 536 4) → Go X 1 mX12_isLaid Q 2 [(0, .ref 535), (1, .int x1), (2, .int (x2 + (1 : Int32)))] [] m)
    (h6 : ¬ ((6 : Int32) ≤ x2) → ¬ (((x1 / (mI m 567 x2.toNatClampNeg)) - (x1 / (mI m 567 x2.toNatClampNeg)) / (3 : Int32) * (3 : Int32)) ≤ 0) → (((mI m 535 48) >>> (x2 &&& 31)) &&& (1 : Int32)) = (1 : Int32) → ¬ (x2 < (mI m 536 4)) → Q (some (.int (0 : Int32))) m)
    (h7 : ¬ ((6 : Int32) ≤ x2) → ¬ (((x1 / (mI m 567 x2.toNatClampNeg)) - (x1 / (mI m 567 x2.toNatClampNeg)) / (3 : Int32) * (3 : Int32)) ≤ 0) → ¬ ((((mI m 535 48) >>> (x2 &&& 31)) &&& (1 : Int32)) = (1 : Int32)) → Q (some (.int (0 : Int32))) m) :
    Go X 1 mX12_isLaid Q 2 [(0, .ref 535), (1, .int x1), (2, .int x2)] [] m := by
  refine g_iload_n 2 dX12_isLaid_2 rfl rfl ?_
  refine g_bipush (v := 6) dX12_isLaid_3 (by decide) ?_
  refine g_icmp_ge 50 dX12_isLaid_5 (by decide) (fun q1 => ?_) (fun q1 => ?_)
  · refine g_iconst (v := 1) dX12_isLaid_50 (by decide) ?_
    exact g_bret dX12_isLaid_51 rfl (Or.inr rfl) enSH (h1 q1)
  · refine g_iload_n 1 dX12_isLaid_8 rfl rfl ?_
    refine g_aload_n 0 dX12_isLaid_9 rfl rfl ?_
    refine g_getR dX12_isLaid_10 fl12_109 rfl sh535 (w12_45 hW sh535) ?_
    refine g_iload_n 2 dX12_isLaid_13 rfl rfl ?_
    refine g_iald (j := x2.toNatClampNeg) dX12_isLaid_14 (s12_45 sh535) (h2 q1) rfl ?_
    refine g_idiv dX12_isLaid_15 (h3 q1) ?_
    refine g_iconst (v := 3) dX12_isLaid_16 (by decide) ?_
    refine g_irem dX12_isLaid_17 (by decide) ?_
    refine g_if_le 44 dX12_isLaid_18 (by decide) (fun q2 => ?_) (fun q2 => ?_)
    · refine g_iinc (v := x2 + (1 : Int32)) (ls2 := [(2, .int (x2 + (1 : Int32))), (0, .ref 535), (1, .int x1)]) 2 dX12_isLaid_44 rfl rfl (by decide) rfl ?_
      refine g_goto 2 dX12_isLaid_47 (by decide) ?_
      exact g_ls [1, 2, 0] rfl (h4 q1 q2)
    · refine g_aload_n 0 dX12_isLaid_21 rfl rfl ?_
      refine g_getI dX12_isLaid_22 fl12_448 sh535 ?_
      refine g_iload_n 2 dX12_isLaid_25 rfl rfl ?_
      refine g_callS (As := [.int (mI m 535 48), .int x2]) (st := []) dX12_isLaid_26 clX12_332 rfl rfl (Nat.le_of_ble_eq_true rfl) (rmSH (by decide) (by decide)) (s_has hW (fun q3 => ?_) (fun q3 => ?_))
      · refine g_if_eq 42 dX12_isLaid_29 (by decide) (fun q4 => absurd q4 (by decide)) (fun q4 => ?_)
        refine g_iload_n 2 dX12_isLaid_32 rfl rfl ?_
        refine g_aload_n 0 dX12_isLaid_33 rfl rfl ?_
        refine g_getR dX12_isLaid_34 fl12_9 rfl sh535 (w12_1 hW sh535) ?_
        refine g_iconst (v := 4) dX12_isLaid_37 (by decide) ?_
        refine g_iald (j := 4) dX12_isLaid_38 (s12_1 sh535) (by unfold vp_in; decide) (by decide) ?_
        refine g_icmp_lt 44 dX12_isLaid_39 (by decide) (fun q5 => ?_) (fun q5 => ?_)
        · refine g_iinc (v := x2 + (1 : Int32)) (ls2 := [(2, .int (x2 + (1 : Int32))), (0, .ref 535), (1, .int x1)]) 2 dX12_isLaid_44 rfl rfl (by decide) rfl ?_
          refine g_goto 2 dX12_isLaid_47 (by decide) ?_
          exact g_ls [1, 2, 0] rfl (h5 q1 q2 q3 q5)
        · refine g_iconst (v := 0) dX12_isLaid_42 (by decide) ?_
          exact g_bret dX12_isLaid_43 rfl (Or.inl rfl) enSH (h6 q1 q2 q3 q5)
      · refine g_if_eq 42 dX12_isLaid_29 (by decide) (fun q6 => ?_) (fun q6 => absurd q6 (by decide))
        refine g_iconst (v := 0) dX12_isLaid_42 (by decide) ?_
        exact g_bret dX12_isLaid_43 rfl (Or.inl rfl) enSH (h7 q1 q2 q3)
theorem bX12_bestIn_0 {X : pX} {Q : Option Value → pMem → Prop} {m : pMem} {x1 : Int32} {x2 : Int32} {x3 : Int32} (hW : Wf m)
    (h1 : ¬ x3 = (1 : Int32) → vp_in ((((4 : Int32) * x1) + ((2 : Int32) * ((2 : Int32) - x2))) + (1 : Int32)) 2916)
    (h2 : ¬ x3 = (1 : Int32) → Cl X 1 mX12_takenBy [.ref 535, .int x1, .int x2] m (fun v m2 => Go X 4 mX12_bestIn Q 45 [(0, .ref 535), (1, .int x1), (2, .int x2), (3, .int x3), (4, .int (mI m 566 (((((4 : Int32) * x1) + ((2 : Int32) * ((2 : Int32) - x2))) + (1 : Int32)).toNatClampNeg)))] (v.toList ++ []) m2))
    (h3 : x3 = (1 : Int32) → Cl X 3 mX12_worthIn [.ref 535, .int x1, .int (1 : Int32)] m (fun v m2 => Go X 4 mX12_bestIn Q 11 [(0, .ref 535), (1, .int x1), (2, .int x2), (3, .int x3)] (v.toList ++ []) m2)) :
    Go X 4 mX12_bestIn Q 0 [(0, .ref 535), (1, .int x1), (2, .int x2), (3, .int x3)] [] m := by
  refine g_iload_n 3 dX12_bestIn_0 rfl rfl ?_
  refine g_iconst (v := 1) dX12_bestIn_1 (by decide) ?_
  refine g_icmp_ne 21 dX12_bestIn_2 (by decide) (fun q1 => ?_) (fun q1 => ?_)
  · refine g_aload_n 0 dX12_bestIn_21 rfl rfl ?_
    refine g_getR dX12_bestIn_22 fl12_106 rfl sh535 (w12_44 hW sh535) ?_
    refine g_iconst (v := 4) dX12_bestIn_25 (by decide) ?_
    refine g_iload_n 1 dX12_bestIn_26 rfl rfl ?_
    refine g_imul dX12_bestIn_27 ?_
    refine g_iconst (v := 2) dX12_bestIn_28 (by decide) ?_
    refine g_iconst (v := 2) dX12_bestIn_29 (by decide) ?_
    refine g_iload_n 2 dX12_bestIn_30 rfl rfl ?_
    refine g_isub dX12_bestIn_31 ?_
    refine g_imul dX12_bestIn_32 ?_
    refine g_iadd dX12_bestIn_33 ?_
    refine g_iconst (v := 1) dX12_bestIn_34 (by decide) ?_
    refine g_iadd dX12_bestIn_35 ?_
    refine g_iald (j := ((((4 : Int32) * x1) + ((2 : Int32) * ((2 : Int32) - x2))) + (1 : Int32)).toNatClampNeg) dX12_bestIn_36 (s12_44 sh535) (h1 q1) rfl ?_
    refine g_istore (ls2 := [(4, .int (mI m 566 (((((4 : Int32) * x1) + ((2 : Int32) * ((2 : Int32) - x2))) + (1 : Int32)).toNatClampNeg))), (0, .ref 535), (1, .int x1), (2, .int x2), (3, .int x3)]) dX12_bestIn_37 (by decide) rfl ?_
    refine g_aload_n 1 dX12_bestIn_39 rfl rfl ?_
    refine g_iload_n 2 dX12_bestIn_40 rfl rfl ?_
    refine g_iload_n 3 dX12_bestIn_41 rfl rfl ?_
    refine g_ls [1, 2, 3, 4, 0] (ls2 := [(0, .ref 535), (1, .int x1), (2, .int x2), (3, .int x3), (4, .int (mI m 566 (((((4 : Int32) * x1) + ((2 : Int32) * ((2 : Int32) - x2))) + (1 : Int32)).toNatClampNeg)))]) rfl ?_
    exact g_callV (As := [.int x1, .int x2]) (st := []) dX12_bestIn_42 clX12_439 sh535 rfl rfl (Nat.le_of_ble_eq_true rfl) (rmSH (by decide) (by decide)) (h2 q1)
  · refine g_aload_n 0 dX12_bestIn_5 rfl rfl ?_
    refine g_iload_n 1 dX12_bestIn_6 rfl rfl ?_
    refine g_iconst (v := 1) dX12_bestIn_7 (by decide) ?_
    exact g_callV (As := [.int x1, .int (1 : Int32)]) (st := []) dX12_bestIn_8 clX12_442 sh535 rfl rfl (Nat.le_of_ble_eq_true rfl) (rmSH (by decide) (by decide)) (h3 q1)
theorem bX12_bestIn_45 {X : pX} {Q : Option Value → pMem → Prop} {m : pMem} {x1 : Int32} {x2 : Int32} {x3 : Int32} {x4 : Int32} {xs0 : Int32} (hW : Wf m)
    (h1 : sm64 xs0)
    (h2 : (mI m 536 1) ≤ (pcI xs0) → Go X 4 mX12_bestIn Q 72 [(0, .ref 535), (1, .int x1), (2, .int x2), (4, .int x4), (5, .int (0 : Int32)), (6, .int (0 : Int32))] [] (uI m 535 49 (-1 : Int32)))
    (h3 : ¬ ((mI m 536 1) ≤ (pcI xs0)) → Go X 4 mX12_bestIn Q 72 [(0, .ref 535), (1, .int x1), (2, .int x2), (4, .int x4), (5, .int (1 : Int32)), (6, .int (0 : Int32))] [] (uI m 535 49 (-1 : Int32))) :
    Go X 4 mX12_bestIn Q 45 [(0, .ref 535), (1, .int x1), (2, .int x2), (3, .int x3), (4, .int x4)] [.int xs0] m := by
  refine g_callS (As := [.int xs0]) (st := []) dX12_bestIn_45 clX12_355 rfl rfl (Nat.le_of_ble_eq_true rfl) (rmSH (by decide) (by decide)) (s_bits hW h1 ?_)
  show Go X 4 mX12_bestIn Q 48 [(0, .ref 535), (1, .int x1), (2, .int x2), (3, .int x3), (4, .int x4)] [.int (pcI xs0)] m
  refine g_aload_n 0 dX12_bestIn_48 rfl rfl ?_
  refine g_getR dX12_bestIn_49 fl12_9 rfl sh535 (w12_1 hW sh535) ?_
  refine g_iconst (v := 1) dX12_bestIn_52 (by decide) ?_
  refine g_iald (j := 1) dX12_bestIn_53 (s12_1 sh535) (by unfold vp_in; decide) (by decide) ?_
  refine g_icmp_ge 61 dX12_bestIn_54 (by decide) (fun q1 => ?_) (fun q1 => ?_)
  · refine g_iconst (v := 0) dX12_bestIn_61 (by decide) ?_
    refine g_istore (ls2 := [(5, .int (0 : Int32)), (0, .ref 535), (1, .int x1), (2, .int x2), (3, .int x3), (4, .int x4)]) dX12_bestIn_62 (by decide) rfl ?_
    refine g_aload_n 1 dX12_bestIn_64 rfl rfl ?_
    refine g_iconst (v := -1) dX12_bestIn_65 (by decide) ?_
    refine g_putI dX12_bestIn_66 fl12_445 (fun h => by cases h) sh535 ?_
    refine g_iconst (v := 0) dX12_bestIn_69 (by decide) ?_
    refine g_istore (ls2 := [(6, .int (0 : Int32)), (5, .int (0 : Int32)), (0, .ref 535), (1, .int x1), (2, .int x2), (3, .int x3), (4, .int x4)]) dX12_bestIn_70 (by decide) rfl ?_
    exact g_ls [2, 3, 4, 6, 1, 0] rfl (h2 q1)
  · refine g_iconst (v := 1) dX12_bestIn_57 (by decide) ?_
    refine g_goto 62 dX12_bestIn_58 (by decide) ?_
    refine g_istore (ls2 := [(5, .int (1 : Int32)), (0, .ref 535), (1, .int x1), (2, .int x2), (3, .int x3), (4, .int x4)]) dX12_bestIn_62 (by decide) rfl ?_
    refine g_aload_n 1 dX12_bestIn_64 rfl rfl ?_
    refine g_iconst (v := -1) dX12_bestIn_65 (by decide) ?_
    refine g_putI dX12_bestIn_66 fl12_445 (fun h => by cases h) sh535 ?_
    refine g_iconst (v := 0) dX12_bestIn_69 (by decide) ?_
    refine g_istore (ls2 := [(6, .int (0 : Int32)), (5, .int (1 : Int32)), (0, .ref 535), (1, .int x1), (2, .int x2), (3, .int x3), (4, .int x4)]) dX12_bestIn_70 (by decide) rfl ?_
    exact g_ls [2, 3, 4, 6, 1, 0] rfl (h3 q1)
theorem bX12_bestIn_11 {X : pX} {Q : Option Value → pMem → Prop} {m : pMem} {x1 : Int32} {x2 : Int32} {x3 : Int32} {xs0 : Int32} (hW : Wf m)
    (h1 : Cl X 3 mX12_worthIn [.ref 535, .int x1, .int (2 : Int32)] m (fun v m2 => Go X 4 mX12_bestIn Q 17 [(0, .ref 535), (1, .int x1), (2, .int x2), (3, .int x3)] (v.toList ++ [.int xs0]) m2)) :
    Go X 4 mX12_bestIn Q 11 [(0, .ref 535), (1, .int x1), (2, .int x2), (3, .int x3)] [.int xs0] m := by
  refine g_aload_n 0 dX12_bestIn_11 rfl rfl ?_
  refine g_iload_n 1 dX12_bestIn_12 rfl rfl ?_
  refine g_iconst (v := 2) dX12_bestIn_13 (by decide) ?_
  exact g_callV (As := [.int x1, .int (2 : Int32)]) (st := [.int xs0]) dX12_bestIn_14 clX12_442 sh535 rfl rfl (Nat.le_of_ble_eq_true rfl) (rmSH (by decide) (by decide)) h1
theorem bX12_bestIn_72 {X : pX} {Q : Option Value → pMem → Prop} {m : pMem} {x1 : Int32} {x2 : Int32} {x4 : Int32} {x5 : Int32} {x6 : Int32} (hW : Wf m)
    (h1 : (mI m 536 4) ≤ x6 → Q (some (.int x4)) m)
    (h2 : ¬ ((mI m 536 4) ≤ x6) → x5 = 0 → Q (some (.int x4)) m)
    (h3 : ¬ ((mI m 536 4) ≤ x6) → ¬ (x5 = 0) → (((mI m 535 48) >>> (x6 &&& 31)) &&& (1 : Int32)) = (1 : Int32) → vp_in x6 6)
    (h4 : ¬ ((mI m 536 4) ≤ x6) → ¬ (x5 = 0) → (((mI m 535 48) >>> (x6 &&& 31)) &&& (1 : Int32)) = (1 : Int32) → ¬ (mI m 567 x6.toNatClampNeg) = 0)
    (h5 : ¬ ((mI m 536 4) ≤ x6) → ¬ (x5 = 0) → (((mI m 535 48) >>> (x6 &&& 31)) &&& (1 : Int32)) = (1 : Int32) → ¬ ((x1 / (mI m 567 x6.toNatClampNeg)) - (x1 / (mI m 567 x6.toNatClampNeg)) / (3 : Int32) * (3 : Int32)) = 0 → Go X 4 mX12_bestIn Q 72 [(0, .ref 535), (1, .int x1), (2, .int x2), (4, .int x4), (5, .int x5), (6, .int (x6 + (1 : Int32)))] [] m)
    (h6 : ¬ ((mI m 536 4) ≤ x6) → ¬ (x5 = 0) → (((mI m 535 48) >>> (x6 &&& 31)) &&& (1 : Int32)) = (1 : Int32) → ((x1 / (mI m 567 x6.toNatClampNeg)) - (x1 / (mI m 567 x6.toNatClampNeg)) / (3 : Int32) * (3 : Int32)) = 0 → vp_in x6 6)
    (h7 : ¬ ((mI m 536 4) ≤ x6) → ¬ (x5 = 0) → (((mI m 535 48) >>> (x6 &&& 31)) &&& (1 : Int32)) = (1 : Int32) → ((x1 / (mI m 567 x6.toNatClampNeg)) - (x1 / (mI m 567 x6.toNatClampNeg)) / (3 : Int32) * (3 : Int32)) = 0 → vp_in (((4 : Int32) * (x1 + (x2 * (mI m 567 x6.toNatClampNeg)))) + ((2 : Int32) * ((2 : Int32) - x2))) 2916)
    (h8 : ¬ ((mI m 536 4) ≤ x6) → ¬ (x5 = 0) → (((mI m 535 48) >>> (x6 &&& 31)) &&& (1 : Int32)) = (1 : Int32) → ((x1 / (mI m 567 x6.toNatClampNeg)) - (x1 / (mI m 567 x6.toNatClampNeg)) / (3 : Int32) * (3 : Int32)) = 0 → ¬ x2 = (1 : Int32) → x4 ≤ (mI m 566 ((((4 : Int32) * (x1 + (x2 * (mI m 567 x6.toNatClampNeg)))) + ((2 : Int32) * ((2 : Int32) - x2))).toNatClampNeg)) → Go X 4 mX12_bestIn Q 72 [(0, .ref 535), (1, .int x1), (2, .int x2), (4, .int x4), (5, .int x5), (6, .int (x6 + (1 : Int32)))] [] m)
    (h9 : ¬ ((mI m 536 4) ≤ x6) → ¬ (x5 = 0) → (((mI m 535 48) >>> (x6 &&& 31)) &&& (1 : Int32)) = (1 : Int32) → ((x1 / (mI m 567 x6.toNatClampNeg)) - (x1 / (mI m 567 x6.toNatClampNeg)) / (3 : Int32) * (3 : Int32)) = 0 → ¬ x2 = (1 : Int32) → ¬ (x4 ≤ (mI m 566 ((((4 : Int32) * (x1 + (x2 * (mI m 567 x6.toNatClampNeg)))) + ((2 : Int32) * ((2 : Int32) - x2))).toNatClampNeg))) → Go X 4 mX12_bestIn Q 72 [(0, .ref 535), (1, .int x1), (2, .int x2), (4, .int (mI m 566 ((((4 : Int32) * (x1 + (x2 * (mI m 567 x6.toNatClampNeg)))) + ((2 : Int32) * ((2 : Int32) - x2))).toNatClampNeg))), (5, .int x5), (6, .int (x6 + (1 : Int32)))] [] (uI m 535 49 x6))
    (h10 : ¬ ((mI m 536 4) ≤ x6) → ¬ (x5 = 0) → (((mI m 535 48) >>> (x6 &&& 31)) &&& (1 : Int32)) = (1 : Int32) → ((x1 / (mI m 567 x6.toNatClampNeg)) - (x1 / (mI m 567 x6.toNatClampNeg)) / (3 : Int32) * (3 : Int32)) = 0 → x2 = (1 : Int32) → (mI m 566 ((((4 : Int32) * (x1 + (x2 * (mI m 567 x6.toNatClampNeg)))) + ((2 : Int32) * ((2 : Int32) - x2))).toNatClampNeg)) ≤ x4 → Go X 4 mX12_bestIn Q 72 [(0, .ref 535), (1, .int x1), (2, .int x2), (4, .int x4), (5, .int x5), (6, .int (x6 + (1 : Int32)))] [] m)
    (h11 : ¬ ((mI m 536 4) ≤ x6) → ¬ (x5 = 0) → (((mI m 535 48) >>> (x6 &&& 31)) &&& (1 : Int32)) = (1 : Int32) → ((x1 / (mI m 567 x6.toNatClampNeg)) - (x1 / (mI m 567 x6.toNatClampNeg)) / (3 : Int32) * (3 : Int32)) = 0 → x2 = (1 : Int32) → ¬ ((mI m 566 ((((4 : Int32) * (x1 + (x2 * (mI m 567 x6.toNatClampNeg)))) + ((2 : Int32) * ((2 : Int32) - x2))).toNatClampNeg)) ≤ x4) → Go X 4 mX12_bestIn Q 72 [(0, .ref 535), (1, .int x1), (2, .int x2), (4, .int (mI m 566 ((((4 : Int32) * (x1 + (x2 * (mI m 567 x6.toNatClampNeg)))) + ((2 : Int32) * ((2 : Int32) - x2))).toNatClampNeg))), (5, .int x5), (6, .int (x6 + (1 : Int32)))] [] (uI m 535 49 x6))
    (h12 : ¬ ((mI m 536 4) ≤ x6) → ¬ (x5 = 0) → ¬ ((((mI m 535 48) >>> (x6 &&& 31)) &&& (1 : Int32)) = (1 : Int32)) → Go X 4 mX12_bestIn Q 72 [(0, .ref 535), (1, .int x1), (2, .int x2), (4, .int x4), (5, .int x5), (6, .int (x6 + (1 : Int32)))] [] m) :
    Go X 4 mX12_bestIn Q 72 [(0, .ref 535), (1, .int x1), (2, .int x2), (4, .int x4), (5, .int x5), (6, .int x6)] [] m := by
  refine g_iload 5 dX12_bestIn_72 rfl ?_
  refine g_aload_n 0 dX12_bestIn_74 rfl rfl ?_
  refine g_getR dX12_bestIn_75 fl12_9 rfl sh535 (w12_1 hW sh535) ?_
  refine g_iconst (v := 4) dX12_bestIn_78 (by decide) ?_
  refine g_iald (j := 4) dX12_bestIn_79 (s12_1 sh535) (by unfold vp_in; decide) (by decide) ?_
  refine g_icmp_ge 178 dX12_bestIn_80 (by decide) (fun q1 => ?_) (fun q1 => ?_)
  · refine g_iload 3 dX12_bestIn_178 rfl ?_
    exact g_iret dX12_bestIn_180 rfl enSH (h1 q1)
  · refine g_iload 4 dX12_bestIn_83 rfl ?_
    refine g_if_eq 178 dX12_bestIn_85 (by decide) (fun q2 => ?_) (fun q2 => ?_)
    · refine g_iload 3 dX12_bestIn_178 rfl ?_
      exact g_iret dX12_bestIn_180 rfl enSH (h2 q1 q2)
    · refine g_aload_n 0 dX12_bestIn_88 rfl rfl ?_
      refine g_getI dX12_bestIn_89 fl12_448 sh535 ?_
      refine g_iload 5 dX12_bestIn_92 rfl ?_
      refine g_callS (As := [.int (mI m 535 48), .int x6]) (st := []) dX12_bestIn_94 clX12_332 rfl rfl (Nat.le_of_ble_eq_true rfl) (rmSH (by decide) (by decide)) (s_has hW (fun q3 => ?_) (fun q3 => ?_))
      · refine g_if_eq 172 dX12_bestIn_97 (by decide) (fun q4 => absurd q4 (by decide)) (fun q4 => ?_)
        refine g_iload_n 1 dX12_bestIn_100 rfl rfl ?_
        refine g_aload_n 0 dX12_bestIn_101 rfl rfl ?_
        refine g_getR dX12_bestIn_102 fl12_109 rfl sh535 (w12_45 hW sh535) ?_
        refine g_iload 5 dX12_bestIn_105 rfl ?_
        refine g_iald (j := x6.toNatClampNeg) dX12_bestIn_107 (s12_45 sh535) (h3 q1 q2 q3) rfl ?_
        refine g_idiv dX12_bestIn_108 (h4 q1 q2 q3) ?_
        refine g_iconst (v := 3) dX12_bestIn_109 (by decide) ?_
        refine g_irem dX12_bestIn_110 (by decide) ?_
        refine g_if_ne 172 dX12_bestIn_111 (by decide) (fun q5 => ?_) (fun q5 => ?_)
        · refine g_iinc (v := x6 + (1 : Int32)) (ls2 := [(6, .int (x6 + (1 : Int32))), (0, .ref 535), (1, .int x1), (2, .int x2), (4, .int x4), (5, .int x5)]) 5 dX12_bestIn_172 rfl rfl (by decide) rfl ?_
          refine g_goto 72 dX12_bestIn_175 (by decide) ?_
          exact g_ls [1, 2, 3, 4, 5, 0] rfl (h5 q1 q2 q3 q5)
        · refine g_aload_n 0 dX12_bestIn_114 rfl rfl ?_
          refine g_getR dX12_bestIn_115 fl12_106 rfl sh535 (w12_44 hW sh535) ?_
          refine g_iconst (v := 4) dX12_bestIn_118 (by decide) ?_
          refine g_iload_n 1 dX12_bestIn_119 rfl rfl ?_
          refine g_iload_n 2 dX12_bestIn_120 rfl rfl ?_
          refine g_aload_n 0 dX12_bestIn_121 rfl rfl ?_
          refine g_getR dX12_bestIn_122 fl12_109 rfl sh535 (w12_45 hW sh535) ?_
          refine g_iload 5 dX12_bestIn_125 rfl ?_
          refine g_iald (j := x6.toNatClampNeg) dX12_bestIn_127 (s12_45 sh535) (h6 q1 q2 q3 q5) rfl ?_
          refine g_imul dX12_bestIn_128 ?_
          refine g_iadd dX12_bestIn_129 ?_
          refine g_imul dX12_bestIn_130 ?_
          refine g_iconst (v := 2) dX12_bestIn_131 (by decide) ?_
          refine g_iconst (v := 2) dX12_bestIn_132 (by decide) ?_
          refine g_iload_n 2 dX12_bestIn_133 rfl rfl ?_
          refine g_isub dX12_bestIn_134 ?_
          refine g_imul dX12_bestIn_135 ?_
          refine g_iadd dX12_bestIn_136 ?_
          refine g_iald (j := (((4 : Int32) * (x1 + (x2 * (mI m 567 x6.toNatClampNeg)))) + ((2 : Int32) * ((2 : Int32) - x2))).toNatClampNeg) dX12_bestIn_137 (s12_44 sh535) (h7 q1 q2 q3 q5) rfl ?_
          refine g_istore (ls2 := [(7, .int (mI m 566 ((((4 : Int32) * (x1 + (x2 * (mI m 567 x6.toNatClampNeg)))) + ((2 : Int32) * ((2 : Int32) - x2))).toNatClampNeg))), (0, .ref 535), (1, .int x1), (2, .int x2), (4, .int x4), (5, .int x5), (6, .int x6)]) dX12_bestIn_138 (by decide) rfl ?_
          refine g_iload_n 3 dX12_bestIn_140 rfl rfl ?_
          refine g_iconst (v := 1) dX12_bestIn_141 (by decide) ?_
          refine g_icmp_ne 155 dX12_bestIn_142 (by decide) (fun q6 => ?_) (fun q6 => ?_)
          · refine g_iload 0 dX12_bestIn_155 rfl ?_
            refine g_iload 4 dX12_bestIn_157 rfl ?_
            refine g_icmp_ge 172 dX12_bestIn_159 (by decide) (fun q7 => ?_) (fun q7 => ?_)
            · refine g_iinc (v := x6 + (1 : Int32)) (ls2 := [(6, .int (x6 + (1 : Int32))), (7, .int (mI m 566 ((((4 : Int32) * (x1 + (x2 * (mI m 567 x6.toNatClampNeg)))) + ((2 : Int32) * ((2 : Int32) - x2))).toNatClampNeg))), (0, .ref 535), (1, .int x1), (2, .int x2), (4, .int x4), (5, .int x5)]) 6 dX12_bestIn_172 rfl rfl (by decide) rfl ?_
              refine g_goto 72 dX12_bestIn_175 (by decide) ?_
              exact g_ls [2, 3, 4, 5, 6, 0] rfl (h8 q1 q2 q3 q5 q6 q7)
            · refine g_iload 0 dX12_bestIn_162 rfl ?_
              refine g_istore (ls2 := [(4, .int (mI m 566 ((((4 : Int32) * (x1 + (x2 * (mI m 567 x6.toNatClampNeg)))) + ((2 : Int32) * ((2 : Int32) - x2))).toNatClampNeg))), (7, .int (mI m 566 ((((4 : Int32) * (x1 + (x2 * (mI m 567 x6.toNatClampNeg)))) + ((2 : Int32) * ((2 : Int32) - x2))).toNatClampNeg))), (0, .ref 535), (1, .int x1), (2, .int x2), (5, .int x5), (6, .int x6)]) dX12_bestIn_164 (by decide) rfl ?_
              refine g_aload_n 2 dX12_bestIn_166 rfl rfl ?_
              refine g_iload 6 dX12_bestIn_167 rfl ?_
              refine g_putI dX12_bestIn_169 fl12_445 (fun h => by cases h) sh535 ?_
              refine g_iinc (v := x6 + (1 : Int32)) (ls2 := [(6, .int (x6 + (1 : Int32))), (4, .int (mI m 566 ((((4 : Int32) * (x1 + (x2 * (mI m 567 x6.toNatClampNeg)))) + ((2 : Int32) * ((2 : Int32) - x2))).toNatClampNeg))), (7, .int (mI m 566 ((((4 : Int32) * (x1 + (x2 * (mI m 567 x6.toNatClampNeg)))) + ((2 : Int32) * ((2 : Int32) - x2))).toNatClampNeg))), (0, .ref 535), (1, .int x1), (2, .int x2), (5, .int x5)]) 6 dX12_bestIn_172 rfl rfl (by decide) rfl ?_
              refine g_goto 72 dX12_bestIn_175 (by decide) ?_
              exact g_ls [3, 4, 5, 1, 6, 0] rfl (h9 q1 q2 q3 q5 q6 q7)
          · refine g_iload 0 dX12_bestIn_145 rfl ?_
            refine g_iload 4 dX12_bestIn_147 rfl ?_
            refine g_icmp_le 172 dX12_bestIn_149 (by decide) (fun q8 => ?_) (fun q8 => ?_)
            · refine g_iinc (v := x6 + (1 : Int32)) (ls2 := [(6, .int (x6 + (1 : Int32))), (7, .int (mI m 566 ((((4 : Int32) * (x1 + (x2 * (mI m 567 x6.toNatClampNeg)))) + ((2 : Int32) * ((2 : Int32) - x2))).toNatClampNeg))), (0, .ref 535), (1, .int x1), (2, .int x2), (4, .int x4), (5, .int x5)]) 6 dX12_bestIn_172 rfl rfl (by decide) rfl ?_
              refine g_goto 72 dX12_bestIn_175 (by decide) ?_
              exact g_ls [2, 3, 4, 5, 6, 0] rfl (h10 q1 q2 q3 q5 q6 q8)
            · refine g_goto 162 dX12_bestIn_152 (by decide) ?_
              refine g_iload 0 dX12_bestIn_162 rfl ?_
              refine g_istore (ls2 := [(4, .int (mI m 566 ((((4 : Int32) * (x1 + (x2 * (mI m 567 x6.toNatClampNeg)))) + ((2 : Int32) * ((2 : Int32) - x2))).toNatClampNeg))), (7, .int (mI m 566 ((((4 : Int32) * (x1 + (x2 * (mI m 567 x6.toNatClampNeg)))) + ((2 : Int32) * ((2 : Int32) - x2))).toNatClampNeg))), (0, .ref 535), (1, .int x1), (2, .int x2), (5, .int x5), (6, .int x6)]) dX12_bestIn_164 (by decide) rfl ?_
              refine g_aload_n 2 dX12_bestIn_166 rfl rfl ?_
              refine g_iload 6 dX12_bestIn_167 rfl ?_
              refine g_putI dX12_bestIn_169 fl12_445 (fun h => by cases h) sh535 ?_
              refine g_iinc (v := x6 + (1 : Int32)) (ls2 := [(6, .int (x6 + (1 : Int32))), (4, .int (mI m 566 ((((4 : Int32) * (x1 + (x2 * (mI m 567 x6.toNatClampNeg)))) + ((2 : Int32) * ((2 : Int32) - x2))).toNatClampNeg))), (7, .int (mI m 566 ((((4 : Int32) * (x1 + (x2 * (mI m 567 x6.toNatClampNeg)))) + ((2 : Int32) * ((2 : Int32) - x2))).toNatClampNeg))), (0, .ref 535), (1, .int x1), (2, .int x2), (5, .int x5)]) 6 dX12_bestIn_172 rfl rfl (by decide) rfl ?_
              refine g_goto 72 dX12_bestIn_175 (by decide) ?_
              exact g_ls [3, 4, 5, 1, 6, 0] rfl (h11 q1 q2 q3 q5 q6 q8)
      · refine g_if_eq 172 dX12_bestIn_97 (by decide) (fun q9 => ?_) (fun q9 => absurd q9 (by decide))
        refine g_iinc (v := x6 + (1 : Int32)) (ls2 := [(6, .int (x6 + (1 : Int32))), (0, .ref 535), (1, .int x1), (2, .int x2), (4, .int x4), (5, .int x5)]) 5 dX12_bestIn_172 rfl rfl (by decide) rfl ?_
        refine g_goto 72 dX12_bestIn_175 (by decide) ?_
        exact g_ls [1, 2, 3, 4, 5, 0] rfl (h12 q1 q2 q3)
theorem bX12_bestIn_17 {X : pX} {Q : Option Value → pMem → Prop} {m : pMem} {x1 : Int32} {x2 : Int32} {x3 : Int32} {xs0 : Int32} {xs1 : Int32} (hW : Wf m)
    (h1 : Cl X 1 mX12_takenBy [.ref 535, .int x1, .int x2] m (fun v m2 => Go X 4 mX12_bestIn Q 45 [(0, .ref 535), (1, .int x1), (2, .int x2), (3, .int x3), (4, .int (xs1 - xs0))] (v.toList ++ []) m2)) :
    Go X 4 mX12_bestIn Q 17 [(0, .ref 535), (1, .int x1), (2, .int x2), (3, .int x3)] [.int xs0, .int xs1] m := by
  refine g_isub dX12_bestIn_17 ?_
  refine g_goto 37 dX12_bestIn_18 (by decide) ?_
  refine g_istore (ls2 := [(4, .int (xs1 - xs0)), (0, .ref 535), (1, .int x1), (2, .int x2), (3, .int x3)]) dX12_bestIn_37 (by decide) rfl ?_
  refine g_aload_n 1 dX12_bestIn_39 rfl rfl ?_
  refine g_iload_n 2 dX12_bestIn_40 rfl rfl ?_
  refine g_iload_n 3 dX12_bestIn_41 rfl rfl ?_
  refine g_ls [1, 2, 3, 4, 0] (ls2 := [(0, .ref 535), (1, .int x1), (2, .int x2), (3, .int x3), (4, .int (xs1 - xs0))]) rfl ?_
  exact g_callV (As := [.int x1, .int x2]) (st := []) dX12_bestIn_42 clX12_439 sh535 rfl rfl (Nat.le_of_ble_eq_true rfl) (rmSH (by decide) (by decide)) h1
theorem bX12_game_0 {X : pX} {Q : Option Value → pMem → Prop} {m : pMem} {x1 : Int32} {x2 : Int32} {x3 : Int32} (hW : Wf m)
    (h1 : vp_in (mI m 536 3) 5)
    (h2 : ((¬ x1 < 0 ∧ ¬ (mI m 536 3 - (1 : Int32)) < x1) ∧ mI m 538 x1.toNatClampNeg = 0) ∧ ((¬ x2 < 0 ∧ ¬ (mI m 536 3 - (1 : Int32)) < x2) ∧ mI m 538 x2.toNatClampNeg = 0) ∧ ¬ x1 = x2 ∧ mI m 537 x1.toNatClampNeg = mI m 537 x2.toNatClampNeg → ¬ x3 < (0 : Int32) ∧ ¬ (1 : Int32) < x3 → vp_in x1 4)
    (h3 : ((¬ x1 < 0 ∧ ¬ (mI m 536 3 - (1 : Int32)) < x1) ∧ mI m 538 x1.toNatClampNeg = 0) ∧ ((¬ x2 < 0 ∧ ¬ (mI m 536 3 - (1 : Int32)) < x2) ∧ mI m 538 x2.toNatClampNeg = 0) ∧ ¬ x1 = x2 ∧ mI m 537 x1.toNatClampNeg = mI m 537 x2.toNatClampNeg → ¬ x3 < (0 : Int32) ∧ ¬ (1 : Int32) < x3 → vp_in (mI m 536 4) 7)
    (h4 : ((¬ x1 < 0 ∧ ¬ (mI m 536 3 - (1 : Int32)) < x1) ∧ mI m 538 x1.toNatClampNeg = 0) ∧ ((¬ x2 < 0 ∧ ¬ (mI m 536 3 - (1 : Int32)) < x2) ∧ mI m 538 x2.toNatClampNeg = 0) ∧ ¬ x1 = x2 ∧ mI m 537 x1.toNatClampNeg = mI m 537 x2.toNatClampNeg → ¬ x3 < (0 : Int32) ∧ ¬ (1 : Int32) < x3 → Go X 5 mX12_game Q 54 [(0, .ref 535), (3, .int x3), (4, .int (6 : Int32))] [] (uI (uI (uI m 535 46 x1) 535 47 x2) 535 48 (tAt (mI m 539) ((10 : Int32) + (mI m 537 x1.toNatClampNeg)) (mI m 536 4).toNatClampNeg)))
    (h5 : ((¬ x1 < 0 ∧ ¬ (mI m 536 3 - (1 : Int32)) < x1) ∧ mI m 538 x1.toNatClampNeg = 0) ∧ ((¬ x2 < 0 ∧ ¬ (mI m 536 3 - (1 : Int32)) < x2) ∧ mI m 538 x2.toNatClampNeg = 0) ∧ ¬ x1 = x2 ∧ mI m 537 x1.toNatClampNeg = mI m 537 x2.toNatClampNeg → ¬ (¬ x3 < (0 : Int32) ∧ ¬ (1 : Int32) < x3) → Q (some (.int (-10000 : Int32))) m)
    (h6 : ¬ (((¬ x1 < 0 ∧ ¬ (mI m 536 3 - (1 : Int32)) < x1) ∧ mI m 538 x1.toNatClampNeg = 0) ∧ ((¬ x2 < 0 ∧ ¬ (mI m 536 3 - (1 : Int32)) < x2) ∧ mI m 538 x2.toNatClampNeg = 0) ∧ ¬ x1 = x2 ∧ mI m 537 x1.toNatClampNeg = mI m 537 x2.toNatClampNeg) → Q (some (.int (-10000 : Int32))) m) :
    Go X 5 mX12_game Q 0 [(0, .ref 535), (1, .int x1), (2, .int x2), (3, .int x3)] [] m := by
  refine g_aload_n 0 dX12_game_0 rfl rfl ?_
  refine g_iload_n 1 dX12_game_1 rfl rfl ?_
  refine g_iload_n 2 dX12_game_2 rfl rfl ?_
  refine g_callV (As := [.int x1, .int x2]) (st := []) dX12_game_3 clX12_401 sh535 rfl rfl (Nat.le_of_ble_eq_true rfl) (rmSH (by decide) (by decide)) (s_mTog hW h1 (fun q1 => ?_) (fun q1 => ?_))
  · refine g_if_eq 19 dX12_game_6 (by decide) (fun q2 => absurd q2 (by decide)) (fun q2 => ?_)
    refine g_iload_n 3 dX12_game_9 rfl rfl ?_
    refine g_i2l dX12_game_10 ?_
    refine g_lconst (v := 0) dX12_game_11 (by decide) ?_
    refine g_lconst (v := 1) dX12_game_12 (by decide) ?_
    refine g_callS (As := [.long x3.toInt64, .long (0 : Int64), .long (1 : Int64)]) (st := []) dX12_game_13 clX12_128 rfl rfl (Nat.le_of_ble_eq_true rfl) (rmSH (by decide) (by decide)) (s_in (x := x3) (lo := (0 : Int32)) (hi := (1 : Int32)) hW (by first | rfl | decide) (by first | rfl | decide) (by first | rfl | decide) (fun q3 => ?_) (fun q3 => ?_))
    · refine g_if_ne 23 dX12_game_16 (by decide) (fun q4 => ?_) (fun q4 => absurd q4 (by decide))
      refine g_aload_n 0 dX12_game_23 rfl rfl ?_
      refine g_iload_n 1 dX12_game_24 rfl rfl ?_
      refine g_putI dX12_game_25 fl12_433 (fun h => by cases h) sh535 ?_
      refine g_aload_n 0 dX12_game_28 rfl rfl ?_
      refine g_iload_n 2 dX12_game_29 rfl rfl ?_
      refine g_putI dX12_game_30 fl12_436 (fun h => by cases h) sh535 ?_
      refine g_aload_n 0 dX12_game_33 rfl rfl ?_
      refine g_aload_n 0 dX12_game_34 rfl rfl ?_
      refine g_bipush (v := 10) dX12_game_35 (by decide) ?_
      refine g_aload_n 0 dX12_game_37 rfl rfl ?_
      refine g_getR dX12_game_38 fl12_13 rfl sh535 (w12_2 hW sh535) ?_
      refine g_iload_n 1 dX12_game_41 rfl rfl ?_
      refine g_iald (j := x1.toNatClampNeg) dX12_game_42 (s12_2 sh535) (h2 q1 q3) rfl ?_
      refine g_iadd dX12_game_43 ?_
      refine g_callV (As := [.int ((10 : Int32) + (mI m 537 x1.toNatClampNeg))]) (st := [.ref 535]) dX12_game_44 clX12_338 sh535 rfl rfl (Nat.le_of_ble_eq_true rfl) (rmSH (by decide) (by decide)) (s_mThings hW (h3 q1 q3) ?_)
      show Go X 5 mX12_game Q 47 [(0, .ref 535), (1, .int x1), (2, .int x2), (3, .int x3)] [.int (tAt (mI m 539) ((10 : Int32) + (mI m 537 x1.toNatClampNeg)) (mI m 536 4).toNatClampNeg), .ref 535] (uI (uI m 535 46 x1) 535 47 x2)
      refine g_putI dX12_game_47 fl12_448 (fun h => by cases h) sh535 ?_
      refine g_bipush (v := 6) dX12_game_50 (by decide) ?_
      refine g_istore (ls2 := [(4, .int (6 : Int32)), (0, .ref 535), (1, .int x1), (2, .int x2), (3, .int x3)]) dX12_game_52 (by decide) rfl ?_
      exact g_ls [1, 4, 0] rfl (h4 q1 q3)
    · refine g_if_ne 23 dX12_game_16 (by decide) (fun q5 => absurd q5 (by decide)) (fun q5 => ?_)
      refine g_sipush (v := -10000) dX12_game_19 (by decide) ?_
      exact g_iret dX12_game_22 rfl enSH (h5 q1 q3)
  · refine g_if_eq 19 dX12_game_6 (by decide) (fun q6 => ?_) (fun q6 => absurd q6 (by decide))
    refine g_sipush (v := -10000) dX12_game_19 (by decide) ?_
    exact g_iret dX12_game_22 rfl enSH (h6 q1)
theorem bX12_game_54 {X : pX} {Q : Option Value → pMem → Prop} {m : pMem} {x3 : Int32} {x4 : Int32} (hW : Wf m)
    (h1 : x4 < 0 → Cl X 4 mX12_bestIn [.ref 535, .int (0 : Int32), .int (1 : Int32), .int (0 : Int32)] m (fun v m2 => Go X 5 mX12_game Q 183 [(0, .ref 535), (3, .int x3), (4, .int x4)] (v.toList ++ []) m2))
    (h2 : ¬ (x4 < 0) → Go X 5 mX12_game Q 62 [(0, .ref 535), (3, .int x3), (4, .int x4), (5, .int (0 : Int32))] [] m) :
    Go X 5 mX12_game Q 54 [(0, .ref 535), (3, .int x3), (4, .int x4)] [] m := by
  refine g_iload 2 dX12_game_54 rfl ?_
  refine g_if_lt 176 dX12_game_56 (by decide) (fun q1 => ?_) (fun q1 => ?_)
  · refine g_aload_n 0 dX12_game_176 rfl rfl ?_
    refine g_iconst (v := 0) dX12_game_177 (by decide) ?_
    refine g_iconst (v := 1) dX12_game_178 (by decide) ?_
    refine g_iconst (v := 0) dX12_game_179 (by decide) ?_
    exact g_callV (As := [.int (0 : Int32), .int (1 : Int32), .int (0 : Int32)]) (st := []) dX12_game_180 clX12_457 sh535 rfl rfl (Nat.le_of_ble_eq_true rfl) (rmSH (by decide) (by decide)) (h1 q1)
  · refine g_iconst (v := 0) dX12_game_59 (by decide) ?_
    refine g_istore (ls2 := [(5, .int (0 : Int32)), (0, .ref 535), (3, .int x3), (4, .int x4)]) dX12_game_60 (by decide) rfl ?_
    exact g_ls [1, 2, 3, 0] rfl (h2 q1)
theorem bX12_game_183 {X : pX} {Q : Option Value → pMem → Prop} {m : pMem} {x3 : Int32} {x4 : Int32} {xs0 : Int32} (hW : Wf m)
    (h1 : ¬ x3 = 0 → Q (some (.int (mI m 535 49))) m)
    (h2 : x3 = 0 → Q (some (.int xs0)) m) :
    Go X 5 mX12_game Q 183 [(0, .ref 535), (3, .int x3), (4, .int x4)] [.int xs0] m := by
  refine g_istore (ls2 := [(4, .int xs0), (0, .ref 535), (3, .int x3)]) dX12_game_183 (by decide) rfl ?_
  refine g_iload_n 2 dX12_game_185 rfl rfl ?_
  refine g_if_ne 194 dX12_game_186 (by decide) (fun q1 => ?_) (fun q1 => ?_)
  · refine g_aload_n 1 dX12_game_194 rfl rfl ?_
    refine g_getI dX12_game_195 fl12_445 sh535 ?_
    exact g_iret dX12_game_198 rfl enSH (h1 q1)
  · refine g_iload 0 dX12_game_189 rfl ?_
    refine g_goto 198 dX12_game_191 (by decide) ?_
    exact g_iret dX12_game_198 rfl enSH (h2 q1)
theorem bX12_game_62 {X : pX} {Q : Option Value → pMem → Prop} {m : pMem} {x3 : Int32} {x4 : Int32} {x5 : Int32} (hW : Wf m)
    (h1 : (729 : Int32) ≤ x5 → Go X 5 mX12_game Q 54 [(0, .ref 535), (3, .int x3), (4, .int (x4 + (-1 : Int32)))] [] m)
    (h2 : ¬ ((729 : Int32) ≤ x5) → Cl X 0 mX12_howManyTaken [.ref 535, .int x5] m (fun v m2 => Go X 5 mX12_game Q 76 [(0, .ref 535), (3, .int x3), (4, .int x4), (5, .int x5)] (v.toList ++ []) m2)) :
    Go X 5 mX12_game Q 62 [(0, .ref 535), (3, .int x3), (4, .int x4), (5, .int x5)] [] m := by
  refine g_iload 3 dX12_game_62 rfl ?_
  refine g_sipush (v := 729) dX12_game_64 (by decide) ?_
  refine g_icmp_ge 170 dX12_game_67 (by decide) (fun q1 => ?_) (fun q1 => ?_)
  · refine g_iinc (v := x4 + (-1 : Int32)) (ls2 := [(4, .int (x4 + (-1 : Int32))), (0, .ref 535), (3, .int x3), (5, .int x5)]) 2 dX12_game_170 rfl rfl (by decide) rfl ?_
    refine g_goto 54 dX12_game_173 (by decide) ?_
    exact g_ls [1, 2, 0] rfl (h1 q1)
  · refine g_aload_n 0 dX12_game_70 rfl rfl ?_
    refine g_iload 3 dX12_game_71 rfl ?_
    exact g_callV (As := [.int x5]) (st := []) dX12_game_73 clX12_451 sh535 rfl rfl (Nat.le_of_ble_eq_true rfl) (rmSH (by decide) (by decide)) (h2 q1)
theorem bX12_game_76 {X : pX} {Q : Option Value → pMem → Prop} {m : pMem} {x3 : Int32} {x4 : Int32} {x5 : Int32} {xs0 : Int32} (hW : Wf m)
    (h1 : ¬ xs0 = x4 → Go X 5 mX12_game Q 62 [(0, .ref 535), (3, .int x3), (4, .int x4), (5, .int (x5 + (1 : Int32)))] [] m)
    (h2 : xs0 = x4 → Cl X 1 mX12_isLaid [.ref 535, .int x5] m (fun v m2 => Go X 5 mX12_game Q 87 [(0, .ref 535), (3, .int x3), (4, .int x4), (5, .int x5)] (v.toList ++ []) m2)) :
    Go X 5 mX12_game Q 76 [(0, .ref 535), (3, .int x3), (4, .int x4), (5, .int x5)] [.int xs0] m := by
  refine g_iload 2 dX12_game_76 rfl ?_
  refine g_icmp_ne 164 dX12_game_78 (by decide) (fun q1 => ?_) (fun q1 => ?_)
  · refine g_iinc (v := x5 + (1 : Int32)) (ls2 := [(5, .int (x5 + (1 : Int32))), (0, .ref 535), (3, .int x3), (4, .int x4)]) 3 dX12_game_164 rfl rfl (by decide) rfl ?_
    refine g_goto 62 dX12_game_167 (by decide) ?_
    exact g_ls [1, 2, 3, 0] rfl (h1 q1)
  · refine g_aload_n 0 dX12_game_81 rfl rfl ?_
    refine g_iload 3 dX12_game_82 rfl ?_
    exact g_callV (As := [.int x5]) (st := []) dX12_game_84 clX12_454 sh535 rfl rfl (Nat.le_of_ble_eq_true rfl) (rmSH (by decide) (by decide)) (h2 q1)
theorem bX12_game_87 {X : pX} {Q : Option Value → pMem → Prop} {m : pMem} {x3 : Int32} {x4 : Int32} {x5 : Int32} {xs0 : Int32} (hW : Wf m)
    (h1 : xs0 = 0 → Go X 5 mX12_game Q 62 [(0, .ref 535), (3, .int x3), (4, .int x4), (5, .int (x5 + (1 : Int32)))] [] m)
    (h2 : ¬ (xs0 = 0) → Cl X 4 mX12_bestIn [.ref 535, .int x5, .int (1 : Int32), .int (1 : Int32)] m (fun v m2 => Go X 5 mX12_game Q 108 [(0, .ref 535), (3, .int x3), (4, .int x4), (5, .int x5)] (v.toList ++ [.int (((4 : Int32) * x5) + (1 : Int32)), .ref 566]) m2)) :
    Go X 5 mX12_game Q 87 [(0, .ref 535), (3, .int x3), (4, .int x4), (5, .int x5)] [.int xs0] m := by
  refine g_if_eq 164 dX12_game_87 (by decide) (fun q1 => ?_) (fun q1 => ?_)
  · refine g_iinc (v := x5 + (1 : Int32)) (ls2 := [(5, .int (x5 + (1 : Int32))), (0, .ref 535), (3, .int x3), (4, .int x4)]) 3 dX12_game_164 rfl rfl (by decide) rfl ?_
    refine g_goto 62 dX12_game_167 (by decide) ?_
    exact g_ls [1, 2, 3, 0] rfl (h1 q1)
  · refine g_aload_n 0 dX12_game_90 rfl rfl ?_
    refine g_getR dX12_game_91 fl12_106 rfl sh535 (w12_44 hW sh535) ?_
    refine g_iconst (v := 4) dX12_game_94 (by decide) ?_
    refine g_iload 3 dX12_game_95 rfl ?_
    refine g_imul dX12_game_97 ?_
    refine g_iconst (v := 1) dX12_game_98 (by decide) ?_
    refine g_iadd dX12_game_99 ?_
    refine g_aload_n 0 dX12_game_100 rfl rfl ?_
    refine g_iload 3 dX12_game_101 rfl ?_
    refine g_iconst (v := 1) dX12_game_103 (by decide) ?_
    refine g_iconst (v := 1) dX12_game_104 (by decide) ?_
    exact g_callV (As := [.int x5, .int (1 : Int32), .int (1 : Int32)]) (st := [.int (((4 : Int32) * x5) + (1 : Int32)), .ref 566]) dX12_game_105 clX12_457 sh535 rfl rfl (Nat.le_of_ble_eq_true rfl) (rmSH (by decide) (by decide)) (h2 q1)
theorem bX12_game_108 {X : pX} {Q : Option Value → pMem → Prop} {m : pMem} {x3 : Int32} {x4 : Int32} {x5 : Int32} {xs0 : Int32} {xs1 : Int32} {as2 : Nat} (hW : Wf m) (cs2 : SH[as2]? = some (.inr (.int, 2916)))
    (h1 : vp_in xs1 2916)
    (h2 : Cl X 4 mX12_bestIn [.ref 535, .int x5, .int (2 : Int32), .int (1 : Int32)] (uI m as2 xs1.toNatClampNeg xs0) (fun v m2 => Go X 5 mX12_game Q 127 [(0, .ref 535), (3, .int x3), (4, .int x4), (5, .int x5)] (v.toList ++ [.int (((4 : Int32) * x5) + (3 : Int32)), .ref 566]) m2)) :
    Go X 5 mX12_game Q 108 [(0, .ref 535), (3, .int x3), (4, .int x4), (5, .int x5)] [.int xs0, .int xs1, .ref as2] m := by
  refine g_iast (j := xs1.toNatClampNeg) dX12_game_108 cs2 h1 rfl ?_
  refine g_aload_n 0 dX12_game_109 rfl rfl ?_
  refine g_getR dX12_game_110 fl12_106 rfl sh535 (w12_44 hW sh535) ?_
  refine g_iconst (v := 4) dX12_game_113 (by decide) ?_
  refine g_iload 3 dX12_game_114 rfl ?_
  refine g_imul dX12_game_116 ?_
  refine g_iconst (v := 3) dX12_game_117 (by decide) ?_
  refine g_iadd dX12_game_118 ?_
  refine g_aload_n 0 dX12_game_119 rfl rfl ?_
  refine g_iload 3 dX12_game_120 rfl ?_
  refine g_iconst (v := 2) dX12_game_122 (by decide) ?_
  refine g_iconst (v := 1) dX12_game_123 (by decide) ?_
  exact g_callV (As := [.int x5, .int (2 : Int32), .int (1 : Int32)]) (st := [.int (((4 : Int32) * x5) + (3 : Int32)), .ref 566]) dX12_game_124 clX12_457 sh535 rfl rfl (Nat.le_of_ble_eq_true rfl) (rmSH (by decide) (by decide)) h2
theorem bX12_game_127 {X : pX} {Q : Option Value → pMem → Prop} {m : pMem} {x3 : Int32} {x4 : Int32} {x5 : Int32} {xs0 : Int32} {xs1 : Int32} {as2 : Nat} (hW : Wf m) (cs2 : SH[as2]? = some (.inr (.int, 2916)))
    (h1 : vp_in xs1 2916)
    (h2 : Cl X 4 mX12_bestIn [.ref 535, .int x5, .int (1 : Int32), .int (0 : Int32)] (uI m as2 xs1.toNatClampNeg xs0) (fun v m2 => Go X 5 mX12_game Q 144 [(0, .ref 535), (3, .int x3), (4, .int x4), (5, .int x5)] (v.toList ++ [.int ((4 : Int32) * x5), .ref 566]) m2)) :
    Go X 5 mX12_game Q 127 [(0, .ref 535), (3, .int x3), (4, .int x4), (5, .int x5)] [.int xs0, .int xs1, .ref as2] m := by
  refine g_iast (j := xs1.toNatClampNeg) dX12_game_127 cs2 h1 rfl ?_
  refine g_aload_n 0 dX12_game_128 rfl rfl ?_
  refine g_getR dX12_game_129 fl12_106 rfl sh535 (w12_44 hW sh535) ?_
  refine g_iconst (v := 4) dX12_game_132 (by decide) ?_
  refine g_iload 3 dX12_game_133 rfl ?_
  refine g_imul dX12_game_135 ?_
  refine g_aload_n 0 dX12_game_136 rfl rfl ?_
  refine g_iload 3 dX12_game_137 rfl ?_
  refine g_iconst (v := 1) dX12_game_139 (by decide) ?_
  refine g_iconst (v := 0) dX12_game_140 (by decide) ?_
  exact g_callV (As := [.int x5, .int (1 : Int32), .int (0 : Int32)]) (st := [.int ((4 : Int32) * x5), .ref 566]) dX12_game_141 clX12_457 sh535 rfl rfl (Nat.le_of_ble_eq_true rfl) (rmSH (by decide) (by decide)) h2
theorem bX12_game_144 {X : pX} {Q : Option Value → pMem → Prop} {m : pMem} {x3 : Int32} {x4 : Int32} {x5 : Int32} {xs0 : Int32} {xs1 : Int32} {as2 : Nat} (hW : Wf m) (cs2 : SH[as2]? = some (.inr (.int, 2916)))
    (h1 : vp_in xs1 2916)
    (h2 : Cl X 4 mX12_bestIn [.ref 535, .int x5, .int (2 : Int32), .int (0 : Int32)] (uI m as2 xs1.toNatClampNeg xs0) (fun v m2 => Go X 5 mX12_game Q 163 [(0, .ref 535), (3, .int x3), (4, .int x4), (5, .int x5)] (v.toList ++ [.int (((4 : Int32) * x5) + (2 : Int32)), .ref 566]) m2)) :
    Go X 5 mX12_game Q 144 [(0, .ref 535), (3, .int x3), (4, .int x4), (5, .int x5)] [.int xs0, .int xs1, .ref as2] m := by
  refine g_iast (j := xs1.toNatClampNeg) dX12_game_144 cs2 h1 rfl ?_
  refine g_aload_n 0 dX12_game_145 rfl rfl ?_
  refine g_getR dX12_game_146 fl12_106 rfl sh535 (w12_44 hW sh535) ?_
  refine g_iconst (v := 4) dX12_game_149 (by decide) ?_
  refine g_iload 3 dX12_game_150 rfl ?_
  refine g_imul dX12_game_152 ?_
  refine g_iconst (v := 2) dX12_game_153 (by decide) ?_
  refine g_iadd dX12_game_154 ?_
  refine g_aload_n 0 dX12_game_155 rfl rfl ?_
  refine g_iload 3 dX12_game_156 rfl ?_
  refine g_iconst (v := 2) dX12_game_158 (by decide) ?_
  refine g_iconst (v := 0) dX12_game_159 (by decide) ?_
  exact g_callV (As := [.int x5, .int (2 : Int32), .int (0 : Int32)]) (st := [.int (((4 : Int32) * x5) + (2 : Int32)), .ref 566]) dX12_game_160 clX12_457 sh535 rfl rfl (Nat.le_of_ble_eq_true rfl) (rmSH (by decide) (by decide)) h2
theorem bX12_game_163 {X : pX} {Q : Option Value → pMem → Prop} {m : pMem} {x3 : Int32} {x4 : Int32} {x5 : Int32} {xs0 : Int32} {xs1 : Int32} {as2 : Nat} (hW : Wf m) (cs2 : SH[as2]? = some (.inr (.int, 2916)))
    (h1 : vp_in xs1 2916)
    (h2 : Go X 5 mX12_game Q 62 [(0, .ref 535), (3, .int x3), (4, .int x4), (5, .int (x5 + (1 : Int32)))] [] (uI m as2 xs1.toNatClampNeg xs0)) :
    Go X 5 mX12_game Q 163 [(0, .ref 535), (3, .int x3), (4, .int x4), (5, .int x5)] [.int xs0, .int xs1, .ref as2] m := by
  refine g_iast (j := xs1.toNatClampNeg) dX12_game_163 cs2 h1 rfl ?_
  refine g_iinc (v := x5 + (1 : Int32)) (ls2 := [(5, .int (x5 + (1 : Int32))), (0, .ref 535), (3, .int x3), (4, .int x4)]) 3 dX12_game_164 rfl rfl (by decide) rfl ?_
  refine g_goto 62 dX12_game_167 (by decide) ?_
  exact g_ls [1, 2, 3, 0] rfl h2
