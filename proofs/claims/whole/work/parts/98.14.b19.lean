theorem bX3_bestExchange_0 {X : pX} {Q : Option Value → pMem → Prop} {m : pMem} {x1 : Int32} {x2 : Int32} (hW : Wf m)
    (h1 : dyOk (mI m 31 3) (mI m 33) x1 (mI m 38 x1.toNatClampNeg) (mI m 31 2))
    (h2 : dyOk (mI m 31 3) (mI m 33) x2 (mI m 38 x2.toNatClampNeg) (mI m 31 2))
    (h3 : Go X 4 mX3_bestExchange Q 34 [(0, .ref 514), (1, .int x1), (2, .int x2), (3, .int (tAt (mI m 40) x1 6)), (4, .int (tAt (mI m 40) x2 6)), (5, .int (-1 : Int32)), (6, .int (boD (mI m 32) (mI m 33) (mI m 34) (mI m 38) (mI m 40) (mI m 31 2) x1 x2 (-1 : Int32))), (7, .int (0 : Int32))] [] m) :
    Go X 4 mX3_bestExchange Q 0 [(0, .ref 514), (1, .int x1), (2, .int x2)] [] m := by
  refine g_aload_n 0 dX3_bestExchange_0 rfl rfl ?_
  refine g_getR dX3_bestExchange_1 fl3_15 rfl sh514 (w3_1 hW sh514) ?_
  refine g_iload_n 1 dX3_bestExchange_4 rfl rfl ?_
  refine g_callV (As := [.int x1]) (st := []) dX3_bestExchange_5 clX3_48 sh37 rfl rfl (Nat.le_of_ble_eq_true rfl) (rmSH (by decide) (by decide)) (s_hadBy hW sh37 ?_)
  show Go X 4 mX3_bestExchange Q 8 [(0, .ref 514), (1, .int x1), (2, .int x2)] [.int (tAt (mI m 40) x1 6)] m
  refine g_istore_n (ls2 := [(3, .int (tAt (mI m 40) x1 6)), (0, .ref 514), (1, .int x1), (2, .int x2)]) dX3_bestExchange_8 rfl (by decide) rfl ?_
  refine g_aload_n 1 dX3_bestExchange_9 rfl rfl ?_
  refine g_getR dX3_bestExchange_10 fl3_15 rfl sh514 (w3_1 hW sh514) ?_
  refine g_iload_n 3 dX3_bestExchange_13 rfl rfl ?_
  refine g_callV (As := [.int x2]) (st := []) dX3_bestExchange_14 clX3_48 sh37 rfl rfl (Nat.le_of_ble_eq_true rfl) (rmSH (by decide) (by decide)) (s_hadBy hW sh37 ?_)
  show Go X 4 mX3_bestExchange Q 17 [(3, .int (tAt (mI m 40) x1 6)), (0, .ref 514), (1, .int x1), (2, .int x2)] [.int (tAt (mI m 40) x2 6)] m
  refine g_istore (ls2 := [(4, .int (tAt (mI m 40) x2 6)), (3, .int (tAt (mI m 40) x1 6)), (0, .ref 514), (1, .int x1), (2, .int x2)]) dX3_bestExchange_17 (by decide) rfl ?_
  refine g_iconst (v := -1) dX3_bestExchange_19 (by decide) ?_
  refine g_istore (ls2 := [(5, .int (-1 : Int32)), (4, .int (tAt (mI m 40) x2 6)), (3, .int (tAt (mI m 40) x1 6)), (0, .ref 514), (1, .int x1), (2, .int x2)]) dX3_bestExchange_20 (by decide) rfl ?_
  refine g_aload_n 3 dX3_bestExchange_22 rfl rfl ?_
  refine g_iload_n 4 dX3_bestExchange_23 rfl rfl ?_
  refine g_iload_n 5 dX3_bestExchange_24 rfl rfl ?_
  refine g_iconst (v := -1) dX3_bestExchange_25 (by decide) ?_
  refine g_callV (As := [.int x1, .int x2, .int (-1 : Int32)]) (st := []) dX3_bestExchange_26 clX3_65 sh514 rfl rfl (Nat.le_of_ble_eq_true rfl) (rmSH (by decide) (by decide)) (s_ofBoth hW h1 h2 ?_)
  show Go X 4 mX3_bestExchange Q 29 [(5, .int (-1 : Int32)), (4, .int (tAt (mI m 40) x2 6)), (3, .int (tAt (mI m 40) x1 6)), (0, .ref 514), (1, .int x1), (2, .int x2)] [.int (boD (mI m 32) (mI m 33) (mI m 34) (mI m 38) (mI m 40) (mI m 31 2) x1 x2 (-1 : Int32))] m
  refine g_istore (ls2 := [(6, .int (boD (mI m 32) (mI m 33) (mI m 34) (mI m 38) (mI m 40) (mI m 31 2) x1 x2 (-1 : Int32))), (5, .int (-1 : Int32)), (4, .int (tAt (mI m 40) x2 6)), (3, .int (tAt (mI m 40) x1 6)), (0, .ref 514), (1, .int x1), (2, .int x2)]) dX3_bestExchange_29 (by decide) rfl ?_
  refine g_iconst (v := 0) dX3_bestExchange_31 (by decide) ?_
  refine g_istore (ls2 := [(7, .int (0 : Int32)), (6, .int (boD (mI m 32) (mI m 33) (mI m 34) (mI m 38) (mI m 40) (mI m 31 2) x1 x2 (-1 : Int32))), (5, .int (-1 : Int32)), (4, .int (tAt (mI m 40) x2 6)), (3, .int (tAt (mI m 40) x1 6)), (0, .ref 514), (1, .int x1), (2, .int x2)]) dX3_bestExchange_32 (by decide) rfl ?_
  exact g_ls [5, 6, 7, 4, 3, 2, 1, 0] rfl h3
theorem bX3_bestExchange_34 {X : pX} {Q : Option Value → pMem → Prop} {m : pMem} {x1 : Int32} {x2 : Int32} {x3 : Int32} {x4 : Int32} {x5 : Int32} {x6 : Int32} {x7 : Int32} (hW : Wf m)
    (h1 : (36 : Int32) ≤ x7 → Q (some (.int x5)) m)
    (h2 : ¬ ((36 : Int32) ≤ x7) → ¬ ((x3 >>> ((x7 / (6 : Int32)) &&& 31)) &&& (1 : Int32)) = (1 : Int32) → Go X 4 mX3_bestExchange Q 72 [(0, .ref 514), (1, .int x1), (2, .int x2), (3, .int x3), (4, .int x4), (5, .int x5), (6, .int x6), (7, .int x7)] [] m)
    (h3 : ¬ ((36 : Int32) ≤ x7) → ((x3 >>> ((x7 / (6 : Int32)) &&& 31)) &&& (1 : Int32)) = (1 : Int32) → ¬ ((x4 >>> ((x7 - x7 / (6 : Int32) * (6 : Int32)) &&& 31)) &&& (1 : Int32)) = (1 : Int32) → Go X 4 mX3_bestExchange Q 72 [(0, .ref 514), (1, .int x1), (2, .int x2), (3, .int x3), (4, .int x4), (5, .int x5), (6, .int x6), (7, .int x7)] [] m)
    (h4 : ¬ ((36 : Int32) ≤ x7) → ((x3 >>> ((x7 / (6 : Int32)) &&& 31)) &&& (1 : Int32)) = (1 : Int32) → ((x4 >>> ((x7 - x7 / (6 : Int32) * (6 : Int32)) &&& 31)) &&& (1 : Int32)) = (1 : Int32) → Go X 4 mX3_bestExchange Q 73 [(0, .ref 514), (1, .int x1), (2, .int x2), (3, .int x3), (4, .int x4), (5, .int x5), (6, .int x6), (7, .int x7)] [.int (1 : Int32)] m) :
    Go X 4 mX3_bestExchange Q 34 [(0, .ref 514), (1, .int x1), (2, .int x2), (3, .int x3), (4, .int x4), (5, .int x5), (6, .int x6), (7, .int x7)] [] m := by
  refine g_iload 7 dX3_bestExchange_34 rfl ?_
  refine g_bipush (v := 36) dX3_bestExchange_36 (by decide) ?_
  refine g_icmp_ge 111 dX3_bestExchange_38 (by decide) (fun q1 => ?_) (fun q1 => ?_)
  · refine g_iload 5 dX3_bestExchange_111 rfl ?_
    exact g_iret dX3_bestExchange_113 rfl enSH (h1 q1)
  · refine g_iload_n 3 dX3_bestExchange_41 rfl rfl ?_
    refine g_iload 7 dX3_bestExchange_42 rfl ?_
    refine g_bipush (v := 6) dX3_bestExchange_44 (by decide) ?_
    refine g_idiv dX3_bestExchange_46 (by decide) ?_
    refine g_ishr dX3_bestExchange_47 ?_
    refine g_iconst (v := 1) dX3_bestExchange_48 (by decide) ?_
    refine g_iand dX3_bestExchange_49 ?_
    refine g_iconst (v := 1) dX3_bestExchange_50 (by decide) ?_
    refine g_icmp_ne 72 dX3_bestExchange_51 (by decide) (fun q2 => ?_) (fun q2 => ?_)
    · exact g_ls [0, 1, 2, 3, 4, 5, 6, 7] rfl (h2 q1 q2)
    · refine g_iload 4 dX3_bestExchange_54 rfl ?_
      refine g_iload 7 dX3_bestExchange_56 rfl ?_
      refine g_bipush (v := 6) dX3_bestExchange_58 (by decide) ?_
      refine g_irem dX3_bestExchange_60 (by decide) ?_
      refine g_ishr dX3_bestExchange_61 ?_
      refine g_iconst (v := 1) dX3_bestExchange_62 (by decide) ?_
      refine g_iand dX3_bestExchange_63 ?_
      refine g_iconst (v := 1) dX3_bestExchange_64 (by decide) ?_
      refine g_icmp_ne 72 dX3_bestExchange_65 (by decide) (fun q3 => ?_) (fun q3 => ?_)
      · exact g_ls [0, 1, 2, 3, 4, 5, 6, 7] rfl (h3 q1 q2 q3)
      · refine g_iconst (v := 1) dX3_bestExchange_68 (by decide) ?_
        refine g_goto 73 dX3_bestExchange_69 (by decide) ?_
        exact g_ls [0, 1, 2, 3, 4, 5, 6, 7] rfl (h4 q1 q2 q3)
theorem bX3_bestExchange_72 {X : pX} {Q : Option Value → pMem → Prop} {m : pMem} {x1 : Int32} {x2 : Int32} {x3 : Int32} {x4 : Int32} {x5 : Int32} {x6 : Int32} {x7 : Int32} (hW : Wf m)
    (h1 : Go X 4 mX3_bestExchange Q 73 [(0, .ref 514), (1, .int x1), (2, .int x2), (3, .int x3), (4, .int x4), (5, .int x5), (6, .int x6), (7, .int x7)] [.int (0 : Int32)] m) :
    Go X 4 mX3_bestExchange Q 72 [(0, .ref 514), (1, .int x1), (2, .int x2), (3, .int x3), (4, .int x4), (5, .int x5), (6, .int x6), (7, .int x7)] [] m := by
  refine g_iconst (v := 0) dX3_bestExchange_72 (by decide) ?_
  exact g_ls [0, 1, 2, 3, 4, 5, 6, 7] rfl h1
theorem bX3_bestExchange_73 {X : pX} {Q : Option Value → pMem → Prop} {m : pMem} {x1 : Int32} {x2 : Int32} {x3 : Int32} {x4 : Int32} {x5 : Int32} {x6 : Int32} {x7 : Int32} (hW : Wf m)
    (h1 : dyOk (mI m 31 3) (mI m 33) x1 (mI m 38 x1.toNatClampNeg) (mI m 31 2))
    (h2 : dyOk (mI m 31 3) (mI m 33) x2 (mI m 38 x2.toNatClampNeg) (mI m 31 2))
    (h3 : x6 ≤ (boD (mI m 32) (mI m 33) (mI m 34) (mI m 38) (mI m 40) (mI m 31 2) x1 x2 x7) → Go X 4 mX3_bestExchange Q 34 [(0, .ref 514), (1, .int x1), (2, .int x2), (3, .int x3), (4, .int x4), (5, .int x5), (6, .int x6), (7, .int (x7 + (1 : Int32)))] [] m)
    (h4 : ¬ (x6 ≤ (boD (mI m 32) (mI m 33) (mI m 34) (mI m 38) (mI m 40) (mI m 31 2) x1 x2 x7)) → Go X 4 mX3_bestExchange Q 34 [(0, .ref 514), (1, .int x1), (2, .int x2), (3, .int x3), (4, .int x4), (5, .int x7), (6, .int (boD (mI m 32) (mI m 33) (mI m 34) (mI m 38) (mI m 40) (mI m 31 2) x1 x2 x7)), (7, .int (x7 + (1 : Int32)))] [] m) :
    Go X 4 mX3_bestExchange Q 73 [(0, .ref 514), (1, .int x1), (2, .int x2), (3, .int x3), (4, .int x4), (5, .int x5), (6, .int x6), (7, .int x7)] [.int (1 : Int32)] m := by
  refine g_istore (ls2 := [(8, .int (1 : Int32)), (0, .ref 514), (1, .int x1), (2, .int x2), (3, .int x3), (4, .int x4), (5, .int x5), (6, .int x6), (7, .int x7)]) dX3_bestExchange_73 (by decide) rfl ?_
  refine g_iload 0 dX3_bestExchange_75 rfl ?_
  refine g_if_eq 105 dX3_bestExchange_77 (by decide) (fun q1 => absurd q1 (by decide)) (fun q1 => ?_)
  refine g_aload_n 1 dX3_bestExchange_80 rfl rfl ?_
  refine g_iload_n 2 dX3_bestExchange_81 rfl rfl ?_
  refine g_iload_n 3 dX3_bestExchange_82 rfl rfl ?_
  refine g_iload 8 dX3_bestExchange_83 rfl ?_
  refine g_callV (As := [.int x1, .int x2, .int x7]) (st := []) dX3_bestExchange_85 clX3_65 sh514 rfl rfl (Nat.le_of_ble_eq_true rfl) (rmSH (by decide) (by decide)) (s_ofBoth hW h1 h2 ?_)
  show Go X 4 mX3_bestExchange Q 88 [(8, .int (1 : Int32)), (0, .ref 514), (1, .int x1), (2, .int x2), (3, .int x3), (4, .int x4), (5, .int x5), (6, .int x6), (7, .int x7)] [.int (boD (mI m 32) (mI m 33) (mI m 34) (mI m 38) (mI m 40) (mI m 31 2) x1 x2 x7)] m
  refine g_istore (ls2 := [(9, .int (boD (mI m 32) (mI m 33) (mI m 34) (mI m 38) (mI m 40) (mI m 31 2) x1 x2 x7)), (8, .int (1 : Int32)), (0, .ref 514), (1, .int x1), (2, .int x2), (3, .int x3), (4, .int x4), (5, .int x5), (6, .int x6), (7, .int x7)]) dX3_bestExchange_88 (by decide) rfl ?_
  refine g_iload 0 dX3_bestExchange_90 rfl ?_
  refine g_iload 8 dX3_bestExchange_92 rfl ?_
  refine g_icmp_ge 105 dX3_bestExchange_94 (by decide) (fun q2 => ?_) (fun q2 => ?_)
  · refine g_iinc (v := x7 + (1 : Int32)) (ls2 := [(7, .int (x7 + (1 : Int32))), (9, .int (boD (mI m 32) (mI m 33) (mI m 34) (mI m 38) (mI m 40) (mI m 31 2) x1 x2 x7)), (8, .int (1 : Int32)), (0, .ref 514), (1, .int x1), (2, .int x2), (3, .int x3), (4, .int x4), (5, .int x5), (6, .int x6)]) 9 dX3_bestExchange_105 rfl rfl (by decide) rfl ?_
    refine g_goto 34 dX3_bestExchange_108 (by decide) ?_
    exact g_ls [3, 4, 5, 6, 7, 8, 9, 0] rfl (h3 q2)
  · refine g_iload 9 dX3_bestExchange_97 rfl ?_
    refine g_istore (ls2 := [(5, .int x7), (9, .int (boD (mI m 32) (mI m 33) (mI m 34) (mI m 38) (mI m 40) (mI m 31 2) x1 x2 x7)), (8, .int (1 : Int32)), (0, .ref 514), (1, .int x1), (2, .int x2), (3, .int x3), (4, .int x4), (6, .int x6), (7, .int x7)]) dX3_bestExchange_99 (by decide) rfl ?_
    refine g_iload 1 dX3_bestExchange_101 rfl ?_
    refine g_istore (ls2 := [(6, .int (boD (mI m 32) (mI m 33) (mI m 34) (mI m 38) (mI m 40) (mI m 31 2) x1 x2 x7)), (5, .int x7), (9, .int (boD (mI m 32) (mI m 33) (mI m 34) (mI m 38) (mI m 40) (mI m 31 2) x1 x2 x7)), (8, .int (1 : Int32)), (0, .ref 514), (1, .int x1), (2, .int x2), (3, .int x3), (4, .int x4), (7, .int x7)]) dX3_bestExchange_103 (by decide) rfl ?_
    refine g_iinc (v := x7 + (1 : Int32)) (ls2 := [(7, .int (x7 + (1 : Int32))), (6, .int (boD (mI m 32) (mI m 33) (mI m 34) (mI m 38) (mI m 40) (mI m 31 2) x1 x2 x7)), (5, .int x7), (9, .int (boD (mI m 32) (mI m 33) (mI m 34) (mI m 38) (mI m 40) (mI m 31 2) x1 x2 x7)), (8, .int (1 : Int32)), (0, .ref 514), (1, .int x1), (2, .int x2), (3, .int x3), (4, .int x4)]) 9 dX3_bestExchange_105 rfl rfl (by decide) rfl ?_
    refine g_goto 34 dX3_bestExchange_108 (by decide) ?_
    exact g_ls [5, 6, 7, 8, 9, 2, 1, 0] rfl (h4 q2)
theorem bX3_bestExchange_73v1 {X : pX} {Q : Option Value → pMem → Prop} {m : pMem} {x1 : Int32} {x2 : Int32} {x3 : Int32} {x4 : Int32} {x5 : Int32} {x6 : Int32} {x7 : Int32} (hW : Wf m)
    (h1 : Go X 4 mX3_bestExchange Q 34 [(0, .ref 514), (1, .int x1), (2, .int x2), (3, .int x3), (4, .int x4), (5, .int x5), (6, .int x6), (7, .int (x7 + (1 : Int32)))] [] m) :
    Go X 4 mX3_bestExchange Q 73 [(0, .ref 514), (1, .int x1), (2, .int x2), (3, .int x3), (4, .int x4), (5, .int x5), (6, .int x6), (7, .int x7)] [.int (0 : Int32)] m := by
  refine g_istore (ls2 := [(8, .int (0 : Int32)), (0, .ref 514), (1, .int x1), (2, .int x2), (3, .int x3), (4, .int x4), (5, .int x5), (6, .int x6), (7, .int x7)]) dX3_bestExchange_73 (by decide) rfl ?_
  refine g_iload 0 dX3_bestExchange_75 rfl ?_
  refine g_if_eq 105 dX3_bestExchange_77 (by decide) (fun q1 => ?_) (fun q1 => absurd q1 (by decide))
  refine g_iinc (v := x7 + (1 : Int32)) (ls2 := [(7, .int (x7 + (1 : Int32))), (8, .int (0 : Int32)), (0, .ref 514), (1, .int x1), (2, .int x2), (3, .int x3), (4, .int x4), (5, .int x5), (6, .int x6)]) 8 dX3_bestExchange_105 rfl rfl (by decide) rfl ?_
  refine g_goto 34 dX3_bestExchange_108 (by decide) ?_
  exact g_ls [2, 3, 4, 5, 6, 7, 8, 0] rfl h1
theorem bX3_penceOf_0 {X : pX} {Q : Option Value → pMem → Prop} {m : pMem} {x1 : Int32} {x2 : Int32} (hW : Wf m)
    (h1 : Go X 3 mX3_penceOf Q 5 [(0, .ref 514), (1, .int x1), (2, .int x2), (3, .int (0 : Int32)), (4, .int (0 : Int32))] [] m) :
    Go X 3 mX3_penceOf Q 0 [(0, .ref 514), (1, .int x1), (2, .int x2)] [] m := by
  refine g_iconst (v := 0) dX3_penceOf_0 (by decide) ?_
  refine g_istore_n (ls2 := [(3, .int (0 : Int32)), (0, .ref 514), (1, .int x1), (2, .int x2)]) dX3_penceOf_1 rfl (by decide) rfl ?_
  refine g_iconst (v := 0) dX3_penceOf_2 (by decide) ?_
  refine g_istore (ls2 := [(4, .int (0 : Int32)), (3, .int (0 : Int32)), (0, .ref 514), (1, .int x1), (2, .int x2)]) dX3_penceOf_3 (by decide) rfl ?_
  exact g_ls [2, 3, 4, 1, 0] rfl h1
theorem bX3_penceOf_5 {X : pX} {Q : Option Value → pMem → Prop} {m : pMem} {x1 : Int32} {x2 : Int32} {x3 : Int32} {x4 : Int32} (hW : Wf m)
    (h1 : (mI m 31 3) ≤ x4 → ¬ x3 = 0 → ¬ x3 = 0)
    (h2 : (mI m 31 3) ≤ x4 → ¬ x3 = 0 → Go X 3 mX3_penceOf Q 58 [(0, .ref 514), (1, .int x1), (2, .int x2), (3, .int x3), (4, .int x1), (5, .int (0 : Int32)), (6, .int ((x1 * (wSum (mI m 35) (tAt (mI m 40) x2 6) 6)) - (x1 * (wSum (mI m 35) (tAt (mI m 40) x2 6) 6)) / x3 * x3)), (7, .int (0 : Int32))] [] m)
    (h3 : (mI m 31 3) ≤ x4 → x3 = 0 → Q (some (.int (0 : Int32))) m)
    (h4 : ¬ ((mI m 31 3) ≤ x4) → Go X 3 mX3_penceOf Q 5 [(0, .ref 514), (1, .int x1), (2, .int x2), (3, .int (x3 + (wSum (mI m 35) (tAt (mI m 40) x4 6) 6))), (4, .int (x4 + (1 : Int32)))] [] m) :
    Go X 3 mX3_penceOf Q 5 [(0, .ref 514), (1, .int x1), (2, .int x2), (3, .int x3), (4, .int x4)] [] m := by
  refine g_iload 4 dX3_penceOf_5 rfl ?_
  refine g_aload_n 0 dX3_penceOf_7 rfl rfl ?_
  refine g_getR dX3_penceOf_8 fl3_9 rfl sh514 (w3_0 hW sh514) ?_
  refine g_getI dX3_penceOf_11 fl3_69 sh31 ?_
  refine g_icmp_ge 32 dX3_penceOf_14 (by decide) (fun q1 => ?_) (fun q1 => ?_)
  · refine g_iload_n 3 dX3_penceOf_32 rfl rfl ?_
    refine g_if_ne 38 dX3_penceOf_33 (by decide) (fun q2 => ?_) (fun q2 => ?_)
    · refine g_iload_n 1 dX3_penceOf_38 rfl rfl ?_
      refine g_istore (ls2 := [(4, .int x1), (0, .ref 514), (1, .int x1), (2, .int x2), (3, .int x3)]) dX3_penceOf_39 (by decide) rfl ?_
      refine g_iconst (v := 0) dX3_penceOf_41 (by decide) ?_
      refine g_istore (ls2 := [(5, .int (0 : Int32)), (4, .int x1), (0, .ref 514), (1, .int x1), (2, .int x2), (3, .int x3)]) dX3_penceOf_42 (by decide) rfl ?_
      refine g_iload_n 3 dX3_penceOf_44 rfl rfl ?_
      refine g_aload_n 2 dX3_penceOf_45 rfl rfl ?_
      refine g_iload_n 4 dX3_penceOf_46 rfl rfl ?_
      refine g_callV (As := [.int x2]) (st := [.int x1]) dX3_penceOf_47 clX3_72 sh514 rfl rfl (Nat.le_of_ble_eq_true rfl) (rmSH (by decide) (by decide)) (s_worthBy hW ?_)
      show Go X 3 mX3_penceOf Q 50 [(5, .int (0 : Int32)), (4, .int x1), (0, .ref 514), (1, .int x1), (2, .int x2), (3, .int x3)] [.int (wSum (mI m 35) (tAt (mI m 40) x2 6) 6), .int x1] m
      refine g_imul dX3_penceOf_50 ?_
      refine g_iload_n 5 dX3_penceOf_51 rfl rfl ?_
      refine g_irem dX3_penceOf_52 (h1 q1 q2) ?_
      refine g_istore (ls2 := [(6, .int ((x1 * (wSum (mI m 35) (tAt (mI m 40) x2 6) 6)) - (x1 * (wSum (mI m 35) (tAt (mI m 40) x2 6) 6)) / x3 * x3)), (5, .int (0 : Int32)), (4, .int x1), (0, .ref 514), (1, .int x1), (2, .int x2), (3, .int x3)]) dX3_penceOf_53 (by decide) rfl ?_
      refine g_iconst (v := 0) dX3_penceOf_55 (by decide) ?_
      refine g_istore (ls2 := [(7, .int (0 : Int32)), (6, .int ((x1 * (wSum (mI m 35) (tAt (mI m 40) x2 6) 6)) - (x1 * (wSum (mI m 35) (tAt (mI m 40) x2 6) 6)) / x3 * x3)), (5, .int (0 : Int32)), (4, .int x1), (0, .ref 514), (1, .int x1), (2, .int x2), (3, .int x3)]) dX3_penceOf_56 (by decide) rfl ?_
      exact g_ls [4, 5, 6, 7, 3, 2, 1, 0] rfl (h2 q1 q2)
    · refine g_iconst (v := 0) dX3_penceOf_36 (by decide) ?_
      exact g_iret dX3_penceOf_37 rfl enSH (h3 q1 q2)
  · refine g_iload_n 3 dX3_penceOf_17 rfl rfl ?_
    refine g_aload_n 0 dX3_penceOf_18 rfl rfl ?_
    refine g_iload 4 dX3_penceOf_19 rfl ?_
    refine g_callV (As := [.int x4]) (st := [.int x3]) dX3_penceOf_21 clX3_72 sh514 rfl rfl (Nat.le_of_ble_eq_true rfl) (rmSH (by decide) (by decide)) (s_worthBy hW ?_)
    show Go X 3 mX3_penceOf Q 24 [(0, .ref 514), (1, .int x1), (2, .int x2), (3, .int x3), (4, .int x4)] [.int (wSum (mI m 35) (tAt (mI m 40) x4 6) 6), .int x3] m
    refine g_iadd dX3_penceOf_24 ?_
    refine g_istore_n (ls2 := [(3, .int (x3 + (wSum (mI m 35) (tAt (mI m 40) x4 6) 6))), (0, .ref 514), (1, .int x1), (2, .int x2), (4, .int x4)]) dX3_penceOf_25 rfl (by decide) rfl ?_
    refine g_iinc (v := x4 + (1 : Int32)) (ls2 := [(4, .int (x4 + (1 : Int32))), (3, .int (x3 + (wSum (mI m 35) (tAt (mI m 40) x4 6) 6))), (0, .ref 514), (1, .int x1), (2, .int x2)]) 4 dX3_penceOf_26 rfl rfl (by decide) rfl ?_
    refine g_goto 5 dX3_penceOf_29 (by decide) ?_
    exact g_ls [2, 3, 4, 1, 0] rfl (h4 q1)
theorem bX3_penceOf_58 {X : pX} {Q : Option Value → pMem → Prop} {m : pMem} {x1 : Int32} {x2 : Int32} {x3 : Int32} {x4 : Int32} {x5 : Int32} {x6 : Int32} {x7 : Int32} (hW : Wf m)
    (h1 : (mI m 31 3) ≤ x7 → ¬ x3 = 0)
    (h2 : (mI m 31 3) ≤ x7 → x4 ≤ x5 → Q (some (.int (((x1 * (wSum (mI m 35) (tAt (mI m 40) x2 6) 6)) / x3) + (0 : Int32)))) m)
    (h3 : (mI m 31 3) ≤ x7 → ¬ (x4 ≤ x5) → Q (some (.int (((x1 * (wSum (mI m 35) (tAt (mI m 40) x2 6) 6)) / x3) + (1 : Int32)))) m)
    (h4 : ¬ ((mI m 31 3) ≤ x7) → ¬ x3 = 0)
    (h5 : ¬ ((mI m 31 3) ≤ x7) → x6 < ((x1 * (wSum (mI m 35) (tAt (mI m 40) x7 6) 6)) - (x1 * (wSum (mI m 35) (tAt (mI m 40) x7 6) 6)) / x3 * x3) → Go X 3 mX3_penceOf Q 58 [(0, .ref 514), (1, .int x1), (2, .int x2), (3, .int x3), (4, .int (x4 - ((x1 * (wSum (mI m 35) (tAt (mI m 40) x7 6) 6)) / x3))), (5, .int (x5 + (1 : Int32))), (6, .int x6), (7, .int (x7 + (1 : Int32)))] [] m)
    (h6 : ¬ ((mI m 31 3) ≤ x7) → ¬ (x6 < ((x1 * (wSum (mI m 35) (tAt (mI m 40) x7 6) 6)) - (x1 * (wSum (mI m 35) (tAt (mI m 40) x7 6) 6)) / x3 * x3)) → ¬ ((x1 * (wSum (mI m 35) (tAt (mI m 40) x7 6) 6)) - (x1 * (wSum (mI m 35) (tAt (mI m 40) x7 6) 6)) / x3 * x3) = x6 → Go X 3 mX3_penceOf Q 58 [(0, .ref 514), (1, .int x1), (2, .int x2), (3, .int x3), (4, .int (x4 - ((x1 * (wSum (mI m 35) (tAt (mI m 40) x7 6) 6)) / x3))), (5, .int x5), (6, .int x6), (7, .int (x7 + (1 : Int32)))] [] m)
    (h7 : ¬ ((mI m 31 3) ≤ x7) → ¬ (x6 < ((x1 * (wSum (mI m 35) (tAt (mI m 40) x7 6) 6)) - (x1 * (wSum (mI m 35) (tAt (mI m 40) x7 6) 6)) / x3 * x3)) → ((x1 * (wSum (mI m 35) (tAt (mI m 40) x7 6) 6)) - (x1 * (wSum (mI m 35) (tAt (mI m 40) x7 6) 6)) / x3 * x3) = x6 → x2 ≤ x7 → Go X 3 mX3_penceOf Q 58 [(0, .ref 514), (1, .int x1), (2, .int x2), (3, .int x3), (4, .int (x4 - ((x1 * (wSum (mI m 35) (tAt (mI m 40) x7 6) 6)) / x3))), (5, .int x5), (6, .int x6), (7, .int (x7 + (1 : Int32)))] [] m)
    (h8 : ¬ ((mI m 31 3) ≤ x7) → ¬ (x6 < ((x1 * (wSum (mI m 35) (tAt (mI m 40) x7 6) 6)) - (x1 * (wSum (mI m 35) (tAt (mI m 40) x7 6) 6)) / x3 * x3)) → ((x1 * (wSum (mI m 35) (tAt (mI m 40) x7 6) 6)) - (x1 * (wSum (mI m 35) (tAt (mI m 40) x7 6) 6)) / x3 * x3) = x6 → ¬ (x2 ≤ x7) → Go X 3 mX3_penceOf Q 58 [(0, .ref 514), (1, .int x1), (2, .int x2), (3, .int x3), (4, .int (x4 - ((x1 * (wSum (mI m 35) (tAt (mI m 40) x7 6) 6)) / x3))), (5, .int (x5 + (1 : Int32))), (6, .int x6), (7, .int (x7 + (1 : Int32)))] [] m) :
    Go X 3 mX3_penceOf Q 58 [(0, .ref 514), (1, .int x1), (2, .int x2), (3, .int x3), (4, .int x4), (5, .int x5), (6, .int x6), (7, .int x7)] [] m := by
  refine g_iload 7 dX3_penceOf_58 rfl ?_
  refine g_aload_n 0 dX3_penceOf_60 rfl rfl ?_
  refine g_getR dX3_penceOf_61 fl3_9 rfl sh514 (w3_0 hW sh514) ?_
  refine g_getI dX3_penceOf_64 fl3_69 sh31 ?_
  refine g_icmp_ge 124 dX3_penceOf_67 (by decide) (fun q1 => ?_) (fun q1 => ?_)
  · refine g_iload_n 1 dX3_penceOf_124 rfl rfl ?_
    refine g_aload_n 0 dX3_penceOf_125 rfl rfl ?_
    refine g_iload_n 2 dX3_penceOf_126 rfl rfl ?_
    refine g_callV (As := [.int x2]) (st := [.int x1]) dX3_penceOf_127 clX3_72 sh514 rfl rfl (Nat.le_of_ble_eq_true rfl) (rmSH (by decide) (by decide)) (s_worthBy hW ?_)
    show Go X 3 mX3_penceOf Q 130 [(0, .ref 514), (1, .int x1), (2, .int x2), (3, .int x3), (4, .int x4), (5, .int x5), (6, .int x6), (7, .int x7)] [.int (wSum (mI m 35) (tAt (mI m 40) x2 6) 6), .int x1] m
    refine g_imul dX3_penceOf_130 ?_
    refine g_iload_n 3 dX3_penceOf_131 rfl rfl ?_
    refine g_idiv dX3_penceOf_132 (h1 q1) ?_
    refine g_iload 5 dX3_penceOf_133 rfl ?_
    refine g_iload 4 dX3_penceOf_135 rfl ?_
    refine g_icmp_ge 144 dX3_penceOf_137 (by decide) (fun q2 => ?_) (fun q2 => ?_)
    · refine g_iconst (v := 0) dX3_penceOf_144 (by decide) ?_
      refine g_iadd dX3_penceOf_145 ?_
      exact g_iret dX3_penceOf_146 rfl enSH (h2 q1 q2)
    · refine g_iconst (v := 1) dX3_penceOf_140 (by decide) ?_
      refine g_goto 145 dX3_penceOf_141 (by decide) ?_
      refine g_iadd dX3_penceOf_145 ?_
      exact g_iret dX3_penceOf_146 rfl enSH (h3 q1 q2)
  · refine g_iload_n 1 dX3_penceOf_70 rfl rfl ?_
    refine g_aload_n 0 dX3_penceOf_71 rfl rfl ?_
    refine g_iload 7 dX3_penceOf_72 rfl ?_
    refine g_callV (As := [.int x7]) (st := [.int x1]) dX3_penceOf_74 clX3_72 sh514 rfl rfl (Nat.le_of_ble_eq_true rfl) (rmSH (by decide) (by decide)) (s_worthBy hW ?_)
    show Go X 3 mX3_penceOf Q 77 [(0, .ref 514), (1, .int x1), (2, .int x2), (3, .int x3), (4, .int x4), (5, .int x5), (6, .int x6), (7, .int x7)] [.int (wSum (mI m 35) (tAt (mI m 40) x7 6) 6), .int x1] m
    refine g_imul dX3_penceOf_77 ?_
    refine g_istore (ls2 := [(8, .int (x1 * (wSum (mI m 35) (tAt (mI m 40) x7 6) 6))), (0, .ref 514), (1, .int x1), (2, .int x2), (3, .int x3), (4, .int x4), (5, .int x5), (6, .int x6), (7, .int x7)]) dX3_penceOf_78 (by decide) rfl ?_
    refine g_iload 5 dX3_penceOf_80 rfl ?_
    refine g_iload 0 dX3_penceOf_82 rfl ?_
    refine g_iload_n 4 dX3_penceOf_84 rfl rfl ?_
    refine g_idiv dX3_penceOf_85 (h4 q1) ?_
    refine g_isub dX3_penceOf_86 ?_
    refine g_istore (ls2 := [(4, .int (x4 - ((x1 * (wSum (mI m 35) (tAt (mI m 40) x7 6) 6)) / x3))), (8, .int (x1 * (wSum (mI m 35) (tAt (mI m 40) x7 6) 6))), (0, .ref 514), (1, .int x1), (2, .int x2), (3, .int x3), (5, .int x5), (6, .int x6), (7, .int x7)]) dX3_penceOf_87 (by decide) rfl ?_
    refine g_iload 1 dX3_penceOf_89 rfl ?_
    refine g_iload_n 5 dX3_penceOf_91 rfl rfl ?_
    refine g_irem dX3_penceOf_92 (h4 q1) ?_
    refine g_istore (ls2 := [(9, .int ((x1 * (wSum (mI m 35) (tAt (mI m 40) x7 6) 6)) - (x1 * (wSum (mI m 35) (tAt (mI m 40) x7 6) 6)) / x3 * x3)), (4, .int (x4 - ((x1 * (wSum (mI m 35) (tAt (mI m 40) x7 6) 6)) / x3))), (8, .int (x1 * (wSum (mI m 35) (tAt (mI m 40) x7 6) 6))), (0, .ref 514), (1, .int x1), (2, .int x2), (3, .int x3), (5, .int x5), (6, .int x6), (7, .int x7)]) dX3_penceOf_93 (by decide) rfl ?_
    refine g_iload 0 dX3_penceOf_95 rfl ?_
    refine g_iload 8 dX3_penceOf_97 rfl ?_
    refine g_icmp_gt 115 dX3_penceOf_99 (by decide) (fun q3 => ?_) (fun q3 => ?_)
    · refine g_iinc (v := x5 + (1 : Int32)) (ls2 := [(5, .int (x5 + (1 : Int32))), (9, .int ((x1 * (wSum (mI m 35) (tAt (mI m 40) x7 6) 6)) - (x1 * (wSum (mI m 35) (tAt (mI m 40) x7 6) 6)) / x3 * x3)), (4, .int (x4 - ((x1 * (wSum (mI m 35) (tAt (mI m 40) x7 6) 6)) / x3))), (8, .int (x1 * (wSum (mI m 35) (tAt (mI m 40) x7 6) 6))), (0, .ref 514), (1, .int x1), (2, .int x2), (3, .int x3), (6, .int x6), (7, .int x7)]) 7 dX3_penceOf_115 rfl rfl (by decide) rfl ?_
      refine g_iinc (v := x7 + (1 : Int32)) (ls2 := [(7, .int (x7 + (1 : Int32))), (5, .int (x5 + (1 : Int32))), (9, .int ((x1 * (wSum (mI m 35) (tAt (mI m 40) x7 6) 6)) - (x1 * (wSum (mI m 35) (tAt (mI m 40) x7 6) 6)) / x3 * x3)), (4, .int (x4 - ((x1 * (wSum (mI m 35) (tAt (mI m 40) x7 6) 6)) / x3))), (8, .int (x1 * (wSum (mI m 35) (tAt (mI m 40) x7 6) 6))), (0, .ref 514), (1, .int x1), (2, .int x2), (3, .int x3), (6, .int x6)]) 9 dX3_penceOf_118 rfl rfl (by decide) rfl ?_
      refine g_goto 58 dX3_penceOf_121 (by decide) ?_
      exact g_ls [5, 6, 7, 8, 3, 1, 9, 0] rfl (h5 q1 q3)
    · refine g_iload 0 dX3_penceOf_102 rfl ?_
      refine g_iload 8 dX3_penceOf_104 rfl ?_
      refine g_icmp_ne 118 dX3_penceOf_106 (by decide) (fun q4 => ?_) (fun q4 => ?_)
      · refine g_iinc (v := x7 + (1 : Int32)) (ls2 := [(7, .int (x7 + (1 : Int32))), (9, .int ((x1 * (wSum (mI m 35) (tAt (mI m 40) x7 6) 6)) - (x1 * (wSum (mI m 35) (tAt (mI m 40) x7 6) 6)) / x3 * x3)), (4, .int (x4 - ((x1 * (wSum (mI m 35) (tAt (mI m 40) x7 6) 6)) / x3))), (8, .int (x1 * (wSum (mI m 35) (tAt (mI m 40) x7 6) 6))), (0, .ref 514), (1, .int x1), (2, .int x2), (3, .int x3), (5, .int x5), (6, .int x6)]) 9 dX3_penceOf_118 rfl rfl (by decide) rfl ?_
        refine g_goto 58 dX3_penceOf_121 (by decide) ?_
        exact g_ls [4, 5, 6, 7, 2, 8, 9, 0] rfl (h6 q1 q3 q4)
      · refine g_iload 9 dX3_penceOf_109 rfl ?_
        refine g_iload_n 5 dX3_penceOf_111 rfl rfl ?_
        refine g_icmp_ge 118 dX3_penceOf_112 (by decide) (fun q5 => ?_) (fun q5 => ?_)
        · refine g_iinc (v := x7 + (1 : Int32)) (ls2 := [(7, .int (x7 + (1 : Int32))), (9, .int ((x1 * (wSum (mI m 35) (tAt (mI m 40) x7 6) 6)) - (x1 * (wSum (mI m 35) (tAt (mI m 40) x7 6) 6)) / x3 * x3)), (4, .int (x4 - ((x1 * (wSum (mI m 35) (tAt (mI m 40) x7 6) 6)) / x3))), (8, .int (x1 * (wSum (mI m 35) (tAt (mI m 40) x7 6) 6))), (0, .ref 514), (1, .int x1), (2, .int x2), (3, .int x3), (5, .int x5), (6, .int x6)]) 9 dX3_penceOf_118 rfl rfl (by decide) rfl ?_
          refine g_goto 58 dX3_penceOf_121 (by decide) ?_
          exact g_ls [4, 5, 6, 7, 2, 8, 9, 0] rfl (h7 q1 q3 q4 q5)
        · refine g_iinc (v := x5 + (1 : Int32)) (ls2 := [(5, .int (x5 + (1 : Int32))), (9, .int ((x1 * (wSum (mI m 35) (tAt (mI m 40) x7 6) 6)) - (x1 * (wSum (mI m 35) (tAt (mI m 40) x7 6) 6)) / x3 * x3)), (4, .int (x4 - ((x1 * (wSum (mI m 35) (tAt (mI m 40) x7 6) 6)) / x3))), (8, .int (x1 * (wSum (mI m 35) (tAt (mI m 40) x7 6) 6))), (0, .ref 514), (1, .int x1), (2, .int x2), (3, .int x3), (6, .int x6), (7, .int x7)]) 7 dX3_penceOf_115 rfl rfl (by decide) rfl ?_
          refine g_iinc (v := x7 + (1 : Int32)) (ls2 := [(7, .int (x7 + (1 : Int32))), (5, .int (x5 + (1 : Int32))), (9, .int ((x1 * (wSum (mI m 35) (tAt (mI m 40) x7 6) 6)) - (x1 * (wSum (mI m 35) (tAt (mI m 40) x7 6) 6)) / x3 * x3)), (4, .int (x4 - ((x1 * (wSum (mI m 35) (tAt (mI m 40) x7 6) 6)) / x3))), (8, .int (x1 * (wSum (mI m 35) (tAt (mI m 40) x7 6) 6))), (0, .ref 514), (1, .int x1), (2, .int x2), (3, .int x3), (6, .int x6)]) 9 dX3_penceOf_118 rfl rfl (by decide) rfl ?_
          refine g_goto 58 dX3_penceOf_121 (by decide) ?_
          exact g_ls [5, 6, 7, 8, 3, 1, 9, 0] rfl (h8 q1 q3 q4 q5)
theorem bX11_load_0 {X : pX} {Q : Option Value → pMem → Prop} {m : pMem} {x1 : Int32} {x2 : Int32} {x3 : Int32} (hW : Wf m)
    (h1 : ((¬ x1 < 0 ∧ ¬ mI m 31 3 ≤ x1 ∧ ¬ (4 : Int32) ≤ x1) ∧ mI m 39 x1.toNatClampNeg = 0) → x2 < (1 : Int32) → Q (some (.int (-1 : Int32))) m)
    (h2 : ((¬ x1 < 0 ∧ ¬ mI m 31 3 ≤ x1 ∧ ¬ (4 : Int32) ≤ x1) ∧ mI m 39 x1.toNatClampNeg = 0) → ¬ (x2 < (1 : Int32)) → (60 : Int32) < x2 → Q (some (.int (-1 : Int32))) m)
    (h3 : ((¬ x1 < 0 ∧ ¬ mI m 31 3 ≤ x1 ∧ ¬ (4 : Int32) ≤ x1) ∧ mI m 39 x1.toNatClampNeg = 0) → ¬ (x2 < (1 : Int32)) → ¬ ((60 : Int32) < x2) → x3 < 0 → Q (some (.int (-1 : Int32))) m)
    (h4 : ((¬ x1 < 0 ∧ ¬ mI m 31 3 ≤ x1 ∧ ¬ (4 : Int32) ≤ x1) ∧ mI m 39 x1.toNatClampNeg = 0) → ¬ (x2 < (1 : Int32)) → ¬ ((60 : Int32) < x2) → ¬ (x3 < 0) → x3 ≤ (2 : Int32) → Cl X 3 mX3_bestLoad [.ref 514, .int x1, .int x2] m (fun v m2 => Go X 4 mX11_load Q 39 [(0, .ref 0), (1, .int x1), (2, .int x2), (3, .int x3)] (v.toList ++ []) m2))
    (h5 : ((¬ x1 < 0 ∧ ¬ mI m 31 3 ≤ x1 ∧ ¬ (4 : Int32) ≤ x1) ∧ mI m 39 x1.toNatClampNeg = 0) → ¬ (x2 < (1 : Int32)) → ¬ ((60 : Int32) < x2) → ¬ (x3 < 0) → ¬ (x3 ≤ (2 : Int32)) → Q (some (.int (-1 : Int32))) m)
    (h6 : ¬ (((¬ x1 < 0 ∧ ¬ mI m 31 3 ≤ x1 ∧ ¬ (4 : Int32) ≤ x1) ∧ mI m 39 x1.toNatClampNeg = 0)) → Q (some (.int (-1 : Int32))) m) :
    Go X 4 mX11_load Q 0 [(0, .ref 0), (1, .int x1), (2, .int x2), (3, .int x3)] [] m := by
  refine g_aload_n 0 dX11_load_0 rfl rfl ?_
  refine g_iload_n 1 dX11_load_1 rfl rfl ?_
  refine g_callV (As := [.int x1]) (st := []) dX11_load_2 clX11_233 sh0 rfl rfl (Nat.le_of_ble_eq_true rfl) (rmSH (by decide) (by decide)) (s_cAt hW (fun q1 => ?_) (fun q1 => ?_))
  · refine g_if_eq 28 dX11_load_5 (by decide) (fun q2 => absurd q2 (by decide)) (fun q2 => ?_)
    refine g_iload_n 2 dX11_load_8 rfl rfl ?_
    refine g_iconst (v := 1) dX11_load_9 (by decide) ?_
    refine g_icmp_lt 28 dX11_load_10 (by decide) (fun q3 => ?_) (fun q3 => ?_)
    · refine g_iconst (v := -1) dX11_load_28 (by decide) ?_
      exact g_iret dX11_load_29 rfl enSH (h1 q1 q3)
    · refine g_iload_n 2 dX11_load_13 rfl rfl ?_
      refine g_bipush (v := 60) dX11_load_14 (by decide) ?_
      refine g_icmp_gt 28 dX11_load_16 (by decide) (fun q4 => ?_) (fun q4 => ?_)
      · refine g_iconst (v := -1) dX11_load_28 (by decide) ?_
        exact g_iret dX11_load_29 rfl enSH (h2 q1 q3 q4)
      · refine g_iload_n 3 dX11_load_19 rfl rfl ?_
        refine g_if_lt 28 dX11_load_20 (by decide) (fun q5 => ?_) (fun q5 => ?_)
        · refine g_iconst (v := -1) dX11_load_28 (by decide) ?_
          exact g_iret dX11_load_29 rfl enSH (h3 q1 q3 q4 q5)
        · refine g_iload_n 3 dX11_load_23 rfl rfl ?_
          refine g_iconst (v := 2) dX11_load_24 (by decide) ?_
          refine g_icmp_le 30 dX11_load_25 (by decide) (fun q6 => ?_) (fun q6 => ?_)
          · refine g_aload_n 0 dX11_load_30 rfl rfl ?_
            refine g_getR dX11_load_31 fl11_76 rfl sh0 (w11_9 hW sh0) ?_
            refine g_iload_n 1 dX11_load_34 rfl rfl ?_
            refine g_iload_n 2 dX11_load_35 rfl rfl ?_
            exact g_callV (As := [.int x1, .int x2]) (st := []) dX11_load_36 clX11_269 sh514 rfl rfl (Nat.le_of_ble_eq_true rfl) (rmSH (by decide) (by decide)) (h4 q1 q3 q4 q5 q6)
          · refine g_iconst (v := -1) dX11_load_28 (by decide) ?_
            exact g_iret dX11_load_29 rfl enSH (h5 q1 q3 q4 q5 q6)
  · refine g_if_eq 28 dX11_load_5 (by decide) (fun q7 => ?_) (fun q7 => absurd q7 (by decide))
    refine g_iconst (v := -1) dX11_load_28 (by decide) ?_
    exact g_iret dX11_load_29 rfl enSH (h6 q1)
theorem bX11_load_39 {X : pX} {Q : Option Value → pMem → Prop} {m : pMem} {x1 : Int32} {x2 : Int32} {x3 : Int32} {xs0 : Int32} (hW : Wf m)
    (h1 : ¬ xs0 = (-1 : Int32) → x3 = 0 → Q (some (.int xs0)) m)
    (h2 : ¬ xs0 = (-1 : Int32) → ¬ x3 = 0 → x3 = 1 → Q (some (.int (wSum (mI m 35) xs0 6))) m)
    (h3 : ¬ xs0 = (-1 : Int32) → ¬ x3 = 0 → ¬ x3 = 1 → dyOk (mI m 31 3) (mI m 33) x1 (mI m 38 x1.toNatClampNeg) (mI m 31 2))
    (h4 : ¬ xs0 = (-1 : Int32) → ¬ x3 = 0 → ¬ x3 = 1 → Q (some (.int (dyI (mI m 32) (mI m 33 x1.toNatClampNeg) (wSum (mI m 34) xs0 6) (mI m 38 x1.toNatClampNeg) (mI m 31 2)))) m)
    (h5 : xs0 = (-1 : Int32) → Q (some (.int (-2 : Int32))) m) :
    Go X 4 mX11_load Q 39 [(0, .ref 0), (1, .int x1), (2, .int x2), (3, .int x3)] [.int xs0] m := by
  refine g_istore (ls2 := [(4, .int xs0), (0, .ref 0), (1, .int x1), (2, .int x2), (3, .int x3)]) dX11_load_39 (by decide) rfl ?_
  refine g_iload 0 dX11_load_41 rfl ?_
  refine g_iconst (v := -1) dX11_load_43 (by decide) ?_
  refine g_icmp_ne 50 dX11_load_44 (by decide) (fun q1 => ?_) (fun q1 => ?_)
  · refine g_iload_n 4 dX11_load_50 rfl rfl ?_
    by_cases q2 : x3 = 0
    · refine g_lookup 76 dX11_load_51 rfl (by rw [q2] <;> rfl) (by decide) ?_
      refine g_iload 0 dX11_load_76 rfl ?_
      exact g_iret dX11_load_78 rfl enSH (h1 q1 q2)
    by_cases q3 : x3 = 1
    · refine g_lookup 79 dX11_load_51 rfl (by rw [q3] <;> rfl) (by decide) ?_
      refine g_aload_n 1 dX11_load_79 rfl rfl ?_
      refine g_getR dX11_load_80 fl11_42 rfl sh0 (w11_5 hW sh0) ?_
      refine g_getR dX11_load_83 fl11_56 rfl sh30 (w10_0 hW sh30) ?_
      refine g_iload 0 dX11_load_86 rfl ?_
      refine g_callV (As := [.int xs0]) (st := []) dX11_load_88 clX11_155 (s10_0 sh30) rfl rfl (Nat.le_of_ble_eq_true rfl) (rmSH (by decide) (by decide)) (s_worthOf hW (s10_0 sh30) ?_)
      show Go X 4 mX11_load Q 91 [(4, .int xs0), (0, .ref 0), (1, .int x1), (2, .int x2), (3, .int x3)] [.int (wSum (mI m 35) xs0 6)] m
      exact g_iret dX11_load_91 rfl enSH (h2 q1 q2 q3)
    refine g_lookup (off := 41) 92 dX11_load_51 rfl ?_ (by decide) ?_
    · have zq2 : ¬ (0 : Int) = x3.toInt := fun q => q2 (Int32.toInt_inj.mp (by rw [← q]; rfl)); have zq3 : ¬ (1 : Int) = x3.toInt := fun q => q3 (Int32.toInt_inj.mp (by rw [← q]; rfl))
      simp [Op.lookupswitch.offset, zq2, zq3]
    refine g_aload_n 1 dX11_load_92 rfl rfl ?_
    refine g_getR dX11_load_93 fl11_76 rfl sh0 (w11_9 hW sh0) ?_
    refine g_iload_n 2 dX11_load_96 rfl rfl ?_
    refine g_iload 0 dX11_load_97 rfl ?_
    refine g_callV (As := [.int x1, .int xs0]) (st := []) dX11_load_99 clX11_266 sh514 rfl rfl (Nat.le_of_ble_eq_true rfl) (rmSH (by decide) (by decide)) (s_toTown hW (h3 q1 q2 q3) ?_)
    show Go X 4 mX11_load Q 102 [(4, .int xs0), (0, .ref 0), (1, .int x1), (2, .int x2), (3, .int x3)] [.int (dyI (mI m 32) (mI m 33 x1.toNatClampNeg) (wSum (mI m 34) xs0 6) (mI m 38 x1.toNatClampNeg) (mI m 31 2))] m
    exact g_iret dX11_load_102 rfl enSH (h4 q1 q2 q3)
  · refine g_bipush (v := -2) dX11_load_47 (by decide) ?_
    exact g_iret dX11_load_49 rfl enSH (h5 q1)
theorem bX11_exchange_0 {X : pX} {Q : Option Value → pMem → Prop} {m : pMem} {x1 : Int32} {x2 : Int32} {x3 : Int32} (hW : Wf m)
    (h1 : ¬ x1 = x2 ∧ ((¬ x1 < 0 ∧ ¬ mI m 31 3 ≤ x1 ∧ ¬ (4 : Int32) ≤ x1) ∧ mI m 39 x1.toNatClampNeg = 0) ∧ ((¬ x2 < 0 ∧ ¬ mI m 31 3 ≤ x2 ∧ ¬ (4 : Int32) ≤ x2) ∧ mI m 39 x2.toNatClampNeg = 0) ∧ mI m 38 x1.toNatClampNeg = mI m 38 x2.toNatClampNeg → x3 < 0 → Q (some (.int (-2 : Int32))) m)
    (h2 : ¬ x1 = x2 ∧ ((¬ x1 < 0 ∧ ¬ mI m 31 3 ≤ x1 ∧ ¬ (4 : Int32) ≤ x1) ∧ mI m 39 x1.toNatClampNeg = 0) ∧ ((¬ x2 < 0 ∧ ¬ mI m 31 3 ≤ x2 ∧ ¬ (4 : Int32) ≤ x2) ∧ mI m 39 x2.toNatClampNeg = 0) ∧ mI m 38 x1.toNatClampNeg = mI m 38 x2.toNatClampNeg → ¬ (x3 < 0) → x3 ≤ (2 : Int32) → Cl X 4 mX3_bestExchange [.ref 514, .int x1, .int x2] m (fun v m2 => Go X 5 mX11_exchange Q 30 [(0, .ref 0), (1, .int x1), (2, .int x2), (3, .int x3)] (v.toList ++ []) m2))
    (h3 : ¬ x1 = x2 ∧ ((¬ x1 < 0 ∧ ¬ mI m 31 3 ≤ x1 ∧ ¬ (4 : Int32) ≤ x1) ∧ mI m 39 x1.toNatClampNeg = 0) ∧ ((¬ x2 < 0 ∧ ¬ mI m 31 3 ≤ x2 ∧ ¬ (4 : Int32) ≤ x2) ∧ mI m 39 x2.toNatClampNeg = 0) ∧ mI m 38 x1.toNatClampNeg = mI m 38 x2.toNatClampNeg → ¬ (x3 < 0) → ¬ (x3 ≤ (2 : Int32)) → Q (some (.int (-2 : Int32))) m)
    (h4 : ¬ (¬ x1 = x2 ∧ ((¬ x1 < 0 ∧ ¬ mI m 31 3 ≤ x1 ∧ ¬ (4 : Int32) ≤ x1) ∧ mI m 39 x1.toNatClampNeg = 0) ∧ ((¬ x2 < 0 ∧ ¬ mI m 31 3 ≤ x2 ∧ ¬ (4 : Int32) ≤ x2) ∧ mI m 39 x2.toNatClampNeg = 0) ∧ mI m 38 x1.toNatClampNeg = mI m 38 x2.toNatClampNeg) → Q (some (.int (-2 : Int32))) m) :
    Go X 5 mX11_exchange Q 0 [(0, .ref 0), (1, .int x1), (2, .int x2), (3, .int x3)] [] m := by
  refine g_aload_n 0 dX11_exchange_0 rfl rfl ?_
  refine g_iload_n 1 dX11_exchange_1 rfl rfl ?_
  refine g_iload_n 2 dX11_exchange_2 rfl rfl ?_
  refine g_callV (As := [.int x1, .int x2]) (st := []) dX11_exchange_3 clX11_242 sh0 rfl rfl (Nat.le_of_ble_eq_true rfl) (rmSH (by decide) (by decide)) (s_cTog hW (fun q1 => ?_) (fun q1 => ?_))
  · refine g_if_eq 18 dX11_exchange_6 (by decide) (fun q2 => absurd q2 (by decide)) (fun q2 => ?_)
    refine g_iload_n 3 dX11_exchange_9 rfl rfl ?_
    refine g_if_lt 18 dX11_exchange_10 (by decide) (fun q3 => ?_) (fun q3 => ?_)
    · refine g_bipush (v := -2) dX11_exchange_18 (by decide) ?_
      exact g_iret dX11_exchange_20 rfl enSH (h1 q1 q3)
    · refine g_iload_n 3 dX11_exchange_13 rfl rfl ?_
      refine g_iconst (v := 2) dX11_exchange_14 (by decide) ?_
      refine g_icmp_le 21 dX11_exchange_15 (by decide) (fun q4 => ?_) (fun q4 => ?_)
      · refine g_aload_n 0 dX11_exchange_21 rfl rfl ?_
        refine g_getR dX11_exchange_22 fl11_76 rfl sh0 (w11_9 hW sh0) ?_
        refine g_iload_n 1 dX11_exchange_25 rfl rfl ?_
        refine g_iload_n 2 dX11_exchange_26 rfl rfl ?_
        exact g_callV (As := [.int x1, .int x2]) (st := []) dX11_exchange_27 clX11_276 sh514 rfl rfl (Nat.le_of_ble_eq_true rfl) (rmSH (by decide) (by decide)) (h2 q1 q3 q4)
      · refine g_bipush (v := -2) dX11_exchange_18 (by decide) ?_
        exact g_iret dX11_exchange_20 rfl enSH (h3 q1 q3 q4)
  · refine g_if_eq 18 dX11_exchange_6 (by decide) (fun q5 => ?_) (fun q5 => absurd q5 (by decide))
    refine g_bipush (v := -2) dX11_exchange_18 (by decide) ?_
    exact g_iret dX11_exchange_20 rfl enSH (h4 q1)
theorem bX11_exchange_30 {X : pX} {Q : Option Value → pMem → Prop} {m : pMem} {x1 : Int32} {x2 : Int32} {x3 : Int32} {xs0 : Int32} (hW : Wf m)
    (h1 : ¬ x3 = 0 → ¬ xs0 = (-1 : Int32) → ¬ x3 = (1 : Int32) → Q (some (.int (xs0 - xs0 / (6 : Int32) * (6 : Int32)))) m)
    (h2 : ¬ x3 = 0 → ¬ xs0 = (-1 : Int32) → x3 = (1 : Int32) → Q (some (.int (xs0 / (6 : Int32)))) m)
    (h3 : ¬ x3 = 0 → xs0 = (-1 : Int32) → Q (some (.int (-1 : Int32))) m)
    (h4 : x3 = 0 → dyOk (mI m 31 3) (mI m 33) x1 (mI m 38 x1.toNatClampNeg) (mI m 31 2))
    (h5 : x3 = 0 → dyOk (mI m 31 3) (mI m 33) x2 (mI m 38 x2.toNatClampNeg) (mI m 31 2))
    (h6 : x3 = 0 → Q (some (.int (boD (mI m 32) (mI m 33) (mI m 34) (mI m 38) (mI m 40) (mI m 31 2) x1 x2 xs0))) m) :
    Go X 5 mX11_exchange Q 30 [(0, .ref 0), (1, .int x1), (2, .int x2), (3, .int x3)] [.int xs0] m := by
  refine g_istore (ls2 := [(4, .int xs0), (0, .ref 0), (1, .int x1), (2, .int x2), (3, .int x3)]) dX11_exchange_30 (by decide) rfl ?_
  refine g_iload_n 4 dX11_exchange_32 rfl rfl ?_
  refine g_if_ne 48 dX11_exchange_33 (by decide) (fun q1 => ?_) (fun q1 => ?_)
  · refine g_iload 0 dX11_exchange_48 rfl ?_
    refine g_iconst (v := -1) dX11_exchange_50 (by decide) ?_
    refine g_icmp_ne 56 dX11_exchange_51 (by decide) (fun q2 => ?_) (fun q2 => ?_)
    · refine g_iload_n 4 dX11_exchange_56 rfl rfl ?_
      refine g_iconst (v := 1) dX11_exchange_57 (by decide) ?_
      refine g_icmp_ne 69 dX11_exchange_58 (by decide) (fun q3 => ?_) (fun q3 => ?_)
      · refine g_iload 0 dX11_exchange_69 rfl ?_
        refine g_bipush (v := 6) dX11_exchange_71 (by decide) ?_
        refine g_irem dX11_exchange_73 (by decide) ?_
        exact g_iret dX11_exchange_74 rfl enSH (h1 q1 q2 q3)
      · refine g_iload 0 dX11_exchange_61 rfl ?_
        refine g_bipush (v := 6) dX11_exchange_63 (by decide) ?_
        refine g_idiv dX11_exchange_65 (by decide) ?_
        refine g_goto 74 dX11_exchange_66 (by decide) ?_
        exact g_iret dX11_exchange_74 rfl enSH (h2 q1 q2 q3)
    · refine g_iconst (v := -1) dX11_exchange_54 (by decide) ?_
      exact g_iret dX11_exchange_55 rfl enSH (h3 q1 q2)
  · refine g_aload_n 1 dX11_exchange_36 rfl rfl ?_
    refine g_getR dX11_exchange_37 fl11_76 rfl sh0 (w11_9 hW sh0) ?_
    refine g_iload_n 2 dX11_exchange_40 rfl rfl ?_
    refine g_iload_n 3 dX11_exchange_41 rfl rfl ?_
    refine g_iload 0 dX11_exchange_42 rfl ?_
    refine g_callV (As := [.int x1, .int x2, .int xs0]) (st := []) dX11_exchange_44 clX11_279 sh514 rfl rfl (Nat.le_of_ble_eq_true rfl) (rmSH (by decide) (by decide)) (s_ofBoth hW (h4 q1) (h5 q1) ?_)
    show Go X 5 mX11_exchange Q 47 [(4, .int xs0), (0, .ref 0), (1, .int x1), (2, .int x2), (3, .int x3)] [.int (boD (mI m 32) (mI m 33) (mI m 34) (mI m 38) (mI m 40) (mI m 31 2) x1 x2 xs0)] m
    exact g_iret dX11_exchange_47 rfl enSH (h6 q1)
theorem bX11_pence_0 {X : pX} {Q : Option Value → pMem → Prop} {m : pMem} {x1 : Int32} {x2 : Int32} (hW : Wf m)
    (h1 : ¬ x2 < 0 ∧ ¬ mI m 31 3 ≤ x2 ∧ ¬ (4 : Int32) ≤ x2 → x1 < 0 → Q (some (.int (-1 : Int32))) m)
    (h2 : ¬ x2 < 0 ∧ ¬ mI m 31 3 ≤ x2 ∧ ¬ (4 : Int32) ≤ x2 → ¬ (x1 < 0) → x1 ≤ (9999 : Int32) → Cl X 3 mX3_penceOf [.ref 514, .int x1, .int x2] m (fun v m2 => Go X 4 mX11_pence Q 36 [(0, .ref 0), (1, .int x1), (2, .int x2)] (v.toList ++ []) m2))
    (h3 : ¬ x2 < 0 ∧ ¬ mI m 31 3 ≤ x2 ∧ ¬ (4 : Int32) ≤ x2 → ¬ (x1 < 0) → ¬ (x1 ≤ (9999 : Int32)) → Q (some (.int (-1 : Int32))) m)
    (h4 : ¬ (¬ x2 < 0 ∧ ¬ mI m 31 3 ≤ x2 ∧ ¬ (4 : Int32) ≤ x2) → Q (some (.int (-1 : Int32))) m) :
    Go X 4 mX11_pence Q 0 [(0, .ref 0), (1, .int x1), (2, .int x2)] [] m := by
  refine g_aload_n 0 dX11_pence_0 rfl rfl ?_
  refine g_getR dX11_pence_1 fl11_42 rfl sh0 (w11_5 hW sh0) ?_
  refine g_getR dX11_pence_4 fl11_56 rfl sh30 (w10_0 hW sh30) ?_
  refine g_iload_n 2 dX11_pence_7 rfl rfl ?_
  refine g_callV (As := [.int x2]) (st := []) dX11_pence_8 clX11_135 (s10_0 sh30) rfl rfl (Nat.le_of_ble_eq_true rfl) (rmSH (by decide) (by decide)) (s_isPerson hW (s10_0 sh30) (fun q1 => ?_) (fun q1 => ?_))
  · refine g_if_eq 25 dX11_pence_11 (by decide) (fun q2 => absurd q2 (by decide)) (fun q2 => ?_)
    refine g_iload_n 1 dX11_pence_14 rfl rfl ?_
    refine g_if_lt 25 dX11_pence_15 (by decide) (fun q3 => ?_) (fun q3 => ?_)
    · refine g_iconst (v := -1) dX11_pence_25 (by decide) ?_
      exact g_iret dX11_pence_26 rfl enSH (h1 q1 q3)
    · refine g_iload_n 1 dX11_pence_18 rfl rfl ?_
      refine g_sipush (v := 9999) dX11_pence_19 (by decide) ?_
      refine g_icmp_le 27 dX11_pence_22 (by decide) (fun q4 => ?_) (fun q4 => ?_)
      · refine g_aload_n 0 dX11_pence_27 rfl rfl ?_
        refine g_getR dX11_pence_28 fl11_76 rfl sh0 (w11_9 hW sh0) ?_
        refine g_iload_n 1 dX11_pence_31 rfl rfl ?_
        refine g_iload_n 2 dX11_pence_32 rfl rfl ?_
        exact g_callV (As := [.int x1, .int x2]) (st := []) dX11_pence_33 clX11_293 sh514 rfl rfl (Nat.le_of_ble_eq_true rfl) (rmSH (by decide) (by decide)) (h2 q1 q3 q4)
      · refine g_iconst (v := -1) dX11_pence_25 (by decide) ?_
        exact g_iret dX11_pence_26 rfl enSH (h3 q1 q3 q4)
  · refine g_if_eq 25 dX11_pence_11 (by decide) (fun q5 => ?_) (fun q5 => absurd q5 (by decide))
    refine g_iconst (v := -1) dX11_pence_25 (by decide) ?_
    exact g_iret dX11_pence_26 rfl enSH (h4 q1)
theorem bX11_pence_36 {X : pX} {Q : Option Value → pMem → Prop} {m : pMem} {x1 : Int32} {x2 : Int32} {xs0 : Int32} (hW : Wf m)
    (h1 : Q (some (.int xs0)) m) :
    Go X 4 mX11_pence Q 36 [(0, .ref 0), (1, .int x1), (2, .int x2)] [.int xs0] m := by
  exact g_iret dX11_pence_36 rfl enSH h1
