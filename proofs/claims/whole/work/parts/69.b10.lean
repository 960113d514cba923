theorem bX12_begins_0 {X : pX} {Q : Option Value → pMem → Prop} {m : pMem} (hW : Wf m)
    (h1 : Go X 1 mX12_begins Q 20 [(0, .ref 535), (1, .int (0 : Int32))] [] (uI (uC m 547 0 539 0 6) 536 5 (0 : Int32))) :
    Go X 1 mX12_begins Q 0 [(0, .ref 535)] [] m := by
  refine g_aload_n 0 dX12_begins_0 rfl rfl ?_
  refine g_getR dX12_begins_1 fl12_43 rfl sh535 (w12_12 hW sh535) ?_
  refine g_aload_n 0 dX12_begins_4 rfl rfl ?_
  refine g_getR dX12_begins_5 fl12_19 rfl sh535 (w12_4 hW sh535) ?_
  refine g_callS (As := [.ref 547, .ref 539]) (st := []) dX12_begins_8 clX12_289 rfl rfl (Nat.le_of_ble_eq_true rfl) (rmSH (by decide) (by decide)) (s_copies hW (s12_12 sh535) (s12_4 sh535) (by decide) (by decide) ?_)
  show Go X 1 mX12_begins Q 11 [(0, .ref 535)] [] (uC m 547 0 539 0 6)
  refine g_aload_n 0 dX12_begins_11 rfl rfl ?_
  refine g_getR dX12_begins_12 fl12_9 rfl sh535 (w12_1 hW sh535) ?_
  refine g_iconst (v := 5) dX12_begins_15 (by decide) ?_
  refine g_iconst (v := 0) dX12_begins_16 (by decide) ?_
  refine g_iast (j := 5) dX12_begins_17 (s12_1 sh535) (by unfold vp_in; decide) (by decide) ?_
  refine g_iconst (v := 0) dX12_begins_18 (by decide) ?_
  refine g_istore_n (ls2 := [(1, .int (0 : Int32)), (0, .ref 535)]) dX12_begins_19 rfl (by decide) rfl ?_
  exact g_ls [1, 0] rfl h1
theorem bX12_begins_20 {X : pX} {Q : Option Value → pMem → Prop} {m : pMem} {x1 : Int32} (hW : Wf m)
    (h1 : (4 : Int32) ≤ x1 → Q none m)
    (h2 : ¬ ((4 : Int32) ≤ x1) → vp_in x1 4)
    (h3 : ¬ ((4 : Int32) ≤ x1) → Go X 1 mX12_begins Q 20 [(0, .ref 535), (1, .int (x1 + (1 : Int32)))] [] (uI (uI m 537 x1.toNatClampNeg (0 : Int32)) 538 x1.toNatClampNeg (0 : Int32))) :
    Go X 1 mX12_begins Q 20 [(0, .ref 535), (1, .int x1)] [] m := by
  refine g_iload_n 1 dX12_begins_20 rfl rfl ?_
  refine g_iconst (v := 4) dX12_begins_21 (by decide) ?_
  refine g_icmp_ge 45 dX12_begins_22 (by decide) (fun q1 => ?_) (fun q1 => ?_)
  · exact g_vret dX12_begins_45 rfl enSH (h1 q1)
  · refine g_aload_n 0 dX12_begins_25 rfl rfl ?_
    refine g_getR dX12_begins_26 fl12_13 rfl sh535 (w12_2 hW sh535) ?_
    refine g_iload_n 1 dX12_begins_29 rfl rfl ?_
    refine g_iconst (v := 0) dX12_begins_30 (by decide) ?_
    refine g_iast (j := x1.toNatClampNeg) dX12_begins_31 (s12_2 sh535) (h2 q1) rfl ?_
    refine g_aload_n 0 dX12_begins_32 rfl rfl ?_
    refine g_getR dX12_begins_33 fl12_16 rfl sh535 (w12_3 hW sh535) ?_
    refine g_iload_n 1 dX12_begins_36 rfl rfl ?_
    refine g_iconst (v := 0) dX12_begins_37 (by decide) ?_
    refine g_iast (j := x1.toNatClampNeg) dX12_begins_38 (s12_3 sh535) (h2 q1) rfl ?_
    refine g_iinc (v := x1 + (1 : Int32)) (ls2 := [(1, .int (x1 + (1 : Int32))), (0, .ref 535)]) 1 dX12_begins_39 rfl rfl (by decide) rfl ?_
    refine g_goto 20 dX12_begins_42 (by decide) ?_
    exact g_ls [1, 0] rfl (h3 q1)
theorem bX12_carriesAll_0 {X : pX} {Q : Option Value → pMem → Prop} {m : pMem} {x1 : Int32} {x2 : Int32} (hW : Wf m)
    (h1 : x2 = 0 ∨ x2 = 1)
    (h2 : Cl X 0 mX12_carryRow [.ref 535, .ref 536] (uI (uI m 535 54 ((450 : Int32) * x1)) 535 55 x2) (fun v m2 => Go X 1 mX12_carriesAll Q 22 [(0, .ref 535), (1, .int x1), (2, .int x2)] (v.toList ++ []) m2)) :
    Go X 1 mX12_carriesAll Q 0 [(0, .ref 535), (1, .int x1), (2, .int x2)] [] m := by
  refine g_aload_n 0 dX12_carriesAll_0 rfl rfl ?_
  refine g_sipush (v := 450) dX12_carriesAll_1 (by decide) ?_
  refine g_iload_n 1 dX12_carriesAll_4 rfl rfl ?_
  refine g_imul dX12_carriesAll_5 ?_
  refine g_putI dX12_carriesAll_6 fl12_487 (fun h => by cases h) sh535 ?_
  refine g_aload_n 0 dX12_carriesAll_9 rfl rfl ?_
  refine g_iload_n 2 dX12_carriesAll_10 rfl rfl ?_
  refine g_putZ dX12_carriesAll_11 fl12_484 (fun h => by cases h) sh535 h1 ?_
  refine g_aload_n 0 dX12_carriesAll_14 rfl rfl ?_
  refine g_aload_n 0 dX12_carriesAll_15 rfl rfl ?_
  refine g_getR dX12_carriesAll_16 fl12_9 rfl sh535 (w12_1 hW sh535) ?_
  exact g_callV (As := [.ref 536]) (st := []) dX12_carriesAll_19 clX12_490 sh535 rfl rfl (Nat.le_of_ble_eq_true rfl) (rmSH (by decide) (by decide)) h2
theorem bX12_carriesAll_22 {X : pX} {Q : Option Value → pMem → Prop} {m : pMem} {x1 : Int32} {x2 : Int32} (hW : Wf m)
    (h1 : Cl X 0 mX12_carryRow [.ref 535, .ref 537] m (fun v m2 => Go X 1 mX12_carriesAll Q 30 [(0, .ref 535), (1, .int x1), (2, .int x2)] (v.toList ++ []) m2)) :
    Go X 1 mX12_carriesAll Q 22 [(0, .ref 535), (1, .int x1), (2, .int x2)] [] m := by
  refine g_aload_n 0 dX12_carriesAll_22 rfl rfl ?_
  refine g_aload_n 0 dX12_carriesAll_23 rfl rfl ?_
  refine g_getR dX12_carriesAll_24 fl12_13 rfl sh535 (w12_2 hW sh535) ?_
  exact g_callV (As := [.ref 537]) (st := []) dX12_carriesAll_27 clX12_490 sh535 rfl rfl (Nat.le_of_ble_eq_true rfl) (rmSH (by decide) (by decide)) h1
theorem bX12_carriesAll_30 {X : pX} {Q : Option Value → pMem → Prop} {m : pMem} {x1 : Int32} {x2 : Int32} (hW : Wf m)
    (h1 : Cl X 0 mX12_carryRow [.ref 535, .ref 538] m (fun v m2 => Go X 1 mX12_carriesAll Q 38 [(0, .ref 535), (1, .int x1), (2, .int x2)] (v.toList ++ []) m2)) :
    Go X 1 mX12_carriesAll Q 30 [(0, .ref 535), (1, .int x1), (2, .int x2)] [] m := by
  refine g_aload_n 0 dX12_carriesAll_30 rfl rfl ?_
  refine g_aload_n 0 dX12_carriesAll_31 rfl rfl ?_
  refine g_getR dX12_carriesAll_32 fl12_16 rfl sh535 (w12_3 hW sh535) ?_
  exact g_callV (As := [.ref 538]) (st := []) dX12_carriesAll_35 clX12_490 sh535 rfl rfl (Nat.le_of_ble_eq_true rfl) (rmSH (by decide) (by decide)) h1
theorem bX12_carriesAll_38 {X : pX} {Q : Option Value → pMem → Prop} {m : pMem} {x1 : Int32} {x2 : Int32} (hW : Wf m)
    (h1 : Cl X 0 mX12_carryRow [.ref 535, .ref 539] m (fun v m2 => Go X 1 mX12_carriesAll Q 46 [(0, .ref 535), (1, .int x1), (2, .int x2)] (v.toList ++ []) m2)) :
    Go X 1 mX12_carriesAll Q 38 [(0, .ref 535), (1, .int x1), (2, .int x2)] [] m := by
  refine g_aload_n 0 dX12_carriesAll_38 rfl rfl ?_
  refine g_aload_n 0 dX12_carriesAll_39 rfl rfl ?_
  refine g_getR dX12_carriesAll_40 fl12_19 rfl sh535 (w12_4 hW sh535) ?_
  exact g_callV (As := [.ref 539]) (st := []) dX12_carriesAll_43 clX12_490 sh535 rfl rfl (Nat.le_of_ble_eq_true rfl) (rmSH (by decide) (by decide)) h1
theorem bX12_carriesAll_46 {X : pX} {Q : Option Value → pMem → Prop} {m : pMem} {x1 : Int32} {x2 : Int32} (hW : Wf m)
    (h1 : ¬ x1 = (4 : Int32) → Cl X 0 mX12_carryRow [.ref 535, .ref 565] (uI m 565 0 (mI m 535 41)) (fun v m2 => Go X 1 mX12_carriesAll Q 70 [(0, .ref 535), (1, .int x1), (2, .int x2)] (v.toList ++ []) m2))
    (h2 : x1 = (4 : Int32) → Q none m) :
    Go X 1 mX12_carriesAll Q 46 [(0, .ref 535), (1, .int x1), (2, .int x2)] [] m := by
  refine g_iload_n 1 dX12_carriesAll_46 rfl rfl ?_
  refine g_iconst (v := 4) dX12_carriesAll_47 (by decide) ?_
  refine g_icmp_ne 52 dX12_carriesAll_48 (by decide) (fun q1 => ?_) (fun q1 => ?_)
  · refine g_aload_n 0 dX12_carriesAll_52 rfl rfl ?_
    refine g_getR dX12_carriesAll_53 fl12_103 rfl sh535 (w12_40 hW sh535) ?_
    refine g_iconst (v := 0) dX12_carriesAll_56 (by decide) ?_
    refine g_aload_n 0 dX12_carriesAll_57 rfl rfl ?_
    refine g_getI dX12_carriesAll_58 fl12_299 sh535 ?_
    refine g_iast (j := 0) dX12_carriesAll_61 (s12_40 sh535) (by unfold vp_in; decide) (by decide) ?_
    refine g_aload_n 0 dX12_carriesAll_62 rfl rfl ?_
    refine g_aload_n 0 dX12_carriesAll_63 rfl rfl ?_
    refine g_getR dX12_carriesAll_64 fl12_103 rfl sh535 (w12_40 hW sh535) ?_
    exact g_callV (As := [.ref 565]) (st := []) dX12_carriesAll_67 clX12_490 sh535 rfl rfl (Nat.le_of_ble_eq_true rfl) (rmSH (by decide) (by decide)) (h1 q1)
  · exact g_vret dX12_carriesAll_51 rfl enSH (h2 q1)
theorem bX12_carriesAll_70 {X : pX} {Q : Option Value → pMem → Prop} {m : pMem} {x1 : Int32} {x2 : Int32} (hW : Wf m)
    (h1 : Cl X 0 mX12_carryRow [.ref 535, .ref 540] (uI m 535 41 (mI m 565 0)) (fun v m2 => Go X 1 mX12_carriesAll Q 88 [(0, .ref 535), (1, .int x1), (2, .int x2)] (v.toList ++ []) m2)) :
    Go X 1 mX12_carriesAll Q 70 [(0, .ref 535), (1, .int x1), (2, .int x2)] [] m := by
  refine g_aload_n 0 dX12_carriesAll_70 rfl rfl ?_
  refine g_aload_n 0 dX12_carriesAll_71 rfl rfl ?_
  refine g_getR dX12_carriesAll_72 fl12_103 rfl sh535 (w12_40 hW sh535) ?_
  refine g_iconst (v := 0) dX12_carriesAll_75 (by decide) ?_
  refine g_iald (j := 0) dX12_carriesAll_76 (s12_40 sh535) (by unfold vp_in; decide) (by decide) ?_
  refine g_putI dX12_carriesAll_77 fl12_299 (fun h => by cases h) sh535 ?_
  refine g_aload_n 0 dX12_carriesAll_80 rfl rfl ?_
  refine g_aload_n 0 dX12_carriesAll_81 rfl rfl ?_
  refine g_getR dX12_carriesAll_82 fl12_22 rfl sh535 (w12_5 hW sh535) ?_
  exact g_callV (As := [.ref 540]) (st := []) dX12_carriesAll_85 clX12_490 sh535 rfl rfl (Nat.le_of_ble_eq_true rfl) (rmSH (by decide) (by decide)) h1
theorem bX12_carriesAll_88 {X : pX} {Q : Option Value → pMem → Prop} {m : pMem} {x1 : Int32} {x2 : Int32} (hW : Wf m)
    (h1 : Cl X 0 mX12_carryRow [.ref 535, .ref 541] m (fun v m2 => Go X 1 mX12_carriesAll Q 96 [(0, .ref 535), (1, .int x1), (2, .int x2)] (v.toList ++ []) m2)) :
    Go X 1 mX12_carriesAll Q 88 [(0, .ref 535), (1, .int x1), (2, .int x2)] [] m := by
  refine g_aload_n 0 dX12_carriesAll_88 rfl rfl ?_
  refine g_aload_n 0 dX12_carriesAll_89 rfl rfl ?_
  refine g_getR dX12_carriesAll_90 fl12_25 rfl sh535 (w12_6 hW sh535) ?_
  exact g_callV (As := [.ref 541]) (st := []) dX12_carriesAll_93 clX12_490 sh535 rfl rfl (Nat.le_of_ble_eq_true rfl) (rmSH (by decide) (by decide)) h1
theorem bX12_carriesAll_96 {X : pX} {Q : Option Value → pMem → Prop} {m : pMem} {x1 : Int32} {x2 : Int32} (hW : Wf m)
    (h1 : Cl X 0 mX12_carryRow [.ref 535, .ref 542] m (fun v m2 => Go X 1 mX12_carriesAll Q 104 [(0, .ref 535), (1, .int x1), (2, .int x2)] (v.toList ++ []) m2)) :
    Go X 1 mX12_carriesAll Q 96 [(0, .ref 535), (1, .int x1), (2, .int x2)] [] m := by
  refine g_aload_n 0 dX12_carriesAll_96 rfl rfl ?_
  refine g_aload_n 0 dX12_carriesAll_97 rfl rfl ?_
  refine g_getR dX12_carriesAll_98 fl12_28 rfl sh535 (w12_7 hW sh535) ?_
  exact g_callV (As := [.ref 542]) (st := []) dX12_carriesAll_101 clX12_490 sh535 rfl rfl (Nat.le_of_ble_eq_true rfl) (rmSH (by decide) (by decide)) h1
theorem bX12_carriesAll_104 {X : pX} {Q : Option Value → pMem → Prop} {m : pMem} {x1 : Int32} {x2 : Int32} (hW : Wf m)
    (h1 : Cl X 0 mX12_carryRow [.ref 535, .ref 543] m (fun v m2 => Go X 1 mX12_carriesAll Q 112 [(0, .ref 535), (1, .int x1), (2, .int x2)] (v.toList ++ []) m2)) :
    Go X 1 mX12_carriesAll Q 104 [(0, .ref 535), (1, .int x1), (2, .int x2)] [] m := by
  refine g_aload_n 0 dX12_carriesAll_104 rfl rfl ?_
  refine g_aload_n 0 dX12_carriesAll_105 rfl rfl ?_
  refine g_getR dX12_carriesAll_106 fl12_31 rfl sh535 (w12_8 hW sh535) ?_
  exact g_callV (As := [.ref 543]) (st := []) dX12_carriesAll_109 clX12_490 sh535 rfl rfl (Nat.le_of_ble_eq_true rfl) (rmSH (by decide) (by decide)) h1
theorem bX12_carriesAll_112 {X : pX} {Q : Option Value → pMem → Prop} {m : pMem} {x1 : Int32} {x2 : Int32} (hW : Wf m)
    (h1 : Cl X 0 mX12_carryRow [.ref 535, .ref 544] m (fun v m2 => Go X 1 mX12_carriesAll Q 120 [(0, .ref 535), (1, .int x1), (2, .int x2)] (v.toList ++ []) m2)) :
    Go X 1 mX12_carriesAll Q 112 [(0, .ref 535), (1, .int x1), (2, .int x2)] [] m := by
  refine g_aload_n 0 dX12_carriesAll_112 rfl rfl ?_
  refine g_aload_n 0 dX12_carriesAll_113 rfl rfl ?_
  refine g_getR dX12_carriesAll_114 fl12_34 rfl sh535 (w12_9 hW sh535) ?_
  exact g_callV (As := [.ref 544]) (st := []) dX12_carriesAll_117 clX12_490 sh535 rfl rfl (Nat.le_of_ble_eq_true rfl) (rmSH (by decide) (by decide)) h1
theorem bX12_carriesAll_120 {X : pX} {Q : Option Value → pMem → Prop} {m : pMem} {x1 : Int32} {x2 : Int32} (hW : Wf m)
    (h1 : Cl X 0 mX12_carryRow [.ref 535, .ref 545] m (fun v m2 => Go X 1 mX12_carriesAll Q 128 [(0, .ref 535), (1, .int x1), (2, .int x2)] (v.toList ++ []) m2)) :
    Go X 1 mX12_carriesAll Q 120 [(0, .ref 535), (1, .int x1), (2, .int x2)] [] m := by
  refine g_aload_n 0 dX12_carriesAll_120 rfl rfl ?_
  refine g_aload_n 0 dX12_carriesAll_121 rfl rfl ?_
  refine g_getR dX12_carriesAll_122 fl12_37 rfl sh535 (w12_10 hW sh535) ?_
  exact g_callV (As := [.ref 545]) (st := []) dX12_carriesAll_125 clX12_490 sh535 rfl rfl (Nat.le_of_ble_eq_true rfl) (rmSH (by decide) (by decide)) h1
theorem bX12_carriesAll_128 {X : pX} {Q : Option Value → pMem → Prop} {m : pMem} {x1 : Int32} {x2 : Int32} (hW : Wf m)
    (h1 : Cl X 0 mX12_carryRow [.ref 535, .ref 546] m (fun v m2 => Go X 1 mX12_carriesAll Q 136 [(0, .ref 535), (1, .int x1), (2, .int x2)] (v.toList ++ []) m2)) :
    Go X 1 mX12_carriesAll Q 128 [(0, .ref 535), (1, .int x1), (2, .int x2)] [] m := by
  refine g_aload_n 0 dX12_carriesAll_128 rfl rfl ?_
  refine g_aload_n 0 dX12_carriesAll_129 rfl rfl ?_
  refine g_getR dX12_carriesAll_130 fl12_40 rfl sh535 (w12_11 hW sh535) ?_
  exact g_callV (As := [.ref 546]) (st := []) dX12_carriesAll_133 clX12_490 sh535 rfl rfl (Nat.le_of_ble_eq_true rfl) (rmSH (by decide) (by decide)) h1
theorem bX12_carriesAll_136 {X : pX} {Q : Option Value → pMem → Prop} {m : pMem} {x1 : Int32} {x2 : Int32} (hW : Wf m)
    (h1 : Cl X 0 mX12_carryRow [.ref 535, .ref 547] m (fun v m2 => Go X 1 mX12_carriesAll Q 144 [(0, .ref 535), (1, .int x1), (2, .int x2)] (v.toList ++ []) m2)) :
    Go X 1 mX12_carriesAll Q 136 [(0, .ref 535), (1, .int x1), (2, .int x2)] [] m := by
  refine g_aload_n 0 dX12_carriesAll_136 rfl rfl ?_
  refine g_aload_n 0 dX12_carriesAll_137 rfl rfl ?_
  refine g_getR dX12_carriesAll_138 fl12_43 rfl sh535 (w12_12 hW sh535) ?_
  exact g_callV (As := [.ref 547]) (st := []) dX12_carriesAll_141 clX12_490 sh535 rfl rfl (Nat.le_of_ble_eq_true rfl) (rmSH (by decide) (by decide)) h1
theorem bX12_carriesAll_144 {X : pX} {Q : Option Value → pMem → Prop} {m : pMem} {x1 : Int32} {x2 : Int32} (hW : Wf m)
    (h1 : Cl X 0 mX12_carryRow [.ref 535, .ref 564] m (fun v m2 => Go X 1 mX12_carriesAll Q 152 [(0, .ref 535), (1, .int x1), (2, .int x2)] (v.toList ++ []) m2)) :
    Go X 1 mX12_carriesAll Q 144 [(0, .ref 535), (1, .int x1), (2, .int x2)] [] m := by
  refine g_aload_n 0 dX12_carriesAll_144 rfl rfl ?_
  refine g_aload_n 0 dX12_carriesAll_145 rfl rfl ?_
  refine g_getR dX12_carriesAll_146 fl12_100 rfl sh535 (w12_39 hW sh535) ?_
  exact g_callV (As := [.ref 564]) (st := []) dX12_carriesAll_149 clX12_490 sh535 rfl rfl (Nat.le_of_ble_eq_true rfl) (rmSH (by decide) (by decide)) h1
theorem bX12_carriesAll_152 {X : pX} {Q : Option Value → pMem → Prop} {m : pMem} {x1 : Int32} {x2 : Int32} (hW : Wf m)
    (h1 : Q none m) :
    Go X 1 mX12_carriesAll Q 152 [(0, .ref 535), (1, .int x1), (2, .int x2)] [] m := by
  exact g_vret dX12_carriesAll_152 rfl enSH h1
theorem bX12_movesAll_0 {X : pX} {Q : Option Value → pMem → Prop} {m : pMem} {x1 : Int32} {x2 : Int32} (hW : Wf m)
    (h1 : x2 = 0 ∨ x2 = 1)
    (h2 : Cl X 0 mX12_moves [.ref 535, .int (mI m 536 5)] (uI (uI m 535 42 ((15 : Int32) * x1)) 535 43 x2) (fun v m2 => Go X 2 mX12_movesAll Q 28 [(0, .ref 535), (1, .int x1), (2, .int x2)] (v.toList ++ [.int (5 : Int32), .ref 536]) m2)) :
    Go X 2 mX12_movesAll Q 0 [(0, .ref 535), (1, .int x1), (2, .int x2)] [] m := by
  refine g_aload_n 0 dX12_movesAll_0 rfl rfl ?_
  refine g_bipush (v := 15) dX12_movesAll_1 (by decide) ?_
  refine g_iload_n 1 dX12_movesAll_3 rfl rfl ?_
  refine g_imul dX12_movesAll_4 ?_
  refine g_putI dX12_movesAll_5 fl12_375 (fun h => by cases h) sh535 ?_
  refine g_aload_n 0 dX12_movesAll_8 rfl rfl ?_
  refine g_iload_n 2 dX12_movesAll_9 rfl rfl ?_
  refine g_putZ dX12_movesAll_10 fl12_371 (fun h => by cases h) sh535 h1 ?_
  refine g_aload_n 0 dX12_movesAll_13 rfl rfl ?_
  refine g_getR dX12_movesAll_14 fl12_9 rfl sh535 (w12_1 hW sh535) ?_
  refine g_iconst (v := 5) dX12_movesAll_17 (by decide) ?_
  refine g_aload_n 0 dX12_movesAll_18 rfl rfl ?_
  refine g_aload_n 0 dX12_movesAll_19 rfl rfl ?_
  refine g_getR dX12_movesAll_20 fl12_9 rfl sh535 (w12_1 hW sh535) ?_
  refine g_iconst (v := 5) dX12_movesAll_23 (by decide) ?_
  refine g_iald (j := 5) dX12_movesAll_24 (s12_1 sh535) (by unfold vp_in; decide) (by decide) ?_
  exact g_callV (As := [.int (mI m 536 5)]) (st := [.int (5 : Int32), .ref 536]) dX12_movesAll_25 clX12_378 sh535 rfl rfl (Nat.le_of_ble_eq_true rfl) (rmSH (by decide) (by decide)) h2
theorem bX12_movesAll_28 {X : pX} {Q : Option Value → pMem → Prop} {m : pMem} {x1 : Int32} {x2 : Int32} {xs0 : Int32} {as2 : Nat} (hW : Wf m) (cs2 : SH[as2]? = some (.inr (.int, 9)))
    (h1 : Cl X 1 mX12_movesRow [.ref 535, .ref 537] (uI m as2 5 xs0) (fun v m2 => Go X 2 mX12_movesAll Q 37 [(0, .ref 535), (1, .int x1), (2, .int x2)] (v.toList ++ []) m2)) :
    Go X 2 mX12_movesAll Q 28 [(0, .ref 535), (1, .int x1), (2, .int x2)] [.int xs0, .int (5 : Int32), .ref as2] m := by
  refine g_iast (j := 5) dX12_movesAll_28 cs2 (by unfold vp_in; decide) (by decide) ?_
  refine g_aload_n 0 dX12_movesAll_29 rfl rfl ?_
  refine g_aload_n 0 dX12_movesAll_30 rfl rfl ?_
  refine g_getR dX12_movesAll_31 fl12_13 rfl sh535 (w12_2 hW sh535) ?_
  exact g_callV (As := [.ref 537]) (st := []) dX12_movesAll_34 clX12_381 sh535 rfl rfl (Nat.le_of_ble_eq_true rfl) (rmSH (by decide) (by decide)) h1
theorem bX12_movesAll_37 {X : pX} {Q : Option Value → pMem → Prop} {m : pMem} {x1 : Int32} {x2 : Int32} (hW : Wf m)
    (h1 : Cl X 1 mX12_movesRow [.ref 535, .ref 538] m (fun v m2 => Go X 2 mX12_movesAll Q 45 [(0, .ref 535), (1, .int x1), (2, .int x2)] (v.toList ++ []) m2)) :
    Go X 2 mX12_movesAll Q 37 [(0, .ref 535), (1, .int x1), (2, .int x2)] [] m := by
  refine g_aload_n 0 dX12_movesAll_37 rfl rfl ?_
  refine g_aload_n 0 dX12_movesAll_38 rfl rfl ?_
  refine g_getR dX12_movesAll_39 fl12_16 rfl sh535 (w12_3 hW sh535) ?_
  exact g_callV (As := [.ref 538]) (st := []) dX12_movesAll_42 clX12_381 sh535 rfl rfl (Nat.le_of_ble_eq_true rfl) (rmSH (by decide) (by decide)) h1
theorem bX12_movesAll_45 {X : pX} {Q : Option Value → pMem → Prop} {m : pMem} {x1 : Int32} {x2 : Int32} (hW : Wf m)
    (h1 : Cl X 1 mX12_movesRow [.ref 535, .ref 539] m (fun v m2 => Go X 2 mX12_movesAll Q 53 [(0, .ref 535), (1, .int x1), (2, .int x2)] (v.toList ++ []) m2)) :
    Go X 2 mX12_movesAll Q 45 [(0, .ref 535), (1, .int x1), (2, .int x2)] [] m := by
  refine g_aload_n 0 dX12_movesAll_45 rfl rfl ?_
  refine g_aload_n 0 dX12_movesAll_46 rfl rfl ?_
  refine g_getR dX12_movesAll_47 fl12_19 rfl sh535 (w12_4 hW sh535) ?_
  exact g_callV (As := [.ref 539]) (st := []) dX12_movesAll_50 clX12_381 sh535 rfl rfl (Nat.le_of_ble_eq_true rfl) (rmSH (by decide) (by decide)) h1
theorem bX12_movesAll_53 {X : pX} {Q : Option Value → pMem → Prop} {m : pMem} {x1 : Int32} {x2 : Int32} (hW : Wf m)
    (h1 : Q none m) :
    Go X 2 mX12_movesAll Q 53 [(0, .ref 535), (1, .int x1), (2, .int x2)] [] m := by
  exact g_vret dX12_movesAll_53 rfl enSH h1
theorem bX12_keepsAct_0 {X : pX} {Q : Option Value → pMem → Prop} {m : pMem} (hW : Wf m)
    (h1 : ¬ (mI m 535 41) = (20 : Int32) → Cl X 2 mX12_movesAll [.ref 535, .int (mI m 535 41), .int (0 : Int32)] m (fun v m2 => Go X 3 mX12_keepsAct Q 59 [(0, .ref 535)] (v.toList ++ []) m2))
    (h2 : (mI m 535 41) = (20 : Int32) → Go X 3 mX12_keepsAct Q 12 [(0, .ref 535), (1, .int (15 : Int32))] [] m) :
    Go X 3 mX12_keepsAct Q 0 [(0, .ref 535)] [] m := by
  refine g_aload_n 0 dX12_keepsAct_0 rfl rfl ?_
  refine g_getI dX12_keepsAct_1 fl12_299 sh535 ?_
  refine g_bipush (v := 20) dX12_keepsAct_4 (by decide) ?_
  refine g_icmp_ne 50 dX12_keepsAct_6 (by decide) (fun q1 => ?_) (fun q1 => ?_)
  · refine g_aload_n 0 dX12_keepsAct_50 rfl rfl ?_
    refine g_aload_n 0 dX12_keepsAct_51 rfl rfl ?_
    refine g_getI dX12_keepsAct_52 fl12_299 sh535 ?_
    refine g_iconst (v := 0) dX12_keepsAct_55 (by decide) ?_
    exact g_callV (As := [.int (mI m 535 41), .int (0 : Int32)]) (st := []) dX12_keepsAct_56 clX12_385 sh535 rfl rfl (Nat.le_of_ble_eq_true rfl) (rmSH (by decide) (by decide)) (h1 q1)
  · refine g_bipush (v := 15) dX12_keepsAct_9 (by decide) ?_
    refine g_istore_n (ls2 := [(1, .int (15 : Int32)), (0, .ref 535)]) dX12_keepsAct_11 rfl (by decide) rfl ?_
    exact g_ls [1, 0] rfl (h2 q1)
theorem bX12_keepsAct_59 {X : pX} {Q : Option Value → pMem → Prop} {m : pMem} (hW : Wf m)
    (h1 : Q none (uI m 535 41 ((mI m 535 41) + (1 : Int32)))) :
    Go X 3 mX12_keepsAct Q 59 [(0, .ref 535)] [] m := by
  refine g_aload_n 0 dX12_keepsAct_59 rfl rfl ?_
  refine g_dup dX12_keepsAct_60 rfl ?_
  refine g_getI dX12_keepsAct_61 fl12_299 sh535 ?_
  refine g_iconst (v := 1) dX12_keepsAct_64 (by decide) ?_
  refine g_iadd dX12_keepsAct_65 ?_
  refine g_putI dX12_keepsAct_66 fl12_299 (fun h => by cases h) sh535 ?_
  exact g_vret dX12_keepsAct_69 rfl enSH h1
theorem bX12_keepsAct_12 {X : pX} {Q : Option Value → pMem → Prop} {m : pMem} {x1 : Int32} (hW : Wf m)
    (h1 : (300 : Int32) ≤ x1 → Cl X 2 mX12_movesAll [.ref 535, .int ((mI m 535 41) - (1 : Int32)), .int (0 : Int32)] (uI m 535 41 ((mI m 535 41) - (1 : Int32))) (fun v m2 => Go X 3 mX12_keepsAct Q 59 [(0, .ref 535), (1, .int x1)] (v.toList ++ []) m2))
    (h2 : ¬ ((300 : Int32) ≤ x1) → vp_in x1 300)
    (h3 : ¬ ((300 : Int32) ≤ x1) → vp_in (x1 - (15 : Int32)) 300)
    (h4 : ¬ ((300 : Int32) ≤ x1) → Go X 3 mX12_keepsAct Q 12 [(0, .ref 535), (1, .int (x1 + (1 : Int32)))] [] (uI m 564 ((x1 - (15 : Int32)).toNatClampNeg) (mI m 564 x1.toNatClampNeg))) :
    Go X 3 mX12_keepsAct Q 12 [(0, .ref 535), (1, .int x1)] [] m := by
  refine g_iload_n 1 dX12_keepsAct_12 rfl rfl ?_
  refine g_sipush (v := 300) dX12_keepsAct_13 (by decide) ?_
  refine g_icmp_ge 40 dX12_keepsAct_16 (by decide) (fun q1 => ?_) (fun q1 => ?_)
  · refine g_aload_n 0 dX12_keepsAct_40 rfl rfl ?_
    refine g_dup dX12_keepsAct_41 rfl ?_
    refine g_getI dX12_keepsAct_42 fl12_299 sh535 ?_
    refine g_iconst (v := 1) dX12_keepsAct_45 (by decide) ?_
    refine g_isub dX12_keepsAct_46 ?_
    refine g_putI dX12_keepsAct_47 fl12_299 (fun h => by cases h) sh535 ?_
    refine g_aload_n 0 dX12_keepsAct_50 rfl rfl ?_
    refine g_aload_n 0 dX12_keepsAct_51 rfl rfl ?_
    refine g_getI dX12_keepsAct_52 fl12_299 sh535 ?_
    refine g_iconst (v := 0) dX12_keepsAct_55 (by decide) ?_
    exact g_callV (As := [.int ((mI m 535 41) - (1 : Int32)), .int (0 : Int32)]) (st := []) dX12_keepsAct_56 clX12_385 sh535 rfl rfl (Nat.le_of_ble_eq_true rfl) (rmSH (by decide) (by decide)) (h1 q1)
  · refine g_aload_n 0 dX12_keepsAct_19 rfl rfl ?_
    refine g_getR dX12_keepsAct_20 fl12_100 rfl sh535 (w12_39 hW sh535) ?_
    refine g_iload_n 1 dX12_keepsAct_23 rfl rfl ?_
    refine g_bipush (v := 15) dX12_keepsAct_24 (by decide) ?_
    refine g_isub dX12_keepsAct_26 ?_
    refine g_aload_n 0 dX12_keepsAct_27 rfl rfl ?_
    refine g_getR dX12_keepsAct_28 fl12_100 rfl sh535 (w12_39 hW sh535) ?_
    refine g_iload_n 1 dX12_keepsAct_31 rfl rfl ?_
    refine g_iald (j := x1.toNatClampNeg) dX12_keepsAct_32 (s12_39 sh535) (h2 q1) rfl ?_
    refine g_iast (j := (x1 - (15 : Int32)).toNatClampNeg) dX12_keepsAct_33 (s12_39 sh535) (h3 q1) rfl ?_
    refine g_iinc (v := x1 + (1 : Int32)) (ls2 := [(1, .int (x1 + (1 : Int32))), (0, .ref 535)]) 1 dX12_keepsAct_34 rfl rfl (by decide) rfl ?_
    refine g_goto 12 dX12_keepsAct_37 (by decide) ?_
    exact g_ls [1, 0] rfl (h4 q1)
theorem bX12_keepsAct_59v1 {X : pX} {Q : Option Value → pMem → Prop} {m : pMem} {x1 : Int32} (hW : Wf m)
    (h1 : Q none (uI m 535 41 ((mI m 535 41) + (1 : Int32)))) :
    Go X 3 mX12_keepsAct Q 59 [(0, .ref 535), (1, .int x1)] [] m := by
  refine g_aload_n 0 dX12_keepsAct_59 rfl rfl ?_
  refine g_dup dX12_keepsAct_60 rfl ?_
  refine g_getI dX12_keepsAct_61 fl12_299 sh535 ?_
  refine g_iconst (v := 1) dX12_keepsAct_64 (by decide) ?_
  refine g_iadd dX12_keepsAct_65 ?_
  refine g_putI dX12_keepsAct_66 fl12_299 (fun h => by cases h) sh535 ?_
  exact g_vret dX12_keepsAct_69 rfl enSH h1
