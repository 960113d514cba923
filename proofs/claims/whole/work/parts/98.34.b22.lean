theorem bX5_readHands_0 {X : pX} {Q : Option Value → pMem → Prop} {m : pMem} (hW : Wf m)
    (h1 : Cl X 1 mX9_next [.ref 1] m (fun v m2 => Go X 2 mX5_readHands Q 7 [(0, .ref 3)] (v.toList ++ []) m2)) :
    Go X 2 mX5_readHands Q 0 [(0, .ref 3)] [] m := by
  refine g_aload_n 0 dX5_readHands_0 rfl rfl ?_
  refine g_getR dX5_readHands_1 fl5_18 rfl sh3 (w5_0 hW sh3) ?_
  exact g_callV (As := []) (st := []) dX5_readHands_4 clX5_34 sh1 rfl rfl (Nat.le_of_ble_eq_true rfl) (rmSH (by decide) (by decide)) h1
theorem bX5_readHands_7 {X : pX} {Q : Option Value → pMem → Prop} {m : pMem} {xs0 : Int32} (hW : Wf m)
    (h1 : Cl X 1 mX9_number [.ref 1, .int (0 : Int32), .int (4 : Int32)] m (fun v m2 => Go X 2 mX5_readHands Q 21 [(0, .ref 3)] (v.toList ++ [.ref 4]) m2)) :
    Go X 2 mX5_readHands Q 7 [(0, .ref 3)] [.int xs0] m := by
  refine g_pop dX5_readHands_7 rfl ?_
  refine g_aload_n 0 dX5_readHands_8 rfl rfl ?_
  refine g_getR dX5_readHands_9 fl5_12 rfl sh3 (w5_1 hW sh3) ?_
  refine g_aload_n 0 dX5_readHands_12 rfl rfl ?_
  refine g_getR dX5_readHands_13 fl5_18 rfl sh3 (w5_0 hW sh3) ?_
  refine g_iconst (v := 0) dX5_readHands_16 (by decide) ?_
  refine g_iconst (v := 4) dX5_readHands_17 (by decide) ?_
  exact g_callV (As := [.int (0 : Int32), .int (4 : Int32)]) (st := [.ref 4]) dX5_readHands_18 clX5_87 sh1 rfl rfl (Nat.le_of_ble_eq_true rfl) (rmSH (by decide) (by decide)) h1
theorem bX5_readHands_21 {X : pX} {Q : Option Value → pMem → Prop} {m : pMem} {xs0 : Int32} {as1 : Nat} (hW : Wf m) (cs1 : SH[as1]? = some (.inl 4))
    (h1 : (mI (uI m as1 1 xs0) 4 1) = (-1 : Int32) → Q (some (.int (0 : Int32))) (uI m as1 1 xs0))
    (h2 : ¬ ((mI (uI m as1 1 xs0) 4 1) = (-1 : Int32)) → Q (some (.int (1 : Int32))) (uI m as1 1 xs0)) :
    Go X 2 mX5_readHands Q 21 [(0, .ref 3)] [.int xs0, .ref as1] m := by
  refine g_putI dX5_readHands_21 fl5_91 (fun h => by cases h) cs1 ?_
  refine g_aload_n 0 dX5_readHands_24 rfl rfl ?_
  refine g_getR dX5_readHands_25 fl5_12 rfl sh3 (w5_1 hW sh3) ?_
  refine g_getI dX5_readHands_28 fl5_91 (s5_1 sh3) ?_
  refine g_iconst (v := -1) dX5_readHands_31 (by decide) ?_
  refine g_icmp_eq 39 dX5_readHands_32 (by decide) (fun q1 => ?_) (fun q1 => ?_)
  · refine g_iconst (v := 0) dX5_readHands_39 (by decide) ?_
    exact g_bret dX5_readHands_40 rfl (Or.inl rfl) enSH (h1 q1)
  · refine g_iconst (v := 1) dX5_readHands_35 (by decide) ?_
    refine g_goto 40 dX5_readHands_36 (by decide) ?_
    exact g_bret dX5_readHands_40 rfl (Or.inr rfl) enSH (h2 q1)
theorem bX5_readStage_0 {X : pX} {Q : Option Value → pMem → Prop} {m : pMem} (hW : Wf m)
    (h1 : Cl X 1 mX9_next [.ref 1] m (fun v m2 => Go X 2 mX5_readStage Q 7 [(0, .ref 3)] (v.toList ++ []) m2)) :
    Go X 2 mX5_readStage Q 0 [(0, .ref 3)] [] m := by
  refine g_aload_n 0 dX5_readStage_0 rfl rfl ?_
  refine g_getR dX5_readStage_1 fl5_18 rfl sh3 (w5_0 hW sh3) ?_
  exact g_callV (As := []) (st := []) dX5_readStage_4 clX5_34 sh1 rfl rfl (Nat.le_of_ble_eq_true rfl) (rmSH (by decide) (by decide)) h1
theorem bX5_readStage_7 {X : pX} {Q : Option Value → pMem → Prop} {m : pMem} {xs0 : Int32} (hW : Wf m)
    (h1 : Cl X 1 mX9_number [.ref 1, .int (1 : Int32), .int (60 : Int32)] m (fun v m2 => Go X 2 mX5_readStage Q 18 [(0, .ref 3)] (v.toList ++ []) m2)) :
    Go X 2 mX5_readStage Q 7 [(0, .ref 3)] [.int xs0] m := by
  refine g_pop dX5_readStage_7 rfl ?_
  refine g_aload_n 0 dX5_readStage_8 rfl rfl ?_
  refine g_getR dX5_readStage_9 fl5_18 rfl sh3 (w5_0 hW sh3) ?_
  refine g_iconst (v := 1) dX5_readStage_12 (by decide) ?_
  refine g_bipush (v := 60) dX5_readStage_13 (by decide) ?_
  exact g_callV (As := [.int (1 : Int32), .int (60 : Int32)]) (st := []) dX5_readStage_15 clX5_87 sh1 rfl rfl (Nat.le_of_ble_eq_true rfl) (rmSH (by decide) (by decide)) h1
theorem bX5_readStage_18 {X : pX} {Q : Option Value → pMem → Prop} {m : pMem} {xs0 : Int32} (hW : Wf m)
    (h1 : ¬ xs0 = (-1 : Int32) → vp_in (mI m 4 2) 8)
    (h2 : ¬ xs0 = (-1 : Int32) → Q (some (.int (1 : Int32))) (uI (uI m 5 ((mI m 4 2).toNatClampNeg) xs0) 4 2 ((mI m 4 2) + (1 : Int32))))
    (h3 : xs0 = (-1 : Int32) → Q (some (.int (0 : Int32))) m) :
    Go X 2 mX5_readStage Q 18 [(0, .ref 3)] [.int xs0] m := by
  refine g_istore_n (ls2 := [(1, .int xs0), (0, .ref 3)]) dX5_readStage_18 rfl (by decide) rfl ?_
  refine g_iload_n 0 dX5_readStage_19 rfl rfl ?_
  refine g_iconst (v := -1) dX5_readStage_20 (by decide) ?_
  refine g_icmp_ne 26 dX5_readStage_21 (by decide) (fun q1 => ?_) (fun q1 => ?_)
  · refine g_aload_n 1 dX5_readStage_26 rfl rfl ?_
    refine g_getR dX5_readStage_27 fl5_12 rfl sh3 (w5_1 hW sh3) ?_
    refine g_getR dX5_readStage_30 fl5_94 rfl (s5_1 sh3) (w4_5 hW (s5_1 sh3)) ?_
    refine g_aload_n 1 dX5_readStage_33 rfl rfl ?_
    refine g_getR dX5_readStage_34 fl5_12 rfl sh3 (w5_1 hW sh3) ?_
    refine g_getI dX5_readStage_37 fl5_78 (s5_1 sh3) ?_
    refine g_iload_n 0 dX5_readStage_40 rfl rfl ?_
    refine g_iast (j := (mI m 4 2).toNatClampNeg) dX5_readStage_41 (s4_5 (s5_1 sh3)) (h1 q1) rfl ?_
    refine g_aload_n 1 dX5_readStage_42 rfl rfl ?_
    refine g_getR dX5_readStage_43 fl5_12 rfl sh3 (w5_1 hW sh3) ?_
    refine g_dup dX5_readStage_46 rfl ?_
    refine g_getI dX5_readStage_47 fl5_78 (s5_1 sh3) ?_
    refine g_iconst (v := 1) dX5_readStage_50 (by decide) ?_
    refine g_iadd dX5_readStage_51 ?_
    refine g_putI dX5_readStage_52 fl5_78 (fun h => by cases h) (s5_1 sh3) ?_
    refine g_iconst (v := 1) dX5_readStage_55 (by decide) ?_
    exact g_bret dX5_readStage_56 rfl (Or.inr rfl) enSH (h2 q1)
  · refine g_iconst (v := 0) dX5_readStage_24 (by decide) ?_
    exact g_bret dX5_readStage_25 rfl (Or.inl rfl) enSH (h3 q1)
theorem bX5_readPerson_0 {X : pX} {Q : Option Value → pMem → Prop} {m : pMem} (hW : Wf m)
    (h1 : Cl X 1 mX9_next [.ref 1] m (fun v m2 => Go X 2 mX5_readPerson Q 7 [(0, .ref 3)] (v.toList ++ []) m2)) :
    Go X 2 mX5_readPerson Q 0 [(0, .ref 3)] [] m := by
  refine g_aload_n 0 dX5_readPerson_0 rfl rfl ?_
  refine g_getR dX5_readPerson_1 fl5_18 rfl sh3 (w5_0 hW sh3) ?_
  exact g_callV (As := []) (st := []) dX5_readPerson_4 clX5_34 sh1 rfl rfl (Nat.le_of_ble_eq_true rfl) (rmSH (by decide) (by decide)) h1
theorem bX5_readPerson_7 {X : pX} {Q : Option Value → pMem → Prop} {m : pMem} {xs0 : Int32} (hW : Wf m)
    (h1 : Cl X 1 mX9_number [.ref 1, .int (1 : Int32), .int (20 : Int32)] m (fun v m2 => Go X 2 mX5_readPerson Q 18 [(0, .ref 3)] (v.toList ++ []) m2)) :
    Go X 2 mX5_readPerson Q 7 [(0, .ref 3)] [.int xs0] m := by
  refine g_pop dX5_readPerson_7 rfl ?_
  refine g_aload_n 0 dX5_readPerson_8 rfl rfl ?_
  refine g_getR dX5_readPerson_9 fl5_18 rfl sh3 (w5_0 hW sh3) ?_
  refine g_iconst (v := 1) dX5_readPerson_12 (by decide) ?_
  refine g_bipush (v := 20) dX5_readPerson_13 (by decide) ?_
  exact g_callV (As := [.int (1 : Int32), .int (20 : Int32)]) (st := []) dX5_readPerson_15 clX5_87 sh1 rfl rfl (Nat.le_of_ble_eq_true rfl) (rmSH (by decide) (by decide)) h1
theorem bX5_readPerson_18 {X : pX} {Q : Option Value → pMem → Prop} {m : pMem} {xs0 : Int32} (hW : Wf m)
    (h1 : ¬ xs0 = (-1 : Int32) → vp_in (mI m 4 3) 4)
    (h2 : ¬ xs0 = (-1 : Int32) → Q (some (.int (1 : Int32))) (uI (uI m 6 ((mI m 4 3).toNatClampNeg) xs0) 4 3 ((mI m 4 3) + (1 : Int32))))
    (h3 : xs0 = (-1 : Int32) → Q (some (.int (0 : Int32))) m) :
    Go X 2 mX5_readPerson Q 18 [(0, .ref 3)] [.int xs0] m := by
  refine g_istore_n (ls2 := [(1, .int xs0), (0, .ref 3)]) dX5_readPerson_18 rfl (by decide) rfl ?_
  refine g_iload_n 0 dX5_readPerson_19 rfl rfl ?_
  refine g_iconst (v := -1) dX5_readPerson_20 (by decide) ?_
  refine g_icmp_ne 26 dX5_readPerson_21 (by decide) (fun q1 => ?_) (fun q1 => ?_)
  · refine g_aload_n 1 dX5_readPerson_26 rfl rfl ?_
    refine g_getR dX5_readPerson_27 fl5_12 rfl sh3 (w5_1 hW sh3) ?_
    refine g_getR dX5_readPerson_30 fl5_98 rfl (s5_1 sh3) (w4_6 hW (s5_1 sh3)) ?_
    refine g_aload_n 1 dX5_readPerson_33 rfl rfl ?_
    refine g_getR dX5_readPerson_34 fl5_12 rfl sh3 (w5_1 hW sh3) ?_
    refine g_getI dX5_readPerson_37 fl5_81 (s5_1 sh3) ?_
    refine g_iload_n 0 dX5_readPerson_40 rfl rfl ?_
    refine g_iast (j := (mI m 4 3).toNatClampNeg) dX5_readPerson_41 (s4_6 (s5_1 sh3)) (h1 q1) rfl ?_
    refine g_aload_n 1 dX5_readPerson_42 rfl rfl ?_
    refine g_getR dX5_readPerson_43 fl5_12 rfl sh3 (w5_1 hW sh3) ?_
    refine g_dup dX5_readPerson_46 rfl ?_
    refine g_getI dX5_readPerson_47 fl5_81 (s5_1 sh3) ?_
    refine g_iconst (v := 1) dX5_readPerson_50 (by decide) ?_
    refine g_iadd dX5_readPerson_51 ?_
    refine g_putI dX5_readPerson_52 fl5_81 (fun h => by cases h) (s5_1 sh3) ?_
    refine g_iconst (v := 1) dX5_readPerson_55 (by decide) ?_
    exact g_bret dX5_readPerson_56 rfl (Or.inr rfl) enSH (h2 q1)
  · refine g_iconst (v := 0) dX5_readPerson_24 (by decide) ?_
    exact g_bret dX5_readPerson_25 rfl (Or.inl rfl) enSH (h3 q1)
theorem bX5_readThing_0 {X : pX} {Q : Option Value → pMem → Prop} {m : pMem} (hW : Wf m)
    (h1 : Cl X 1 mX9_next [.ref 1] m (fun v m2 => Go X 2 mX5_readThing Q 7 [(0, .ref 3)] (v.toList ++ []) m2)) :
    Go X 2 mX5_readThing Q 0 [(0, .ref 3)] [] m := by
  refine g_aload_n 0 dX5_readThing_0 rfl rfl ?_
  refine g_getR dX5_readThing_1 fl5_18 rfl sh3 (w5_0 hW sh3) ?_
  exact g_callV (As := []) (st := []) dX5_readThing_4 clX5_34 sh1 rfl rfl (Nat.le_of_ble_eq_true rfl) (rmSH (by decide) (by decide)) h1
theorem bX5_readThing_7 {X : pX} {Q : Option Value → pMem → Prop} {m : pMem} {xs0 : Int32} (hW : Wf m)
    (h1 : Cl X 1 mX9_number [.ref 1, .int (0 : Int32), .int (9 : Int32)] m (fun v m2 => Go X 2 mX5_readThing Q 18 [(0, .ref 3)] (v.toList ++ []) m2)) :
    Go X 2 mX5_readThing Q 7 [(0, .ref 3)] [.int xs0] m := by
  refine g_pop dX5_readThing_7 rfl ?_
  refine g_aload_n 0 dX5_readThing_8 rfl rfl ?_
  refine g_getR dX5_readThing_9 fl5_18 rfl sh3 (w5_0 hW sh3) ?_
  refine g_iconst (v := 0) dX5_readThing_12 (by decide) ?_
  refine g_bipush (v := 9) dX5_readThing_13 (by decide) ?_
  exact g_callV (As := [.int (0 : Int32), .int (9 : Int32)]) (st := []) dX5_readThing_15 clX5_87 sh1 rfl rfl (Nat.le_of_ble_eq_true rfl) (rmSH (by decide) (by decide)) h1
theorem bX5_readThing_18 {X : pX} {Q : Option Value → pMem → Prop} {m : pMem} {xs0 : Int32} (hW : Wf m)
    (h1 : ¬ xs0 = (-1 : Int32) → Cl X 1 mX9_next [.ref 1] m (fun v m2 => Go X 2 mX5_readThing Q 33 [(0, .ref 3), (1, .int xs0)] (v.toList ++ []) m2))
    (h2 : xs0 = (-1 : Int32) → Q (some (.int (0 : Int32))) m) :
    Go X 2 mX5_readThing Q 18 [(0, .ref 3)] [.int xs0] m := by
  refine g_istore_n (ls2 := [(1, .int xs0), (0, .ref 3)]) dX5_readThing_18 rfl (by decide) rfl ?_
  refine g_iload_n 0 dX5_readThing_19 rfl rfl ?_
  refine g_iconst (v := -1) dX5_readThing_20 (by decide) ?_
  refine g_icmp_ne 26 dX5_readThing_21 (by decide) (fun q1 => ?_) (fun q1 => ?_)
  · refine g_aload_n 1 dX5_readThing_26 rfl rfl ?_
    refine g_getR dX5_readThing_27 fl5_18 rfl sh3 (w5_0 hW sh3) ?_
    refine g_ls [1, 0] (ls2 := [(0, .ref 3), (1, .int xs0)]) rfl ?_
    exact g_callV (As := []) (st := []) dX5_readThing_30 clX5_34 sh1 rfl rfl (Nat.le_of_ble_eq_true rfl) (rmSH (by decide) (by decide)) (h1 q1)
  · refine g_iconst (v := 0) dX5_readThing_24 (by decide) ?_
    exact g_bret dX5_readThing_25 rfl (Or.inl rfl) enSH (h2 q1)
theorem bX5_readThing_33 {X : pX} {Q : Option Value → pMem → Prop} {m : pMem} {x1 : Int32} {xs0 : Int32} (hW : Wf m)
    (h1 : Cl X 1 mX9_number [.ref 1, .int (0 : Int32), .int (50 : Int32)] m (fun v m2 => Go X 2 mX5_readThing Q 44 [(0, .ref 3), (1, .int x1)] (v.toList ++ []) m2)) :
    Go X 2 mX5_readThing Q 33 [(0, .ref 3), (1, .int x1)] [.int xs0] m := by
  refine g_pop dX5_readThing_33 rfl ?_
  refine g_aload_n 0 dX5_readThing_34 rfl rfl ?_
  refine g_getR dX5_readThing_35 fl5_18 rfl sh3 (w5_0 hW sh3) ?_
  refine g_iconst (v := 0) dX5_readThing_38 (by decide) ?_
  refine g_bipush (v := 50) dX5_readThing_39 (by decide) ?_
  exact g_callV (As := [.int (0 : Int32), .int (50 : Int32)]) (st := []) dX5_readThing_41 clX5_87 sh1 rfl rfl (Nat.le_of_ble_eq_true rfl) (rmSH (by decide) (by decide)) h1
theorem bX5_readThing_44 {X : pX} {Q : Option Value → pMem → Prop} {m : pMem} {x1 : Int32} {xs0 : Int32} (hW : Wf m)
    (h1 : ¬ xs0 = (-1 : Int32) → vp_in (mI m 4 4) 6)
    (h2 : ¬ xs0 = (-1 : Int32) → Q (some (.int (1 : Int32))) (uI (uI (uI (uI m 7 ((mI m 4 4).toNatClampNeg) x1) 8 ((mI m 4 4).toNatClampNeg) xs0) 9 ((mI m 4 4).toNatClampNeg) (10 : Int32)) 4 4 ((mI m 4 4) + (1 : Int32))))
    (h3 : xs0 = (-1 : Int32) → Q (some (.int (0 : Int32))) m) :
    Go X 2 mX5_readThing Q 44 [(0, .ref 3), (1, .int x1)] [.int xs0] m := by
  refine g_istore_n (ls2 := [(2, .int xs0), (0, .ref 3), (1, .int x1)]) dX5_readThing_44 rfl (by decide) rfl ?_
  refine g_iload_n 0 dX5_readThing_45 rfl rfl ?_
  refine g_iconst (v := -1) dX5_readThing_46 (by decide) ?_
  refine g_icmp_ne 52 dX5_readThing_47 (by decide) (fun q1 => ?_) (fun q1 => ?_)
  · refine g_aload_n 1 dX5_readThing_52 rfl rfl ?_
    refine g_getR dX5_readThing_53 fl5_12 rfl sh3 (w5_1 hW sh3) ?_
    refine g_getR dX5_readThing_56 fl5_101 rfl (s5_1 sh3) (w4_7 hW (s5_1 sh3)) ?_
    refine g_aload_n 1 dX5_readThing_59 rfl rfl ?_
    refine g_getR dX5_readThing_60 fl5_12 rfl sh3 (w5_1 hW sh3) ?_
    refine g_getI dX5_readThing_63 fl5_84 (s5_1 sh3) ?_
    refine g_iload_n 2 dX5_readThing_66 rfl rfl ?_
    refine g_iast (j := (mI m 4 4).toNatClampNeg) dX5_readThing_67 (s4_7 (s5_1 sh3)) (h1 q1) rfl ?_
    refine g_aload_n 1 dX5_readThing_68 rfl rfl ?_
    refine g_getR dX5_readThing_69 fl5_12 rfl sh3 (w5_1 hW sh3) ?_
    refine g_getR dX5_readThing_72 fl5_104 rfl (s5_1 sh3) (w4_8 hW (s5_1 sh3)) ?_
    refine g_aload_n 1 dX5_readThing_75 rfl rfl ?_
    refine g_getR dX5_readThing_76 fl5_12 rfl sh3 (w5_1 hW sh3) ?_
    refine g_getI dX5_readThing_79 fl5_84 (s5_1 sh3) ?_
    refine g_iload_n 0 dX5_readThing_82 rfl rfl ?_
    refine g_iast (j := (mI m 4 4).toNatClampNeg) dX5_readThing_83 (s4_8 (s5_1 sh3)) (h1 q1) rfl ?_
    refine g_aload_n 1 dX5_readThing_84 rfl rfl ?_
    refine g_getR dX5_readThing_85 fl5_12 rfl sh3 (w5_1 hW sh3) ?_
    refine g_getR dX5_readThing_88 fl5_107 rfl (s5_1 sh3) (w4_9 hW (s5_1 sh3)) ?_
    refine g_aload_n 1 dX5_readThing_91 rfl rfl ?_
    refine g_getR dX5_readThing_92 fl5_12 rfl sh3 (w5_1 hW sh3) ?_
    refine g_getI dX5_readThing_95 fl5_84 (s5_1 sh3) ?_
    refine g_bipush (v := 10) dX5_readThing_98 (by decide) ?_
    refine g_iast (j := (mI m 4 4).toNatClampNeg) dX5_readThing_100 (s4_9 (s5_1 sh3)) (h1 q1) rfl ?_
    refine g_aload_n 1 dX5_readThing_101 rfl rfl ?_
    refine g_getR dX5_readThing_102 fl5_12 rfl sh3 (w5_1 hW sh3) ?_
    refine g_dup dX5_readThing_105 rfl ?_
    refine g_getI dX5_readThing_106 fl5_84 (s5_1 sh3) ?_
    refine g_iconst (v := 1) dX5_readThing_109 (by decide) ?_
    refine g_iadd dX5_readThing_110 ?_
    refine g_putI dX5_readThing_111 fl5_84 (fun h => by cases h) (s5_1 sh3) ?_
    refine g_iconst (v := 1) dX5_readThing_114 (by decide) ?_
    exact g_bret dX5_readThing_115 rfl (Or.inr rfl) enSH (h2 q1)
  · refine g_iconst (v := 0) dX5_readThing_50 (by decide) ?_
    exact g_bret dX5_readThing_51 rfl (Or.inl rfl) enSH (h3 q1)
theorem bX5_readHas_0 {X : pX} {Q : Option Value → pMem → Prop} {m : pMem} (hW : Wf m)
    (h1 : Cl X 1 mX9_next [.ref 1] m (fun v m2 => Go X 2 mX5_readHas Q 7 [(0, .ref 3)] (v.toList ++ []) m2)) :
    Go X 2 mX5_readHas Q 0 [(0, .ref 3)] [] m := by
  refine g_aload_n 0 dX5_readHas_0 rfl rfl ?_
  refine g_getR dX5_readHas_1 fl5_18 rfl sh3 (w5_0 hW sh3) ?_
  exact g_callV (As := []) (st := []) dX5_readHas_4 clX5_34 sh1 rfl rfl (Nat.le_of_ble_eq_true rfl) (rmSH (by decide) (by decide)) h1
theorem bX5_readHas_7 {X : pX} {Q : Option Value → pMem → Prop} {m : pMem} {xs0 : Int32} (hW : Wf m)
    (h1 : Cl X 1 mX9_number [.ref 1, .int (0 : Int32), .int ((mI m 4 3) - (1 : Int32))] m (fun v m2 => Go X 2 mX5_readHas Q 33 [(0, .ref 3), (1, .int (mI m 1 2))] (v.toList ++ []) m2)) :
    Go X 2 mX5_readHas Q 7 [(0, .ref 3)] [.int xs0] m := by
  refine g_pop dX5_readHas_7 rfl ?_
  refine g_aload_n 0 dX5_readHas_8 rfl rfl ?_
  refine g_getR dX5_readHas_9 fl5_18 rfl sh3 (w5_0 hW sh3) ?_
  refine g_getI dX5_readHas_12 fl5_45 sh1 ?_
  refine g_istore_n (ls2 := [(1, .int (mI m 1 2)), (0, .ref 3)]) dX5_readHas_15 rfl (by decide) rfl ?_
  refine g_aload_n 1 dX5_readHas_16 rfl rfl ?_
  refine g_getR dX5_readHas_17 fl5_18 rfl sh3 (w5_0 hW sh3) ?_
  refine g_iconst (v := 0) dX5_readHas_20 (by decide) ?_
  refine g_aload_n 1 dX5_readHas_21 rfl rfl ?_
  refine g_getR dX5_readHas_22 fl5_12 rfl sh3 (w5_1 hW sh3) ?_
  refine g_getI dX5_readHas_25 fl5_81 (s5_1 sh3) ?_
  refine g_iconst (v := 1) dX5_readHas_28 (by decide) ?_
  refine g_isub dX5_readHas_29 ?_
  refine g_ls [1, 0] (ls2 := [(0, .ref 3), (1, .int (mI m 1 2))]) rfl ?_
  exact g_callV (As := [.int (0 : Int32), .int ((mI m 4 3) - (1 : Int32))]) (st := []) dX5_readHas_30 clX5_87 sh1 rfl rfl (Nat.le_of_ble_eq_true rfl) (rmSH (by decide) (by decide)) h1
theorem bX5_readHas_33 {X : pX} {Q : Option Value → pMem → Prop} {m : pMem} {x1 : Int32} {xs0 : Int32} (hW : Wf m)
    (h1 : ¬ xs0 = (-1 : Int32) → Cl X 0 mX5_manyOf [.ref 3, .int xs0] m (fun v m2 => Go X 2 mX5_readHas Q 46 [(0, .ref 3), (1, .int x1), (2, .int xs0)] (v.toList ++ []) m2))
    (h2 : xs0 = (-1 : Int32) → Q (some (.int (0 : Int32))) m) :
    Go X 2 mX5_readHas Q 33 [(0, .ref 3), (1, .int x1)] [.int xs0] m := by
  refine g_istore_n (ls2 := [(2, .int xs0), (0, .ref 3), (1, .int x1)]) dX5_readHas_33 rfl (by decide) rfl ?_
  refine g_iload_n 0 dX5_readHas_34 rfl rfl ?_
  refine g_iconst (v := -1) dX5_readHas_35 (by decide) ?_
  refine g_icmp_ne 41 dX5_readHas_36 (by decide) (fun q1 => ?_) (fun q1 => ?_)
  · refine g_aload_n 1 dX5_readHas_41 rfl rfl ?_
    refine g_iload_n 0 dX5_readHas_42 rfl rfl ?_
    refine g_ls [1, 2, 0] (ls2 := [(0, .ref 3), (1, .int x1), (2, .int xs0)]) rfl ?_
    exact g_callV (As := [.int xs0]) (st := []) dX5_readHas_43 clX5_110 sh3 rfl rfl (Nat.le_of_ble_eq_true rfl) (rmSH (by decide) (by decide)) (h1 q1)
  · refine g_iconst (v := 0) dX5_readHas_39 (by decide) ?_
    exact g_bret dX5_readHas_40 rfl (Or.inl rfl) enSH (h2 q1)
theorem bX5_readHas_46 {X : pX} {Q : Option Value → pMem → Prop} {m : pMem} {x1 : Int32} {x2 : Int32} {xs0 : Int32} (hW : Wf m)
    (h1 : xs0 < (mI m 4 1) → Cl X 1 mX9_next [.ref 1] m (fun v m2 => Go X 2 mX5_readHas Q 73 [(0, .ref 3), (1, .int x1), (2, .int x2)] (v.toList ++ []) m2))
    (h2 : ¬ (xs0 < (mI m 4 1)) → Cl X 0 mX9_fail [.ref 1, .int x1, .int (1 : Int32)] m (fun v m2 => Go X 2 mX5_readHas Q 65 [(0, .ref 3), (1, .int x1), (2, .int x2)] (v.toList ++ []) m2)) :
    Go X 2 mX5_readHas Q 46 [(0, .ref 3), (1, .int x1), (2, .int x2)] [.int xs0] m := by
  refine g_aload_n 0 dX5_readHas_46 rfl rfl ?_
  refine g_getR dX5_readHas_47 fl5_12 rfl sh3 (w5_1 hW sh3) ?_
  refine g_getI dX5_readHas_50 fl5_91 (s5_1 sh3) ?_
  refine g_icmp_lt 66 dX5_readHas_53 (by decide) (fun q1 => ?_) (fun q1 => ?_)
  · refine g_aload_n 0 dX5_readHas_66 rfl rfl ?_
    refine g_getR dX5_readHas_67 fl5_18 rfl sh3 (w5_0 hW sh3) ?_
    exact g_callV (As := []) (st := []) dX5_readHas_70 clX5_34 sh1 rfl rfl (Nat.le_of_ble_eq_true rfl) (rmSH (by decide) (by decide)) (h1 q1)
  · refine g_aload_n 0 dX5_readHas_56 rfl rfl ?_
    refine g_getR dX5_readHas_57 fl5_18 rfl sh3 (w5_0 hW sh3) ?_
    refine g_iload_n 1 dX5_readHas_60 rfl rfl ?_
    refine g_iconst (v := 1) dX5_readHas_61 (by decide) ?_
    exact g_callV (As := [.int x1, .int (1 : Int32)]) (st := []) dX5_readHas_62 clX5_49 sh1 rfl rfl (Nat.le_of_ble_eq_true rfl) (rmSH (by decide) (by decide)) (h2 q1)
theorem bX5_readHas_73 {X : pX} {Q : Option Value → pMem → Prop} {m : pMem} {x1 : Int32} {x2 : Int32} {xs0 : Int32} (hW : Wf m)
    (h1 : Cl X 1 mX9_number [.ref 1, .int (0 : Int32), .int ((mI m 4 4) - (1 : Int32))] m (fun v m2 => Go X 2 mX5_readHas Q 99 [(0, .ref 3), (1, .int x1), (2, .int x2), (3, .int (mI m 1 2))] (v.toList ++ []) m2)) :
    Go X 2 mX5_readHas Q 73 [(0, .ref 3), (1, .int x1), (2, .int x2)] [.int xs0] m := by
  refine g_pop dX5_readHas_73 rfl ?_
  refine g_aload_n 0 dX5_readHas_74 rfl rfl ?_
  refine g_getR dX5_readHas_75 fl5_18 rfl sh3 (w5_0 hW sh3) ?_
  refine g_getI dX5_readHas_78 fl5_45 sh1 ?_
  refine g_istore_n (ls2 := [(3, .int (mI m 1 2)), (0, .ref 3), (1, .int x1), (2, .int x2)]) dX5_readHas_81 rfl (by decide) rfl ?_
  refine g_aload_n 1 dX5_readHas_82 rfl rfl ?_
  refine g_getR dX5_readHas_83 fl5_18 rfl sh3 (w5_0 hW sh3) ?_
  refine g_iconst (v := 0) dX5_readHas_86 (by decide) ?_
  refine g_aload_n 1 dX5_readHas_87 rfl rfl ?_
  refine g_getR dX5_readHas_88 fl5_12 rfl sh3 (w5_1 hW sh3) ?_
  refine g_getI dX5_readHas_91 fl5_84 (s5_1 sh3) ?_
  refine g_iconst (v := 1) dX5_readHas_94 (by decide) ?_
  refine g_isub dX5_readHas_95 ?_
  refine g_ls [1, 2, 3, 0] (ls2 := [(0, .ref 3), (1, .int x1), (2, .int x2), (3, .int (mI m 1 2))]) rfl ?_
  exact g_callV (As := [.int (0 : Int32), .int ((mI m 4 4) - (1 : Int32))]) (st := []) dX5_readHas_96 clX5_87 sh1 rfl rfl (Nat.le_of_ble_eq_true rfl) (rmSH (by decide) (by decide)) h1
theorem bX5_readHas_65 {X : pX} {Q : Option Value → pMem → Prop} {m : pMem} {x1 : Int32} {x2 : Int32} {xs0 : Int32} (hW : Wf m)
    (h1 : xs0 = 0 ∨ xs0 = 1)
    (h2 : Q (some (.int xs0)) m) :
    Go X 2 mX5_readHas Q 65 [(0, .ref 3), (1, .int x1), (2, .int x2)] [.int xs0] m := by
  exact g_bret dX5_readHas_65 rfl h1 enSH h2
theorem bX5_readHas_99 {X : pX} {Q : Option Value → pMem → Prop} {m : pMem} {x1 : Int32} {x2 : Int32} {x3 : Int32} {xs0 : Int32} (hW : Wf m)
    (h1 : ¬ xs0 = (-1 : Int32) → vp_in xs0 6)
    (h2 : ¬ xs0 = (-1 : Int32) → (mI m 9 xs0.toNatClampNeg) = (10 : Int32) → vp_in xs0 6)
    (h3 : ¬ xs0 = (-1 : Int32) → (mI m 9 xs0.toNatClampNeg) = (10 : Int32) → Q (some (.int (1 : Int32))) (uI m 9 xs0.toNatClampNeg x2))
    (h4 : ¬ xs0 = (-1 : Int32) → ¬ ((mI m 9 xs0.toNatClampNeg) = (10 : Int32)) → Cl X 0 mX9_fail [.ref 1, .int x3, .int (1 : Int32)] m (fun v m2 => Go X 2 mX5_readHas Q 133 [(0, .ref 3), (1, .int x1), (2, .int x2), (3, .int x3), (4, .int xs0)] (v.toList ++ []) m2))
    (h5 : xs0 = (-1 : Int32) → Q (some (.int (0 : Int32))) m) :
    Go X 2 mX5_readHas Q 99 [(0, .ref 3), (1, .int x1), (2, .int x2), (3, .int x3)] [.int xs0] m := by
  refine g_istore (ls2 := [(4, .int xs0), (0, .ref 3), (1, .int x1), (2, .int x2), (3, .int x3)]) dX5_readHas_99 (by decide) rfl ?_
  refine g_iload 0 dX5_readHas_101 rfl ?_
  refine g_iconst (v := -1) dX5_readHas_103 (by decide) ?_
  refine g_icmp_ne 109 dX5_readHas_104 (by decide) (fun q1 => ?_) (fun q1 => ?_)
  · refine g_aload_n 1 dX5_readHas_109 rfl rfl ?_
    refine g_getR dX5_readHas_110 fl5_12 rfl sh3 (w5_1 hW sh3) ?_
    refine g_getR dX5_readHas_113 fl5_107 rfl (s5_1 sh3) (w4_9 hW (s5_1 sh3)) ?_
    refine g_iload 0 dX5_readHas_116 rfl ?_
    refine g_iald (j := xs0.toNatClampNeg) dX5_readHas_118 (s4_9 (s5_1 sh3)) (h1 q1) rfl ?_
    refine g_bipush (v := 10) dX5_readHas_119 (by decide) ?_
    refine g_icmp_eq 134 dX5_readHas_121 (by decide) (fun q2 => ?_) (fun q2 => ?_)
    · refine g_aload_n 1 dX5_readHas_134 rfl rfl ?_
      refine g_getR dX5_readHas_135 fl5_12 rfl sh3 (w5_1 hW sh3) ?_
      refine g_getR dX5_readHas_138 fl5_107 rfl (s5_1 sh3) (w4_9 hW (s5_1 sh3)) ?_
      refine g_iload 0 dX5_readHas_141 rfl ?_
      refine g_iload_n 3 dX5_readHas_143 rfl rfl ?_
      refine g_iast (j := xs0.toNatClampNeg) dX5_readHas_144 (s4_9 (s5_1 sh3)) (h2 q1 q2) rfl ?_
      refine g_iconst (v := 1) dX5_readHas_145 (by decide) ?_
      exact g_bret dX5_readHas_146 rfl (Or.inr rfl) enSH (h3 q1 q2)
    · refine g_aload_n 1 dX5_readHas_124 rfl rfl ?_
      refine g_getR dX5_readHas_125 fl5_18 rfl sh3 (w5_0 hW sh3) ?_
      refine g_iload_n 4 dX5_readHas_128 rfl rfl ?_
      refine g_iconst (v := 1) dX5_readHas_129 (by decide) ?_
      refine g_ls [1, 2, 3, 4, 0] (ls2 := [(0, .ref 3), (1, .int x1), (2, .int x2), (3, .int x3), (4, .int xs0)]) rfl ?_
      exact g_callV (As := [.int x3, .int (1 : Int32)]) (st := []) dX5_readHas_130 clX5_49 sh1 rfl rfl (Nat.le_of_ble_eq_true rfl) (rmSH (by decide) (by decide)) (h4 q1 q2)
  · refine g_iconst (v := 0) dX5_readHas_107 (by decide) ?_
    exact g_bret dX5_readHas_108 rfl (Or.inl rfl) enSH (h5 q1)
theorem bX5_readHas_133 {X : pX} {Q : Option Value → pMem → Prop} {m : pMem} {x1 : Int32} {x2 : Int32} {x3 : Int32} {x4 : Int32} {xs0 : Int32} (hW : Wf m)
    (h1 : xs0 = 0 ∨ xs0 = 1)
    (h2 : Q (some (.int xs0)) m) :
    Go X 2 mX5_readHas Q 133 [(0, .ref 3), (1, .int x1), (2, .int x2), (3, .int x3), (4, .int x4)] [.int xs0] m := by
  exact g_bret dX5_readHas_133 rfl h1 enSH h2
theorem bX5_readClause_0 {X : pX} {Q : Option Value → pMem → Prop} {m : pMem} {x1 : Int32} (hW : Wf m)
    (h1 : Cl X 1 mX9_next [.ref 1] m (fun v m2 => Go X 7 mX5_readClause Q 7 [(0, .ref 3), (1, .int x1)] (v.toList ++ []) m2)) :
    Go X 7 mX5_readClause Q 0 [(0, .ref 3), (1, .int x1)] [] m := by
  refine g_aload_n 0 dX5_readClause_0 rfl rfl ?_
  refine g_getR dX5_readClause_1 fl5_18 rfl sh3 (w5_0 hW sh3) ?_
  exact g_callV (As := []) (st := []) dX5_readClause_4 clX5_34 sh1 rfl rfl (Nat.le_of_ble_eq_true rfl) (rmSH (by decide) (by decide)) h1
theorem bX5_readClause_7 {X : pX} {Q : Option Value → pMem → Prop} {m : pMem} {x1 : Int32} {xs0 : Int32} (hW : Wf m)
    (h1 : Cl X 6 mX9_takeWordOf [.ref 1, .retAddr 1] m (fun v m2 => Go X 7 mX5_readClause Q 25 [(0, .ref 3), (1, .int x1), (2, .int (mI m 1 2))] (v.toList ++ []) m2)) :
    Go X 7 mX5_readClause Q 7 [(0, .ref 3), (1, .int x1)] [.int xs0] m := by
  refine g_pop dX5_readClause_7 rfl ?_
  refine g_aload_n 0 dX5_readClause_8 rfl rfl ?_
  refine g_getR dX5_readClause_9 fl5_18 rfl sh3 (w5_0 hW sh3) ?_
  refine g_getI dX5_readClause_12 fl5_45 sh1 ?_
  refine g_istore_n (ls2 := [(2, .int (mI m 1 2)), (0, .ref 3), (1, .int x1)]) dX5_readClause_15 rfl (by decide) rfl ?_
  refine g_aload_n 1 dX5_readClause_16 rfl rfl ?_
  refine g_getR dX5_readClause_17 fl5_18 rfl sh3 (w5_0 hW sh3) ?_
  refine g_ldcS 0 (by decide) rfl rfl dX5_readClause_20 ?_
  refine g_ls [1, 2, 0] (ls2 := [(0, .ref 3), (1, .int x1), (2, .int (mI m 1 2))]) rfl ?_
  exact g_callV (As := [.retAddr 1]) (st := []) dX5_readClause_22 clX5_55 sh1 rfl rfl (Nat.le_of_ble_eq_true rfl) (rmSH (by decide) (by decide)) h1
theorem bX5_readClause_25 {X : pX} {Q : Option Value → pMem → Prop} {m : pMem} {x1 : Int32} {x2 : Int32} {xs0 : Int32} (hW : Wf m)
    (h1 : ¬ xs0 = (-1 : Int32) → (40 : Int32) ≤ x1 → Cl X 0 mX9_fail [.ref 1, .int x2, .int (4 : Int32)] m (fun v m2 => Go X 7 mX5_readClause Q 85 [(0, .ref 3), (1, .int x1), (2, .int x2), (3, .int xs0)] (v.toList ++ []) m2))
    (h2 : ¬ xs0 = (-1 : Int32) → ¬ ((40 : Int32) ≤ x1) → ¬ xs0 = 0 → Go X 7 mX5_readClause Q 56 [(0, .ref 3), (1, .int x1), (2, .int x2), (3, .int xs0)] [.int (0 : Int32)] m)
    (h3 : ¬ xs0 = (-1 : Int32) → ¬ ((40 : Int32) ≤ x1) → xs0 = 0 → Go X 7 mX5_readClause Q 56 [(0, .ref 3), (1, .int x1), (2, .int x2), (3, .int xs0)] [.int (1 : Int32)] m)
    (h4 : xs0 = (-1 : Int32) → Cl X 0 mX9_fail [.ref 1, .int x2, .int (0 : Int32)] m (fun v m2 => Go X 7 mX5_readClause Q 40 [(0, .ref 3), (1, .int x1), (2, .int x2), (3, .int xs0)] (v.toList ++ []) m2)) :
    Go X 7 mX5_readClause Q 25 [(0, .ref 3), (1, .int x1), (2, .int x2)] [.int xs0] m := by
  refine g_istore_n (ls2 := [(3, .int xs0), (0, .ref 3), (1, .int x1), (2, .int x2)]) dX5_readClause_25 rfl (by decide) rfl ?_
  refine g_iload_n 0 dX5_readClause_26 rfl rfl ?_
  refine g_iconst (v := -1) dX5_readClause_27 (by decide) ?_
  refine g_icmp_ne 41 dX5_readClause_28 (by decide) (fun q1 => ?_) (fun q1 => ?_)
  · refine g_iload_n 2 dX5_readClause_41 rfl rfl ?_
    refine g_bipush (v := 40) dX5_readClause_42 (by decide) ?_
    refine g_icmp_ge 76 dX5_readClause_44 (by decide) (fun q2 => ?_) (fun q2 => ?_)
    · refine g_aload_n 1 dX5_readClause_76 rfl rfl ?_
      refine g_getR dX5_readClause_77 fl5_18 rfl sh3 (w5_0 hW sh3) ?_
      refine g_iload_n 3 dX5_readClause_80 rfl rfl ?_
      refine g_iconst (v := 4) dX5_readClause_81 (by decide) ?_
      refine g_ls [1, 2, 3, 0] (ls2 := [(0, .ref 3), (1, .int x1), (2, .int x2), (3, .int xs0)]) rfl ?_
      exact g_callV (As := [.int x2, .int (4 : Int32)]) (st := []) dX5_readClause_82 clX5_49 sh1 rfl rfl (Nat.le_of_ble_eq_true rfl) (rmSH (by decide) (by decide)) (h1 q1 q2)
    · refine g_iload_n 0 dX5_readClause_47 rfl rfl ?_
      refine g_if_ne 55 dX5_readClause_48 (by decide) (fun q3 => ?_) (fun q3 => ?_)
      · refine g_iconst (v := 0) dX5_readClause_55 (by decide) ?_
        exact g_ls [1, 2, 3, 0] rfl (h2 q1 q2 q3)
      · refine g_iconst (v := 1) dX5_readClause_51 (by decide) ?_
        refine g_goto 56 dX5_readClause_52 (by decide) ?_
        exact g_ls [1, 2, 3, 0] rfl (h3 q1 q2 q3)
  · refine g_aload_n 1 dX5_readClause_31 rfl rfl ?_
    refine g_getR dX5_readClause_32 fl5_18 rfl sh3 (w5_0 hW sh3) ?_
    refine g_iload_n 3 dX5_readClause_35 rfl rfl ?_
    refine g_iconst (v := 0) dX5_readClause_36 (by decide) ?_
    refine g_ls [1, 2, 3, 0] (ls2 := [(0, .ref 3), (1, .int x1), (2, .int x2), (3, .int xs0)]) rfl ?_
    exact g_callV (As := [.int x2, .int (0 : Int32)]) (st := []) dX5_readClause_37 clX5_49 sh1 rfl rfl (Nat.le_of_ble_eq_true rfl) (rmSH (by decide) (by decide)) (h4 q1)
theorem bX5_readClause_85 {X : pX} {Q : Option Value → pMem → Prop} {m : pMem} {x1 : Int32} {x2 : Int32} {x3 : Int32} {xs0 : Int32} (hW : Wf m)
    (h1 : xs0 = 0 ∨ xs0 = 1)
    (h2 : Q (some (.int xs0)) m) :
    Go X 7 mX5_readClause Q 85 [(0, .ref 3), (1, .int x1), (2, .int x2), (3, .int x3)] [.int xs0] m := by
  exact g_bret dX5_readClause_85 rfl h1 enSH h2
theorem bX5_readClause_56 {X : pX} {Q : Option Value → pMem → Prop} {m : pMem} {x1 : Int32} {x2 : Int32} {x3 : Int32} (hW : Wf m)
    (h1 : ¬ x1 = 0 → Go X 7 mX5_readClause Q 65 [(0, .ref 3), (2, .int x2), (3, .int x3)] [.int (0 : Int32), .int (0 : Int32)] m)
    (h2 : x1 = 0 → Go X 7 mX5_readClause Q 65 [(0, .ref 3), (2, .int x2), (3, .int x3)] [.int (1 : Int32), .int (0 : Int32)] m) :
    Go X 7 mX5_readClause Q 56 [(0, .ref 3), (1, .int x1), (2, .int x2), (3, .int x3)] [.int (0 : Int32)] m := by
  refine g_iload_n 1 dX5_readClause_56 rfl rfl ?_
  refine g_if_ne 64 dX5_readClause_57 (by decide) (fun q1 => ?_) (fun q1 => ?_)
  · refine g_iconst (v := 0) dX5_readClause_64 (by decide) ?_
    exact g_ls [0, 2, 3] rfl (h1 q1)
  · refine g_iconst (v := 1) dX5_readClause_60 (by decide) ?_
    refine g_goto 65 dX5_readClause_61 (by decide) ?_
    exact g_ls [0, 2, 3] rfl (h2 q1)
theorem bX5_readClause_56v1 {X : pX} {Q : Option Value → pMem → Prop} {m : pMem} {x1 : Int32} {x2 : Int32} {x3 : Int32} (hW : Wf m)
    (h1 : ¬ x1 = 0 → Go X 7 mX5_readClause Q 65 [(0, .ref 3), (2, .int x2), (3, .int x3)] [.int (0 : Int32), .int (1 : Int32)] m)
    (h2 : x1 = 0 → Go X 7 mX5_readClause Q 65 [(0, .ref 3), (2, .int x2), (3, .int x3)] [.int (1 : Int32), .int (1 : Int32)] m) :
    Go X 7 mX5_readClause Q 56 [(0, .ref 3), (1, .int x1), (2, .int x2), (3, .int x3)] [.int (1 : Int32)] m := by
  refine g_iload_n 1 dX5_readClause_56 rfl rfl ?_
  refine g_if_ne 64 dX5_readClause_57 (by decide) (fun q1 => ?_) (fun q1 => ?_)
  · refine g_iconst (v := 0) dX5_readClause_64 (by decide) ?_
    exact g_ls [0, 2, 3] rfl (h1 q1)
  · refine g_iconst (v := 1) dX5_readClause_60 (by decide) ?_
    refine g_goto 65 dX5_readClause_61 (by decide) ?_
    exact g_ls [0, 2, 3] rfl (h2 q1)
theorem bX5_readClause_40 {X : pX} {Q : Option Value → pMem → Prop} {m : pMem} {x1 : Int32} {x2 : Int32} {x3 : Int32} {xs0 : Int32} (hW : Wf m)
    (h1 : xs0 = 0 ∨ xs0 = 1)
    (h2 : Q (some (.int xs0)) m) :
    Go X 7 mX5_readClause Q 40 [(0, .ref 3), (1, .int x1), (2, .int x2), (3, .int x3)] [.int xs0] m := by
  exact g_bret dX5_readClause_40 rfl h1 enSH h2
theorem bX5_readClause_65 {X : pX} {Q : Option Value → pMem → Prop} {m : pMem} {x2 : Int32} {x3 : Int32} (hW : Wf m)
    (h1 : Cl X 0 mX5_isFull [.ref 3, .int x3] m (fun v m2 => Go X 7 mX5_readClause Q 73 [(0, .ref 3), (2, .int x2), (3, .int x3)] (v.toList ++ []) m2)) :
    Go X 7 mX5_readClause Q 65 [(0, .ref 3), (2, .int x2), (3, .int x3)] [.int (0 : Int32), .int (0 : Int32)] m := by
  refine g_icmp_ne 76 dX5_readClause_65 (by decide) (fun q1 => absurd q1 (by decide)) (fun q1 => ?_)
  refine g_aload_n 0 dX5_readClause_68 rfl rfl ?_
  refine g_iload_n 2 dX5_readClause_69 rfl rfl ?_
  exact g_callV (As := [.int x3]) (st := []) dX5_readClause_70 clX5_59 sh3 rfl rfl (Nat.le_of_ble_eq_true rfl) (rmSH (by decide) (by decide)) h1
theorem bX5_readClause_65v1 {X : pX} {Q : Option Value → pMem → Prop} {m : pMem} {x2 : Int32} {x3 : Int32} (hW : Wf m)
    (h1 : Cl X 0 mX9_fail [.ref 1, .int x2, .int (4 : Int32)] m (fun v m2 => Go X 7 mX5_readClause Q 85 [(0, .ref 3), (2, .int x2), (3, .int x3)] (v.toList ++ []) m2)) :
    Go X 7 mX5_readClause Q 65 [(0, .ref 3), (2, .int x2), (3, .int x3)] [.int (1 : Int32), .int (0 : Int32)] m := by
  refine g_icmp_ne 76 dX5_readClause_65 (by decide) (fun q1 => ?_) (fun q1 => absurd q1 (by decide))
  refine g_aload_n 0 dX5_readClause_76 rfl rfl ?_
  refine g_getR dX5_readClause_77 fl5_18 rfl sh3 (w5_0 hW sh3) ?_
  refine g_iload_n 1 dX5_readClause_80 rfl rfl ?_
  refine g_iconst (v := 4) dX5_readClause_81 (by decide) ?_
  exact g_callV (As := [.int x2, .int (4 : Int32)]) (st := []) dX5_readClause_82 clX5_49 sh1 rfl rfl (Nat.le_of_ble_eq_true rfl) (rmSH (by decide) (by decide)) h1
theorem bX5_readClause_65v2 {X : pX} {Q : Option Value → pMem → Prop} {m : pMem} {x2 : Int32} {x3 : Int32} (hW : Wf m)
    (h1 : Cl X 0 mX9_fail [.ref 1, .int x2, .int (4 : Int32)] m (fun v m2 => Go X 7 mX5_readClause Q 85 [(0, .ref 3), (2, .int x2), (3, .int x3)] (v.toList ++ []) m2)) :
    Go X 7 mX5_readClause Q 65 [(0, .ref 3), (2, .int x2), (3, .int x3)] [.int (0 : Int32), .int (1 : Int32)] m := by
  refine g_icmp_ne 76 dX5_readClause_65 (by decide) (fun q1 => ?_) (fun q1 => absurd q1 (by decide))
  refine g_aload_n 0 dX5_readClause_76 rfl rfl ?_
  refine g_getR dX5_readClause_77 fl5_18 rfl sh3 (w5_0 hW sh3) ?_
  refine g_iload_n 1 dX5_readClause_80 rfl rfl ?_
  refine g_iconst (v := 4) dX5_readClause_81 (by decide) ?_
  exact g_callV (As := [.int x2, .int (4 : Int32)]) (st := []) dX5_readClause_82 clX5_49 sh1 rfl rfl (Nat.le_of_ble_eq_true rfl) (rmSH (by decide) (by decide)) h1
theorem bX5_readClause_65v3 {X : pX} {Q : Option Value → pMem → Prop} {m : pMem} {x2 : Int32} {x3 : Int32} (hW : Wf m)
    (h1 : Cl X 0 mX5_isFull [.ref 3, .int x3] m (fun v m2 => Go X 7 mX5_readClause Q 73 [(0, .ref 3), (2, .int x2), (3, .int x3)] (v.toList ++ []) m2)) :
    Go X 7 mX5_readClause Q 65 [(0, .ref 3), (2, .int x2), (3, .int x3)] [.int (1 : Int32), .int (1 : Int32)] m := by
  refine g_icmp_ne 76 dX5_readClause_65 (by decide) (fun q1 => absurd q1 (by decide)) (fun q1 => ?_)
  refine g_aload_n 0 dX5_readClause_68 rfl rfl ?_
  refine g_iload_n 2 dX5_readClause_69 rfl rfl ?_
  exact g_callV (As := [.int x3]) (st := []) dX5_readClause_70 clX5_59 sh3 rfl rfl (Nat.le_of_ble_eq_true rfl) (rmSH (by decide) (by decide)) h1
theorem bX5_readClause_73 {X : pX} {Q : Option Value → pMem → Prop} {m : pMem} {x2 : Int32} {x3 : Int32} {xs0 : Int32} (hW : Wf m)
    (h1 : xs0 = 0 → x3 = 0 → Cl X 2 mX5_readHands [.ref 3] m (fun v m2 => Go X 7 mX5_readClause Q 120 [(0, .ref 3), (2, .int x2), (3, .int x3)] (v.toList ++ []) m2))
    (h2 : xs0 = 0 → ¬ x3 = 0 → x3 = 1 → Cl X 2 mX5_readStage [.ref 3] m (fun v m2 => Go X 7 mX5_readClause Q 125 [(0, .ref 3), (2, .int x2), (3, .int x3)] (v.toList ++ []) m2))
    (h3 : xs0 = 0 → ¬ x3 = 0 → ¬ x3 = 1 → x3 = 2 → Cl X 2 mX5_readPerson [.ref 3] m (fun v m2 => Go X 7 mX5_readClause Q 130 [(0, .ref 3), (2, .int x2), (3, .int x3)] (v.toList ++ []) m2))
    (h4 : xs0 = 0 → ¬ x3 = 0 → ¬ x3 = 1 → ¬ x3 = 2 → x3 = 3 → Cl X 2 mX5_readThing [.ref 3] m (fun v m2 => Go X 7 mX5_readClause Q 135 [(0, .ref 3), (2, .int x2), (3, .int x3)] (v.toList ++ []) m2))
    (h5 : xs0 = 0 → ¬ x3 = 0 → ¬ x3 = 1 → ¬ x3 = 2 → ¬ x3 = 3 → Cl X 2 mX5_readHas [.ref 3] m (fun v m2 => Go X 7 mX5_readClause Q 140 [(0, .ref 3), (2, .int x2), (3, .int x3)] (v.toList ++ []) m2))
    (h6 : ¬ (xs0 = 0) → Cl X 0 mX9_fail [.ref 1, .int x2, .int (4 : Int32)] m (fun v m2 => Go X 7 mX5_readClause Q 85 [(0, .ref 3), (2, .int x2), (3, .int x3)] (v.toList ++ []) m2)) :
    Go X 7 mX5_readClause Q 73 [(0, .ref 3), (2, .int x2), (3, .int x3)] [.int xs0] m := by
  refine g_if_eq 86 dX5_readClause_73 (by decide) (fun q1 => ?_) (fun q1 => ?_)
  · refine g_iload_n 2 dX5_readClause_86 rfl rfl ?_
    by_cases q2 : x3 = 0
    · refine g_tabIn 116 dX5_readClause_87 (by rw [q2]; decide) (by rw [q2]; decide) (by rw [q2]; rfl) (by decide) ?_
      refine g_aload_n 0 dX5_readClause_116 rfl rfl ?_
      exact g_callV (As := []) (st := []) dX5_readClause_117 clX5_62 sh3 rfl rfl (Nat.le_of_ble_eq_true rfl) (rmSH (by decide) (by decide)) (h1 q1 q2)
    by_cases q3 : x3 = 1
    · refine g_tabIn 121 dX5_readClause_87 (by rw [q3]; decide) (by rw [q3]; decide) (by rw [q3]; rfl) (by decide) ?_
      refine g_aload_n 0 dX5_readClause_121 rfl rfl ?_
      exact g_callV (As := []) (st := []) dX5_readClause_122 clX5_66 sh3 rfl rfl (Nat.le_of_ble_eq_true rfl) (rmSH (by decide) (by decide)) (h2 q1 q2 q3)
    by_cases q4 : x3 = 2
    · refine g_tabIn 126 dX5_readClause_87 (by rw [q4]; decide) (by rw [q4]; decide) (by rw [q4]; rfl) (by decide) ?_
      refine g_aload_n 0 dX5_readClause_126 rfl rfl ?_
      exact g_callV (As := []) (st := []) dX5_readClause_127 clX5_69 sh3 rfl rfl (Nat.le_of_ble_eq_true rfl) (rmSH (by decide) (by decide)) (h3 q1 q2 q3 q4)
    by_cases q5 : x3 = 3
    · refine g_tabIn 131 dX5_readClause_87 (by rw [q5]; decide) (by rw [q5]; decide) (by rw [q5]; rfl) (by decide) ?_
      refine g_aload_n 0 dX5_readClause_131 rfl rfl ?_
      exact g_callV (As := []) (st := []) dX5_readClause_132 clX5_72 sh3 rfl rfl (Nat.le_of_ble_eq_true rfl) (rmSH (by decide) (by decide)) (h4 q1 q2 q3 q4 q5)
    refine g_tabOut 136 dX5_readClause_87 (p_tabD (fun k hk1 hk2 => ?_)) (by decide) ?_
    · have hk : k = 0 ∨ k = 1 ∨ k = 2 ∨ k = 3 := by omega
      rcases hk with rfl | rfl | rfl | rfl
      · exact q2
      · exact q3
      · exact q4
      · exact q5
    refine g_aload_n 0 dX5_readClause_136 rfl rfl ?_
    exact g_callV (As := []) (st := []) dX5_readClause_137 clX5_75 sh3 rfl rfl (Nat.le_of_ble_eq_true rfl) (rmSH (by decide) (by decide)) (h5 q1 q2 q3 q4 q5)
  · refine g_aload_n 0 dX5_readClause_76 rfl rfl ?_
    refine g_getR dX5_readClause_77 fl5_18 rfl sh3 (w5_0 hW sh3) ?_
    refine g_iload_n 1 dX5_readClause_80 rfl rfl ?_
    refine g_iconst (v := 4) dX5_readClause_81 (by decide) ?_
    exact g_callV (As := [.int x2, .int (4 : Int32)]) (st := []) dX5_readClause_82 clX5_49 sh1 rfl rfl (Nat.le_of_ble_eq_true rfl) (rmSH (by decide) (by decide)) (h6 q1)
theorem bX5_readClause_85v1 {X : pX} {Q : Option Value → pMem → Prop} {m : pMem} {x2 : Int32} {x3 : Int32} {xs0 : Int32} (hW : Wf m)
    (h1 : xs0 = 0 ∨ xs0 = 1)
    (h2 : Q (some (.int xs0)) m) :
    Go X 7 mX5_readClause Q 85 [(0, .ref 3), (2, .int x2), (3, .int x3)] [.int xs0] m := by
  exact g_bret dX5_readClause_85 rfl h1 enSH h2
theorem bX5_readClause_120 {X : pX} {Q : Option Value → pMem → Prop} {m : pMem} {x2 : Int32} {x3 : Int32} {xs0 : Int32} (hW : Wf m)
    (h1 : xs0 = 0 ∨ xs0 = 1)
    (h2 : Q (some (.int xs0)) m) :
    Go X 7 mX5_readClause Q 120 [(0, .ref 3), (2, .int x2), (3, .int x3)] [.int xs0] m := by
  exact g_bret dX5_readClause_120 rfl h1 enSH h2
theorem bX5_readClause_125 {X : pX} {Q : Option Value → pMem → Prop} {m : pMem} {x2 : Int32} {x3 : Int32} {xs0 : Int32} (hW : Wf m)
    (h1 : xs0 = 0 ∨ xs0 = 1)
    (h2 : Q (some (.int xs0)) m) :
    Go X 7 mX5_readClause Q 125 [(0, .ref 3), (2, .int x2), (3, .int x3)] [.int xs0] m := by
  exact g_bret dX5_readClause_125 rfl h1 enSH h2
theorem bX5_readClause_130 {X : pX} {Q : Option Value → pMem → Prop} {m : pMem} {x2 : Int32} {x3 : Int32} {xs0 : Int32} (hW : Wf m)
    (h1 : xs0 = 0 ∨ xs0 = 1)
    (h2 : Q (some (.int xs0)) m) :
    Go X 7 mX5_readClause Q 130 [(0, .ref 3), (2, .int x2), (3, .int x3)] [.int xs0] m := by
  exact g_bret dX5_readClause_130 rfl h1 enSH h2
theorem bX5_readClause_135 {X : pX} {Q : Option Value → pMem → Prop} {m : pMem} {x2 : Int32} {x3 : Int32} {xs0 : Int32} (hW : Wf m)
    (h1 : xs0 = 0 ∨ xs0 = 1)
    (h2 : Q (some (.int xs0)) m) :
    Go X 7 mX5_readClause Q 135 [(0, .ref 3), (2, .int x2), (3, .int x3)] [.int xs0] m := by
  exact g_bret dX5_readClause_135 rfl h1 enSH h2
theorem bX5_readClause_140 {X : pX} {Q : Option Value → pMem → Prop} {m : pMem} {x2 : Int32} {x3 : Int32} {xs0 : Int32} (hW : Wf m)
    (h1 : xs0 = 0 ∨ xs0 = 1)
    (h2 : Q (some (.int xs0)) m) :
    Go X 7 mX5_readClause Q 140 [(0, .ref 3), (2, .int x2), (3, .int x3)] [.int xs0] m := by
  exact g_bret dX5_readClause_140 rfl h1 enSH h2
theorem bX5_read_0 {X : pX} {Q : Option Value → pMem → Prop} {m : pMem} (hW : Wf m)
    (h1 : Cl X 0 mX9_rewind [.ref 1] (clR m 4) (fun v m2 => Go X 8 mX5_read Q 14 [(0, .ref 3)] (v.toList ++ []) m2)) :
    Go X 8 mX5_read Q 0 [(0, .ref 3)] [] m := by
  refine g_aload_n 0 dX5_read_0 rfl rfl ?_
  refine g_getR dX5_read_1 fl5_12 rfl sh3 (w5_1 hW sh3) ?_
  refine g_callV (As := []) (st := []) dX5_read_4 clX5_22 (s5_1 sh3) rfl rfl (Nat.le_of_ble_eq_true rfl) (rmSH (by decide) (by decide)) (s_clearR hW (s5_1 sh3) ?_)
  show Go X 8 mX5_read Q 7 [(0, .ref 3)] [] (clR m 4)
  refine g_aload_n 0 dX5_read_7 rfl rfl ?_
  refine g_getR dX5_read_8 fl5_18 rfl sh3 (w5_0 hW sh3) ?_
  exact g_callV (As := []) (st := []) dX5_read_11 clX5_25 sh1 rfl rfl (Nat.le_of_ble_eq_true rfl) (rmSH (by decide) (by decide)) h1
theorem bX5_read_14 {X : pX} {Q : Option Value → pMem → Prop} {m : pMem} (hW : Wf m)
    (h1 : Go X 8 mX5_read Q 16 [(0, .ref 3), (1, .int (0 : Int32))] [] m) :
    Go X 8 mX5_read Q 14 [(0, .ref 3)] [] m := by
  refine g_iconst (v := 0) dX5_read_14 (by decide) ?_
  refine g_istore_n (ls2 := [(1, .int (0 : Int32)), (0, .ref 3)]) dX5_read_15 rfl (by decide) rfl ?_
  exact g_ls [1, 0] rfl h1
theorem bX5_read_16 {X : pX} {Q : Option Value → pMem → Prop} {m : pMem} {x1 : Int32} (hW : Wf m)
    (h1 : (40 : Int32) < x1 → Q (some (.int (0 : Int32))) m)
    (h2 : ¬ ((40 : Int32) < x1) → Cl X 7 mX5_readClause [.ref 3, .int x1] m (fun v m2 => Go X 8 mX5_read Q 27 [(0, .ref 3), (1, .int x1)] (v.toList ++ []) m2)) :
    Go X 8 mX5_read Q 16 [(0, .ref 3), (1, .int x1)] [] m := by
  refine g_iload_n 1 dX5_read_16 rfl rfl ?_
  refine g_bipush (v := 40) dX5_read_17 (by decide) ?_
  refine g_icmp_gt 87 dX5_read_19 (by decide) (fun q1 => ?_) (fun q1 => ?_)
  · refine g_iconst (v := 0) dX5_read_87 (by decide) ?_
    exact g_bret dX5_read_88 rfl (Or.inl rfl) enSH (h1 q1)
  · refine g_aload_n 0 dX5_read_22 rfl rfl ?_
    refine g_iload_n 1 dX5_read_23 rfl rfl ?_
    exact g_callV (As := [.int x1]) (st := []) dX5_read_24 clX5_30 sh3 rfl rfl (Nat.le_of_ble_eq_true rfl) (rmSH (by decide) (by decide)) (h2 q1)
theorem bX5_read_27 {X : pX} {Q : Option Value → pMem → Prop} {m : pMem} {x1 : Int32} {xs0 : Int32} (hW : Wf m)
    (h1 : ¬ xs0 = 0 → Cl X 1 mX9_next [.ref 1] m (fun v m2 => Go X 8 mX5_read Q 39 [(0, .ref 3), (1, .int x1)] (v.toList ++ []) m2))
    (h2 : xs0 = 0 → Q (some (.int (0 : Int32))) m) :
    Go X 8 mX5_read Q 27 [(0, .ref 3), (1, .int x1)] [.int xs0] m := by
  refine g_if_ne 32 dX5_read_27 (by decide) (fun q1 => ?_) (fun q1 => ?_)
  · refine g_aload_n 0 dX5_read_32 rfl rfl ?_
    refine g_getR dX5_read_33 fl5_18 rfl sh3 (w5_0 hW sh3) ?_
    exact g_callV (As := []) (st := []) dX5_read_36 clX5_34 sh1 rfl rfl (Nat.le_of_ble_eq_true rfl) (rmSH (by decide) (by decide)) (h1 q1)
  · refine g_iconst (v := 0) dX5_read_30 (by decide) ?_
    exact g_bret dX5_read_31 rfl (Or.inl rfl) enSH (h2 q1)
theorem bX5_read_39 {X : pX} {Q : Option Value → pMem → Prop} {m : pMem} {x1 : Int32} {xs0 : Int32} (hW : Wf m)
    (h1 : ¬ xs0 = (-1 : Int32) → Cl X 2 mX9_takeSign [.ref 1, .int (59 : Int32)] m (fun v m2 => Go X 8 mX5_read Q 62 [(0, .ref 3), (1, .int x1)] (v.toList ++ []) m2))
    (h2 : xs0 = (-1 : Int32) → Q (some (.int (1 : Int32))) (uI m 4 0 (1 : Int32))) :
    Go X 8 mX5_read Q 39 [(0, .ref 3), (1, .int x1)] [.int xs0] m := by
  refine g_iconst (v := -1) dX5_read_39 (by decide) ?_
  refine g_icmp_ne 53 dX5_read_40 (by decide) (fun q1 => ?_) (fun q1 => ?_)
  · refine g_aload_n 0 dX5_read_53 rfl rfl ?_
    refine g_getR dX5_read_54 fl5_18 rfl sh3 (w5_0 hW sh3) ?_
    refine g_bipush (v := 59) dX5_read_57 (by decide) ?_
    exact g_callV (As := [.int (59 : Int32)]) (st := []) dX5_read_59 clX5_42 sh1 rfl rfl (Nat.le_of_ble_eq_true rfl) (rmSH (by decide) (by decide)) (h1 q1)
  · refine g_aload_n 0 dX5_read_43 rfl rfl ?_
    refine g_getR dX5_read_44 fl5_12 rfl sh3 (w5_1 hW sh3) ?_
    refine g_iconst (v := 1) dX5_read_47 (by decide) ?_
    refine g_putZ dX5_read_48 fl5_38 (fun h => by cases h) (s5_1 sh3) (Or.inr rfl) ?_
    refine g_iconst (v := 1) dX5_read_51 (by decide) ?_
    exact g_bret dX5_read_52 rfl (Or.inr rfl) enSH (h2 q1)
theorem bX5_read_62 {X : pX} {Q : Option Value → pMem → Prop} {m : pMem} {x1 : Int32} {xs0 : Int32} (hW : Wf m)
    (h1 : ¬ xs0 = 0 → Go X 8 mX5_read Q 16 [(0, .ref 3), (1, .int (x1 + (1 : Int32)))] [] m)
    (h2 : xs0 = 0 → Cl X 0 mX9_fail [.ref 1, .int (mI m 1 2), .int (0 : Int32)] m (fun v m2 => Go X 8 mX5_read Q 80 [(0, .ref 3), (1, .int x1)] (v.toList ++ []) m2)) :
    Go X 8 mX5_read Q 62 [(0, .ref 3), (1, .int x1)] [.int xs0] m := by
  refine g_if_ne 81 dX5_read_62 (by decide) (fun q1 => ?_) (fun q1 => ?_)
  · refine g_iinc (v := x1 + (1 : Int32)) (ls2 := [(1, .int (x1 + (1 : Int32))), (0, .ref 3)]) 1 dX5_read_81 rfl rfl (by decide) rfl ?_
    refine g_goto 16 dX5_read_84 (by decide) ?_
    exact g_ls [1, 0] rfl (h1 q1)
  · refine g_aload_n 0 dX5_read_65 rfl rfl ?_
    refine g_getR dX5_read_66 fl5_18 rfl sh3 (w5_0 hW sh3) ?_
    refine g_aload_n 0 dX5_read_69 rfl rfl ?_
    refine g_getR dX5_read_70 fl5_18 rfl sh3 (w5_0 hW sh3) ?_
    refine g_getI dX5_read_73 fl5_45 sh1 ?_
    refine g_iconst (v := 0) dX5_read_76 (by decide) ?_
    exact g_callV (As := [.int (mI m 1 2), .int (0 : Int32)]) (st := []) dX5_read_77 clX5_49 sh1 rfl rfl (Nat.le_of_ble_eq_true rfl) (rmSH (by decide) (by decide)) (h2 q1)
theorem bX5_read_80 {X : pX} {Q : Option Value → pMem → Prop} {m : pMem} {x1 : Int32} {xs0 : Int32} (hW : Wf m)
    (h1 : xs0 = 0 ∨ xs0 = 1)
    (h2 : Q (some (.int xs0)) m) :
    Go X 8 mX5_read Q 80 [(0, .ref 3), (1, .int x1)] [.int xs0] m := by
  exact g_bret dX5_read_80 rfl h1 enSH h2
theorem bX11_road_0 {X : pX} {Q : Option Value → pMem → Prop} {m : pMem} (hW : Wf m)
    (h1 : Cl X 8 mX5_read [.ref 3] m (fun v m2 => Go X 9 mX11_road Q 7 [(0, .ref 0)] (v.toList ++ []) m2)) :
    Go X 9 mX11_road Q 0 [(0, .ref 0)] [] m := by
  refine g_aload_n 0 dX11_road_0 rfl rfl ?_
  refine g_getR dX11_road_1 fl11_21 rfl sh0 (w11_1 hW sh0) ?_
  exact g_callV (As := []) (st := []) dX11_road_4 clX11_110 sh3 rfl rfl (Nat.le_of_ble_eq_true rfl) (rmSH (by decide) (by decide)) h1
theorem bX11_road_7 {X : pX} {Q : Option Value → pMem → Prop} {m : pMem} {xs0 : Int32} (hW : Wf m)
    (h1 : ¬ xs0 = 0 → Cl X 2 mX10_begin [.ref 30, .ref 4] (uI m 1 1 (0 : Int32)) (fun v m2 => Go X 9 mX11_road Q 45 [(0, .ref 0), (1, .int xs0)] (v.toList ++ []) m2))
    (h2 : xs0 = 0 → Q (some (.int ((-2 : Int32) - (mI m 1 3)))) (uI m 1 1 (0 : Int32))) :
    Go X 9 mX11_road Q 7 [(0, .ref 0)] [.int xs0] m := by
  refine g_istore_n (ls2 := [(1, .int xs0), (0, .ref 0)]) dX11_road_7 rfl (by decide) rfl ?_
  refine g_aload_n 1 dX11_road_8 rfl rfl ?_
  refine g_getR dX11_road_9 fl11_10 rfl sh0 (w11_0 hW sh0) ?_
  refine g_iconst (v := 0) dX11_road_12 (by decide) ?_
  refine g_putI dX11_road_13 fl11_106 (fun h => by cases h) sh1 ?_
  refine g_iload_n 0 dX11_road_16 rfl rfl ?_
  refine g_if_ne 31 dX11_road_17 (by decide) (fun q1 => ?_) (fun q1 => ?_)
  · refine g_aload_n 1 dX11_road_31 rfl rfl ?_
    refine g_getR dX11_road_32 fl11_42 rfl sh0 (w11_5 hW sh0) ?_
    refine g_aload_n 1 dX11_road_35 rfl rfl ?_
    refine g_getR dX11_road_36 fl11_21 rfl sh0 (w11_1 hW sh0) ?_
    refine g_getR dX11_road_39 fl11_117 rfl sh3 (w5_1 hW sh3) ?_
    refine g_ls [1, 0] (ls2 := [(0, .ref 0), (1, .int xs0)]) rfl ?_
    exact g_callV (As := [.ref 4]) (st := []) dX11_road_42 clX11_118 sh30 rfl rfl (Nat.le_of_ble_eq_true rfl) (rmSH (by decide) (by decide)) (h1 q1)
  · refine g_bipush (v := -2) dX11_road_20 (by decide) ?_
    refine g_aload_n 1 dX11_road_22 rfl rfl ?_
    refine g_getR dX11_road_23 fl11_10 rfl sh0 (w11_0 hW sh0) ?_
    refine g_getI dX11_road_26 fl11_114 sh1 ?_
    refine g_isub dX11_road_29 ?_
    exact g_iret dX11_road_30 rfl enSH (h2 q1)
theorem bX11_road_45 {X : pX} {Q : Option Value → pMem → Prop} {m : pMem} {x1 : Int32} (hW : Wf m)
    (h1 : Q (some (.int (mI m 31 3))) m) :
    Go X 9 mX11_road Q 45 [(0, .ref 0), (1, .int x1)] [] m := by
  refine g_aload_n 0 dX11_road_45 rfl rfl ?_
  refine g_getR dX11_road_46 fl11_42 rfl sh0 (w11_5 hW sh0) ?_
  refine g_getR dX11_road_49 fl11_56 rfl sh30 (w10_0 hW sh30) ?_
  refine g_getI dX11_road_52 fl11_121 (s10_0 sh30) ?_
  exact g_iret dX11_road_55 rfl enSH h1
theorem bX12_amount_0 {X : pX} {Q : Option Value → pMem → Prop} {m : pMem} {x1 : Int32} {x2 : Int32} (hW : Wf m)
    (h1 : Cl X 1 mX12_blanks [.ref 535] m (fun v m2 => Go X 3 mX12_amount Q 4 [(0, .ref 535), (1, .int x1), (2, .int x2)] (v.toList ++ []) m2)) :
    Go X 3 mX12_amount Q 0 [(0, .ref 535), (1, .int x1), (2, .int x2)] [] m := by
  refine g_aload_n 0 dX12_amount_0 rfl rfl ?_
  exact g_callV (As := []) (st := []) dX12_amount_1 clX12_183 sh535 rfl rfl (Nat.le_of_ble_eq_true rfl) (rmSH (by decide) (by decide)) h1
theorem bX12_amount_4 {X : pX} {Q : Option Value → pMem → Prop} {m : pMem} {x1 : Int32} {x2 : Int32} (hW : Wf m)
    (h1 : ¬ (mI m 535 21) = 0 → Go X 3 mX12_amount Q 26 [(0, .ref 535), (1, .int x1), (2, .int x2), (3, .int (mI m 535 20))] [.int (0 : Int32)] m)
    (h2 : (mI m 535 21) = 0 → Cl X 2 mX12_digits [.ref 535, .int (99999 : Int32)] m (fun v m2 => Go X 3 mX12_amount Q 22 [(0, .ref 535), (1, .int x1), (2, .int x2), (3, .int (mI m 535 20))] (v.toList ++ []) m2)) :
    Go X 3 mX12_amount Q 4 [(0, .ref 535), (1, .int x1), (2, .int x2)] [] m := by
  refine g_aload_n 0 dX12_amount_4 rfl rfl ?_
  refine g_getI dX12_amount_5 fl12_163 sh535 ?_
  refine g_istore_n (ls2 := [(3, .int (mI m 535 20)), (0, .ref 535), (1, .int x1), (2, .int x2)]) dX12_amount_8 rfl (by decide) rfl ?_
  refine g_aload_n 1 dX12_amount_9 rfl rfl ?_
  refine g_getI dX12_amount_10 fl12_160 sh535 ?_
  refine g_if_ne 25 dX12_amount_13 (by decide) (fun q1 => ?_) (fun q1 => ?_)
  · refine g_iconst (v := 0) dX12_amount_25 (by decide) ?_
    exact g_ls [1, 2, 3, 0] rfl (h1 q1)
  · refine g_aload_n 1 dX12_amount_16 rfl rfl ?_
    refine g_ldc (v := 99999) dX12_amount_17 ciX12_207 ?_
    refine g_ls [1, 2, 3, 0] (ls2 := [(0, .ref 535), (1, .int x1), (2, .int x2), (3, .int (mI m 535 20))]) rfl ?_
    exact g_callV (As := [.int (99999 : Int32)]) (st := []) dX12_amount_19 clX12_208 sh535 rfl rfl (Nat.le_of_ble_eq_true rfl) (rmSH (by decide) (by decide)) (h2 q1)
theorem bX12_amount_26 {X : pX} {Q : Option Value → pMem → Prop} {m : pMem} {x1 : Int32} {x2 : Int32} {x3 : Int32} (hW : Wf m)
    (h1 : ¬ (mI m 535 21) = 0 → Q (some (.int (0 : Int32))) m)
    (h2 : (mI m 535 21) = 0 → ¬ (0 : Int32) < x1 ∧ ¬ x2 < (0 : Int32) → Q (some (.int (0 : Int32))) m)
    (h3 : (mI m 535 21) = 0 → ¬ (¬ (0 : Int32) < x1 ∧ ¬ x2 < (0 : Int32)) → Cl X 0 mX12_fails [.ref 535, .int (1 : Int32), .int x3] m (fun v m2 => Go X 3 mX12_amount Q 54 [(0, .ref 535), (1, .int x1), (2, .int x2), (3, .int x3), (4, .int (0 : Int32))] (v.toList ++ []) m2)) :
    Go X 3 mX12_amount Q 26 [(0, .ref 535), (1, .int x1), (2, .int x2), (3, .int x3)] [.int (0 : Int32)] m := by
  refine g_istore (ls2 := [(4, .int (0 : Int32)), (0, .ref 535), (1, .int x1), (2, .int x2), (3, .int x3)]) dX12_amount_26 (by decide) rfl ?_
  refine g_aload_n 1 dX12_amount_28 rfl rfl ?_
  refine g_getI dX12_amount_29 fl12_160 sh535 ?_
  refine g_if_ne 54 dX12_amount_32 (by decide) (fun q1 => ?_) (fun q1 => ?_)
  · refine g_iload 0 dX12_amount_54 rfl ?_
    exact g_iret dX12_amount_56 rfl enSH (h1 q1)
  · refine g_iload 0 dX12_amount_35 rfl ?_
    refine g_i2l dX12_amount_37 ?_
    refine g_iload_n 2 dX12_amount_38 rfl rfl ?_
    refine g_i2l dX12_amount_39 ?_
    refine g_iload_n 3 dX12_amount_40 rfl rfl ?_
    refine g_i2l dX12_amount_41 ?_
    refine g_callS (As := [.long ((0 : Int32).toInt64), .long x1.toInt64, .long x2.toInt64]) (st := []) dX12_amount_42 clX12_128 rfl rfl (Nat.le_of_ble_eq_true rfl) (rmSH (by decide) (by decide)) (s_in (x := (0 : Int32)) (lo := x1) (hi := x2) hW (by first | rfl | decide) (by first | rfl | decide) (by first | rfl | decide) (fun q2 => ?_) (fun q2 => ?_))
    · refine g_if_ne 54 dX12_amount_45 (by decide) (fun q3 => ?_) (fun q3 => absurd q3 (by decide))
      refine g_iload 0 dX12_amount_54 rfl ?_
      exact g_iret dX12_amount_56 rfl enSH (h2 q1 q2)
    · refine g_if_ne 54 dX12_amount_45 (by decide) (fun q4 => absurd q4 (by decide)) (fun q4 => ?_)
      refine g_aload_n 1 dX12_amount_48 rfl rfl ?_
      refine g_iconst (v := 1) dX12_amount_49 (by decide) ?_
      refine g_iload_n 4 dX12_amount_50 rfl rfl ?_
      refine g_ls [1, 2, 3, 4, 0] (ls2 := [(0, .ref 535), (1, .int x1), (2, .int x2), (3, .int x3), (4, .int (0 : Int32))]) rfl ?_
      exact g_callV (As := [.int (1 : Int32), .int x3]) (st := []) dX12_amount_51 clX12_199 sh535 rfl rfl (Nat.le_of_ble_eq_true rfl) (rmSH (by decide) (by decide)) (h3 q1 q2)
theorem bX12_amount_22 {X : pX} {Q : Option Value → pMem → Prop} {m : pMem} {x1 : Int32} {x2 : Int32} {x3 : Int32} {xs0 : Int32} (hW : Wf m)
    (h1 : Go X 3 mX12_amount Q 26 [(0, .ref 535), (1, .int x1), (2, .int x2), (3, .int x3)] [.int xs0] m) :
    Go X 3 mX12_amount Q 22 [(0, .ref 535), (1, .int x1), (2, .int x2), (3, .int x3)] [.int xs0] m := by
  refine g_goto 26 dX12_amount_22 (by decide) ?_
  exact g_ls [0, 1, 2, 3] rfl h1
theorem bX12_amount_54 {X : pX} {Q : Option Value → pMem → Prop} {m : pMem} {x1 : Int32} {x2 : Int32} {x3 : Int32} {x4 : Int32} (hW : Wf m)
    (h1 : Q (some (.int x4)) m) :
    Go X 3 mX12_amount Q 54 [(0, .ref 535), (1, .int x1), (2, .int x2), (3, .int x3), (4, .int x4)] [] m := by
  refine g_iload 4 dX12_amount_54 rfl ?_
  exact g_iret dX12_amount_56 rfl enSH h1
theorem bX12_amount_26v1 {X : pX} {Q : Option Value → pMem → Prop} {m : pMem} {x1 : Int32} {x2 : Int32} {x3 : Int32} {xs0 : Int32} (hW : Wf m)
    (h1 : ¬ (mI m 535 21) = 0 → Q (some (.int xs0)) m)
    (h2 : (mI m 535 21) = 0 → ¬ xs0 < x1 ∧ ¬ x2 < xs0 → Q (some (.int xs0)) m)
    (h3 : (mI m 535 21) = 0 → ¬ (¬ xs0 < x1 ∧ ¬ x2 < xs0) → Cl X 0 mX12_fails [.ref 535, .int (1 : Int32), .int x3] m (fun v m2 => Go X 3 mX12_amount Q 54 [(0, .ref 535), (1, .int x1), (2, .int x2), (3, .int x3), (4, .int xs0)] (v.toList ++ []) m2)) :
    Go X 3 mX12_amount Q 26 [(0, .ref 535), (1, .int x1), (2, .int x2), (3, .int x3)] [.int xs0] m := by
  refine g_istore (ls2 := [(4, .int xs0), (0, .ref 535), (1, .int x1), (2, .int x2), (3, .int x3)]) dX12_amount_26 (by decide) rfl ?_
  refine g_aload_n 1 dX12_amount_28 rfl rfl ?_
  refine g_getI dX12_amount_29 fl12_160 sh535 ?_
  refine g_if_ne 54 dX12_amount_32 (by decide) (fun q1 => ?_) (fun q1 => ?_)
  · refine g_iload 0 dX12_amount_54 rfl ?_
    exact g_iret dX12_amount_56 rfl enSH (h1 q1)
  · refine g_iload 0 dX12_amount_35 rfl ?_
    refine g_i2l dX12_amount_37 ?_
    refine g_iload_n 2 dX12_amount_38 rfl rfl ?_
    refine g_i2l dX12_amount_39 ?_
    refine g_iload_n 3 dX12_amount_40 rfl rfl ?_
    refine g_i2l dX12_amount_41 ?_
    refine g_callS (As := [.long xs0.toInt64, .long x1.toInt64, .long x2.toInt64]) (st := []) dX12_amount_42 clX12_128 rfl rfl (Nat.le_of_ble_eq_true rfl) (rmSH (by decide) (by decide)) (s_in (x := xs0) (lo := x1) (hi := x2) hW (by first | rfl | decide) (by first | rfl | decide) (by first | rfl | decide) (fun q2 => ?_) (fun q2 => ?_))
    · refine g_if_ne 54 dX12_amount_45 (by decide) (fun q3 => ?_) (fun q3 => absurd q3 (by decide))
      refine g_iload 0 dX12_amount_54 rfl ?_
      exact g_iret dX12_amount_56 rfl enSH (h2 q1 q2)
    · refine g_if_ne 54 dX12_amount_45 (by decide) (fun q4 => absurd q4 (by decide)) (fun q4 => ?_)
      refine g_aload_n 1 dX12_amount_48 rfl rfl ?_
      refine g_iconst (v := 1) dX12_amount_49 (by decide) ?_
      refine g_iload_n 4 dX12_amount_50 rfl rfl ?_
      refine g_ls [1, 2, 3, 4, 0] (ls2 := [(0, .ref 535), (1, .int x1), (2, .int x2), (3, .int x3), (4, .int xs0)]) rfl ?_
      exact g_callV (As := [.int (1 : Int32), .int x3]) (st := []) dX12_amount_51 clX12_199 sh535 rfl rfl (Nat.le_of_ble_eq_true rfl) (rmSH (by decide) (by decide)) (h3 q1 q2)
theorem bX12_hasPart_0 {X : pX} {Q : Option Value → pMem → Prop} {m : pMem} (hW : Wf m)
    (h1 : Cl X 1 mX12_blanks [.ref 535] m (fun v m2 => Go X 4 mX12_hasPart Q 4 [(0, .ref 535)] (v.toList ++ []) m2)) :
    Go X 4 mX12_hasPart Q 0 [(0, .ref 535)] [] m := by
  refine g_aload_n 0 dX12_hasPart_0 rfl rfl ?_
  exact g_callV (As := []) (st := []) dX12_hasPart_1 clX12_183 sh535 rfl rfl (Nat.le_of_ble_eq_true rfl) (rmSH (by decide) (by decide)) h1
theorem bX12_hasPart_4 {X : pX} {Q : Option Value → pMem → Prop} {m : pMem} (hW : Wf m)
    (h1 : Cl X 3 mX12_amount [.ref 535, .int (0 : Int32), .int ((mI m 548 3) - (1 : Int32))] m (fun v m2 => Go X 4 mX12_hasPart Q 22 [(0, .ref 535), (1, .int (mI m 535 20))] (v.toList ++ []) m2)) :
    Go X 4 mX12_hasPart Q 4 [(0, .ref 535)] [] m := by
  refine g_aload_n 0 dX12_hasPart_4 rfl rfl ?_
  refine g_getI dX12_hasPart_5 fl12_163 sh535 ?_
  refine g_istore_n (ls2 := [(1, .int (mI m 535 20)), (0, .ref 535)]) dX12_hasPart_8 rfl (by decide) rfl ?_
  refine g_aload_n 1 dX12_hasPart_9 rfl rfl ?_
  refine g_iconst (v := 0) dX12_hasPart_10 (by decide) ?_
  refine g_aload_n 1 dX12_hasPart_11 rfl rfl ?_
  refine g_getR dX12_hasPart_12 fl12_46 rfl sh535 (w12_13 hW sh535) ?_
  refine g_iconst (v := 3) dX12_hasPart_15 (by decide) ?_
  refine g_iald (j := 3) dX12_hasPart_16 (s12_13 sh535) (by unfold vp_in; decide) (by decide) ?_
  refine g_iconst (v := 1) dX12_hasPart_17 (by decide) ?_
  refine g_isub dX12_hasPart_18 ?_
  refine g_ls [1, 0] (ls2 := [(0, .ref 535), (1, .int (mI m 535 20))]) rfl ?_
  exact g_callV (As := [.int (0 : Int32), .int ((mI m 548 3) - (1 : Int32))]) (st := []) dX12_hasPart_19 clX12_260 sh535 rfl rfl (Nat.le_of_ble_eq_true rfl) (rmSH (by decide) (by decide)) h1
theorem bX12_hasPart_22 {X : pX} {Q : Option Value → pMem → Prop} {m : pMem} {x1 : Int32} {xs0 : Int32} (hW : Wf m)
    (h1 : ¬ (mI m 535 21) = 0 → Cl X 1 mX12_blanks [.ref 535] m (fun v m2 => Go X 4 mX12_hasPart Q 54 [(0, .ref 535), (1, .int x1), (2, .int xs0)] (v.toList ++ []) m2))
    (h2 : (mI m 535 21) = 0 → Cl X 0 mX12_newHas [.ref 535, .int xs0] m (fun v m2 => Go X 4 mX12_hasPart Q 35 [(0, .ref 535), (1, .int x1), (2, .int xs0)] (v.toList ++ []) m2)) :
    Go X 4 mX12_hasPart Q 22 [(0, .ref 535), (1, .int x1)] [.int xs0] m := by
  refine g_istore_n (ls2 := [(2, .int xs0), (0, .ref 535), (1, .int x1)]) dX12_hasPart_22 rfl (by decide) rfl ?_
  refine g_aload_n 1 dX12_hasPart_23 rfl rfl ?_
  refine g_getI dX12_hasPart_24 fl12_160 sh535 ?_
  refine g_if_ne 50 dX12_hasPart_27 (by decide) (fun q1 => ?_) (fun q1 => ?_)
  · refine g_aload_n 1 dX12_hasPart_50 rfl rfl ?_
    refine g_ls [1, 2, 0] (ls2 := [(0, .ref 535), (1, .int x1), (2, .int xs0)]) rfl ?_
    exact g_callV (As := []) (st := []) dX12_hasPart_51 clX12_183 sh535 rfl rfl (Nat.le_of_ble_eq_true rfl) (rmSH (by decide) (by decide)) (h1 q1)
  · refine g_aload_n 1 dX12_hasPart_30 rfl rfl ?_
    refine g_iload_n 0 dX12_hasPart_31 rfl rfl ?_
    refine g_ls [1, 2, 0] (ls2 := [(0, .ref 535), (1, .int x1), (2, .int xs0)]) rfl ?_
    exact g_callV (As := [.int xs0]) (st := []) dX12_hasPart_32 clX12_264 sh535 rfl rfl (Nat.le_of_ble_eq_true rfl) (rmSH (by decide) (by decide)) (h2 q1)
theorem bX12_hasPart_54 {X : pX} {Q : Option Value → pMem → Prop} {m : pMem} {x1 : Int32} {x2 : Int32} (hW : Wf m)
    (h1 : Cl X 3 mX12_amount [.ref 535, .int (0 : Int32), .int ((mI m 548 4) - (1 : Int32))] m (fun v m2 => Go X 4 mX12_hasPart Q 72 [(0, .ref 535), (1, .int (mI m 535 20)), (2, .int x2)] (v.toList ++ []) m2)) :
    Go X 4 mX12_hasPart Q 54 [(0, .ref 535), (1, .int x1), (2, .int x2)] [] m := by
  refine g_aload_n 0 dX12_hasPart_54 rfl rfl ?_
  refine g_getI dX12_hasPart_55 fl12_163 sh535 ?_
  refine g_istore_n (ls2 := [(1, .int (mI m 535 20)), (0, .ref 535), (2, .int x2)]) dX12_hasPart_58 rfl (by decide) rfl ?_
  refine g_aload_n 1 dX12_hasPart_59 rfl rfl ?_
  refine g_iconst (v := 0) dX12_hasPart_60 (by decide) ?_
  refine g_aload_n 1 dX12_hasPart_61 rfl rfl ?_
  refine g_getR dX12_hasPart_62 fl12_46 rfl sh535 (w12_13 hW sh535) ?_
  refine g_iconst (v := 4) dX12_hasPart_65 (by decide) ?_
  refine g_iald (j := 4) dX12_hasPart_66 (s12_13 sh535) (by unfold vp_in; decide) (by decide) ?_
  refine g_iconst (v := 1) dX12_hasPart_67 (by decide) ?_
  refine g_isub dX12_hasPart_68 ?_
  refine g_ls [1, 0, 2] (ls2 := [(0, .ref 535), (1, .int (mI m 535 20)), (2, .int x2)]) rfl ?_
  exact g_callV (As := [.int (0 : Int32), .int ((mI m 548 4) - (1 : Int32))]) (st := []) dX12_hasPart_69 clX12_260 sh535 rfl rfl (Nat.le_of_ble_eq_true rfl) (rmSH (by decide) (by decide)) h1
theorem bX12_hasPart_35 {X : pX} {Q : Option Value → pMem → Prop} {m : pMem} {x1 : Int32} {x2 : Int32} {xs0 : Int32} (hW : Wf m)
    (h1 : xs0 < (mI m 548 1) → Cl X 1 mX12_blanks [.ref 535] m (fun v m2 => Go X 4 mX12_hasPart Q 54 [(0, .ref 535), (1, .int x1), (2, .int x2)] (v.toList ++ []) m2))
    (h2 : ¬ (xs0 < (mI m 548 1)) → Cl X 0 mX12_fails [.ref 535, .int (1 : Int32), .int x1] m (fun v m2 => Go X 4 mX12_hasPart Q 50 [(0, .ref 535), (1, .int x1), (2, .int x2)] (v.toList ++ []) m2)) :
    Go X 4 mX12_hasPart Q 35 [(0, .ref 535), (1, .int x1), (2, .int x2)] [.int xs0] m := by
  refine g_aload_n 0 dX12_hasPart_35 rfl rfl ?_
  refine g_getR dX12_hasPart_36 fl12_46 rfl sh535 (w12_13 hW sh535) ?_
  refine g_iconst (v := 1) dX12_hasPart_39 (by decide) ?_
  refine g_iald (j := 1) dX12_hasPart_40 (s12_13 sh535) (by unfold vp_in; decide) (by decide) ?_
  refine g_icmp_lt 50 dX12_hasPart_41 (by decide) (fun q1 => ?_) (fun q1 => ?_)
  · refine g_aload_n 0 dX12_hasPart_50 rfl rfl ?_
    exact g_callV (As := []) (st := []) dX12_hasPart_51 clX12_183 sh535 rfl rfl (Nat.le_of_ble_eq_true rfl) (rmSH (by decide) (by decide)) (h1 q1)
  · refine g_aload_n 0 dX12_hasPart_44 rfl rfl ?_
    refine g_iconst (v := 1) dX12_hasPart_45 (by decide) ?_
    refine g_iload_n 1 dX12_hasPart_46 rfl rfl ?_
    exact g_callV (As := [.int (1 : Int32), .int x1]) (st := []) dX12_hasPart_47 clX12_199 sh535 rfl rfl (Nat.le_of_ble_eq_true rfl) (rmSH (by decide) (by decide)) (h2 q1)
theorem bX12_hasPart_72 {X : pX} {Q : Option Value → pMem → Prop} {m : pMem} {x1 : Int32} {x2 : Int32} {xs0 : Int32} (hW : Wf m)
    (h1 : ¬ (mI m 535 21) = 0 → Go X 4 mX12_hasPart Q 97 [(0, .ref 535), (2, .int x2), (3, .int xs0)] [] m)
    (h2 : (mI m 535 21) = 0 → vp_in xs0 6)
    (h3 : (mI m 535 21) = 0 → (mI m 553 xs0.toNatClampNeg) = (10 : Int32) → Go X 4 mX12_hasPart Q 97 [(0, .ref 535), (2, .int x2), (3, .int xs0)] [] m)
    (h4 : (mI m 535 21) = 0 → ¬ ((mI m 553 xs0.toNatClampNeg) = (10 : Int32)) → Cl X 0 mX12_fails [.ref 535, .int (1 : Int32), .int x1] m (fun v m2 => Go X 4 mX12_hasPart Q 97 [(0, .ref 535), (1, .int x1), (2, .int x2), (3, .int xs0)] (v.toList ++ []) m2)) :
    Go X 4 mX12_hasPart Q 72 [(0, .ref 535), (1, .int x1), (2, .int x2)] [.int xs0] m := by
  refine g_istore_n (ls2 := [(3, .int xs0), (0, .ref 535), (1, .int x1), (2, .int x2)]) dX12_hasPart_72 rfl (by decide) rfl ?_
  refine g_aload_n 1 dX12_hasPart_73 rfl rfl ?_
  refine g_getI dX12_hasPart_74 fl12_160 sh535 ?_
  refine g_if_ne 97 dX12_hasPart_77 (by decide) (fun q1 => ?_) (fun q1 => ?_)
  · exact g_ls [1, 3, 0] rfl (h1 q1)
  · refine g_aload_n 1 dX12_hasPart_80 rfl rfl ?_
    refine g_getR dX12_hasPart_81 fl12_61 rfl sh535 (w12_18 hW sh535) ?_
    refine g_iload_n 0 dX12_hasPart_84 rfl rfl ?_
    refine g_iald (j := xs0.toNatClampNeg) dX12_hasPart_85 (s12_18 sh535) (h2 q1) rfl ?_
    refine g_bipush (v := 10) dX12_hasPart_86 (by decide) ?_
    refine g_icmp_eq 97 dX12_hasPart_88 (by decide) (fun q2 => ?_) (fun q2 => ?_)
    · exact g_ls [1, 3, 0] rfl (h3 q1 q2)
    · refine g_aload_n 1 dX12_hasPart_91 rfl rfl ?_
      refine g_iconst (v := 1) dX12_hasPart_92 (by decide) ?_
      refine g_iload_n 2 dX12_hasPart_93 rfl rfl ?_
      refine g_ls [1, 2, 3, 0] (ls2 := [(0, .ref 535), (1, .int x1), (2, .int x2), (3, .int xs0)]) rfl ?_
      exact g_callV (As := [.int (1 : Int32), .int x1]) (st := []) dX12_hasPart_94 clX12_199 sh535 rfl rfl (Nat.le_of_ble_eq_true rfl) (rmSH (by decide) (by decide)) (h4 q1 q2)
theorem bX12_hasPart_50 {X : pX} {Q : Option Value → pMem → Prop} {m : pMem} {x1 : Int32} {x2 : Int32} (hW : Wf m)
    (h1 : Cl X 1 mX12_blanks [.ref 535] m (fun v m2 => Go X 4 mX12_hasPart Q 54 [(0, .ref 535), (1, .int x1), (2, .int x2)] (v.toList ++ []) m2)) :
    Go X 4 mX12_hasPart Q 50 [(0, .ref 535), (1, .int x1), (2, .int x2)] [] m := by
  refine g_aload_n 0 dX12_hasPart_50 rfl rfl ?_
  exact g_callV (As := []) (st := []) dX12_hasPart_51 clX12_183 sh535 rfl rfl (Nat.le_of_ble_eq_true rfl) (rmSH (by decide) (by decide)) h1
theorem bX12_hasPart_97 {X : pX} {Q : Option Value → pMem → Prop} {m : pMem} {x2 : Int32} {x3 : Int32} (hW : Wf m)
    (h1 : ¬ (mI m 535 21) = 0 → Q none m)
    (h2 : (mI m 535 21) = 0 → vp_in x3 6)
    (h3 : (mI m 535 21) = 0 → Q none (uI m 553 x3.toNatClampNeg x2)) :
    Go X 4 mX12_hasPart Q 97 [(0, .ref 535), (2, .int x2), (3, .int x3)] [] m := by
  refine g_aload_n 0 dX12_hasPart_97 rfl rfl ?_
  refine g_getI dX12_hasPart_98 fl12_160 sh535 ?_
  refine g_if_ne 111 dX12_hasPart_101 (by decide) (fun q1 => ?_) (fun q1 => ?_)
  · exact g_vret dX12_hasPart_111 rfl enSH (h1 q1)
  · refine g_aload_n 0 dX12_hasPart_104 rfl rfl ?_
    refine g_getR dX12_hasPart_105 fl12_61 rfl sh535 (w12_18 hW sh535) ?_
    refine g_iload_n 2 dX12_hasPart_108 rfl rfl ?_
    refine g_iload_n 1 dX12_hasPart_109 rfl rfl ?_
    refine g_iast (j := x3.toNatClampNeg) dX12_hasPart_110 (s12_18 sh535) (h2 q1) rfl ?_
    exact g_vret dX12_hasPart_111 rfl enSH (h3 q1)
theorem bX12_hasPart_97v1 {X : pX} {Q : Option Value → pMem → Prop} {m : pMem} {x1 : Int32} {x2 : Int32} {x3 : Int32} (hW : Wf m)
    (h1 : ¬ (mI m 535 21) = 0 → Q none m)
    (h2 : (mI m 535 21) = 0 → vp_in x3 6)
    (h3 : (mI m 535 21) = 0 → Q none (uI m 553 x3.toNatClampNeg x2)) :
    Go X 4 mX12_hasPart Q 97 [(0, .ref 535), (1, .int x1), (2, .int x2), (3, .int x3)] [] m := by
  refine g_aload_n 0 dX12_hasPart_97 rfl rfl ?_
  refine g_getI dX12_hasPart_98 fl12_160 sh535 ?_
  refine g_if_ne 111 dX12_hasPart_101 (by decide) (fun q1 => ?_) (fun q1 => ?_)
  · exact g_vret dX12_hasPart_111 rfl enSH (h1 q1)
  · refine g_aload_n 0 dX12_hasPart_104 rfl rfl ?_
    refine g_getR dX12_hasPart_105 fl12_61 rfl sh535 (w12_18 hW sh535) ?_
    refine g_iload_n 3 dX12_hasPart_108 rfl rfl ?_
    refine g_iload_n 2 dX12_hasPart_109 rfl rfl ?_
    refine g_iast (j := x3.toNatClampNeg) dX12_hasPart_110 (s12_18 sh535) (h2 q1) rfl ?_
    exact g_vret dX12_hasPart_111 rfl enSH (h3 q1)
theorem bX12_roadPart_0 {X : pX} {Q : Option Value → pMem → Prop} {m : pMem} {x1 : Int32} (hW : Wf m)
    (h1 : x1 = 0 → Cl X 3 mX12_amount [.ref 535, .int (0 : Int32), .int (4 : Int32)] m (fun v m2 => Go X 5 mX12_roadPart Q 43 [(0, .ref 535), (1, .int x1)] (v.toList ++ [.int (1 : Int32), .ref 548]) m2))
    (h2 : ¬ x1 = 0 → x1 = 1 → Cl X 3 mX12_amount [.ref 535, .int (1 : Int32), .int (60 : Int32)] m (fun v m2 => Go X 5 mX12_roadPart Q 71 [(0, .ref 535), (1, .int x1)] (v.toList ++ [.int (mI m 548 2), .ref 549]) m2))
    (h3 : ¬ x1 = 0 → ¬ x1 = 1 → x1 = 2 → Cl X 3 mX12_amount [.ref 535, .int (1 : Int32), .int (20 : Int32)] m (fun v m2 => Go X 5 mX12_roadPart Q 102 [(0, .ref 535), (1, .int x1)] (v.toList ++ [.int (mI m 548 3), .ref 550]) m2))
    (h4 : ¬ x1 = 0 → ¬ x1 = 1 → ¬ x1 = 2 → x1 = 3 → Cl X 3 mX12_amount [.ref 535, .int (0 : Int32), .int (9 : Int32)] m (fun v m2 => Go X 5 mX12_roadPart Q 135 [(0, .ref 535), (1, .int x1), (2, .int (mI m 548 4))] (v.toList ++ [.int (mI m 548 4), .ref 551]) m2))
    (h5 : ¬ x1 = 0 → ¬ x1 = 1 → ¬ x1 = 2 → ¬ x1 = 3 → Cl X 4 mX12_hasPart [.ref 535] m (fun v m2 => Go X 5 mX12_roadPart Q 174 [(0, .ref 535), (1, .int x1)] (v.toList ++ []) m2)) :
    Go X 5 mX12_roadPart Q 0 [(0, .ref 535), (1, .int x1)] [] m := by
  refine g_iload_n 1 dX12_roadPart_0 rfl rfl ?_
  by_cases q1 : x1 = 0
  · refine g_tabIn 32 dX12_roadPart_1 (by rw [q1]; decide) (by rw [q1]; decide) (by rw [q1]; rfl) (by decide) ?_
    refine g_aload_n 0 dX12_roadPart_32 rfl rfl ?_
    refine g_getR dX12_roadPart_33 fl12_46 rfl sh535 (w12_13 hW sh535) ?_
    refine g_iconst (v := 1) dX12_roadPart_36 (by decide) ?_
    refine g_aload_n 0 dX12_roadPart_37 rfl rfl ?_
    refine g_iconst (v := 0) dX12_roadPart_38 (by decide) ?_
    refine g_iconst (v := 4) dX12_roadPart_39 (by decide) ?_
    exact g_callV (As := [.int (0 : Int32), .int (4 : Int32)]) (st := [.int (1 : Int32), .ref 548]) dX12_roadPart_40 clX12_260 sh535 rfl rfl (Nat.le_of_ble_eq_true rfl) (rmSH (by decide) (by decide)) (h1 q1)
  by_cases q2 : x1 = 1
  · refine g_tabIn 54 dX12_roadPart_1 (by rw [q2]; decide) (by rw [q2]; decide) (by rw [q2]; rfl) (by decide) ?_
    refine g_aload_n 0 dX12_roadPart_54 rfl rfl ?_
    refine g_getR dX12_roadPart_55 fl12_49 rfl sh535 (w12_14 hW sh535) ?_
    refine g_aload_n 0 dX12_roadPart_58 rfl rfl ?_
    refine g_getR dX12_roadPart_59 fl12_46 rfl sh535 (w12_13 hW sh535) ?_
    refine g_iconst (v := 2) dX12_roadPart_62 (by decide) ?_
    refine g_iald (j := 2) dX12_roadPart_63 (s12_13 sh535) (by unfold vp_in; decide) (by decide) ?_
    refine g_aload_n 0 dX12_roadPart_64 rfl rfl ?_
    refine g_iconst (v := 1) dX12_roadPart_65 (by decide) ?_
    refine g_bipush (v := 60) dX12_roadPart_66 (by decide) ?_
    exact g_callV (As := [.int (1 : Int32), .int (60 : Int32)]) (st := [.int (mI m 548 2), .ref 549]) dX12_roadPart_68 clX12_260 sh535 rfl rfl (Nat.le_of_ble_eq_true rfl) (rmSH (by decide) (by decide)) (h2 q1 q2)
  by_cases q3 : x1 = 2
  · refine g_tabIn 85 dX12_roadPart_1 (by rw [q3]; decide) (by rw [q3]; decide) (by rw [q3]; rfl) (by decide) ?_
    refine g_aload_n 0 dX12_roadPart_85 rfl rfl ?_
    refine g_getR dX12_roadPart_86 fl12_52 rfl sh535 (w12_15 hW sh535) ?_
    refine g_aload_n 0 dX12_roadPart_89 rfl rfl ?_
    refine g_getR dX12_roadPart_90 fl12_46 rfl sh535 (w12_13 hW sh535) ?_
    refine g_iconst (v := 3) dX12_roadPart_93 (by decide) ?_
    refine g_iald (j := 3) dX12_roadPart_94 (s12_13 sh535) (by unfold vp_in; decide) (by decide) ?_
    refine g_aload_n 0 dX12_roadPart_95 rfl rfl ?_
    refine g_iconst (v := 1) dX12_roadPart_96 (by decide) ?_
    refine g_bipush (v := 20) dX12_roadPart_97 (by decide) ?_
    exact g_callV (As := [.int (1 : Int32), .int (20 : Int32)]) (st := [.int (mI m 548 3), .ref 550]) dX12_roadPart_99 clX12_260 sh535 rfl rfl (Nat.le_of_ble_eq_true rfl) (rmSH (by decide) (by decide)) (h3 q1 q2 q3)
  by_cases q4 : x1 = 3
  · refine g_tabIn 116 dX12_roadPart_1 (by rw [q4]; decide) (by rw [q4]; decide) (by rw [q4]; rfl) (by decide) ?_
    refine g_aload_n 0 dX12_roadPart_116 rfl rfl ?_
    refine g_getR dX12_roadPart_117 fl12_46 rfl sh535 (w12_13 hW sh535) ?_
    refine g_iconst (v := 4) dX12_roadPart_120 (by decide) ?_
    refine g_iald (j := 4) dX12_roadPart_121 (s12_13 sh535) (by unfold vp_in; decide) (by decide) ?_
    refine g_istore_n (ls2 := [(2, .int (mI m 548 4)), (0, .ref 535), (1, .int x1)]) dX12_roadPart_122 rfl (by decide) rfl ?_
    refine g_aload_n 1 dX12_roadPart_123 rfl rfl ?_
    refine g_getR dX12_roadPart_124 fl12_55 rfl sh535 (w12_16 hW sh535) ?_
    refine g_iload_n 0 dX12_roadPart_127 rfl rfl ?_
    refine g_aload_n 1 dX12_roadPart_128 rfl rfl ?_
    refine g_iconst (v := 0) dX12_roadPart_129 (by decide) ?_
    refine g_bipush (v := 9) dX12_roadPart_130 (by decide) ?_
    refine g_ls [1, 2, 0] (ls2 := [(0, .ref 535), (1, .int x1), (2, .int (mI m 548 4))]) rfl ?_
    exact g_callV (As := [.int (0 : Int32), .int (9 : Int32)]) (st := [.int (mI m 548 4), .ref 551]) dX12_roadPart_132 clX12_260 sh535 rfl rfl (Nat.le_of_ble_eq_true rfl) (rmSH (by decide) (by decide)) (h4 q1 q2 q3 q4)
  refine g_tabOut 170 dX12_roadPart_1 (p_tabD (fun k hk1 hk2 => ?_)) (by decide) ?_
  · have hk : k = 0 ∨ k = 1 ∨ k = 2 ∨ k = 3 := by omega
    rcases hk with rfl | rfl | rfl | rfl
    · exact q1
    · exact q2
    · exact q3
    · exact q4
  refine g_aload_n 0 dX12_roadPart_170 rfl rfl ?_
  exact g_callV (As := []) (st := []) dX12_roadPart_171 clX12_267 sh535 rfl rfl (Nat.le_of_ble_eq_true rfl) (rmSH (by decide) (by decide)) (h5 q1 q2 q3 q4)
theorem bX12_roadPart_43 {X : pX} {Q : Option Value → pMem → Prop} {m : pMem} {x1 : Int32} {xs0 : Int32} {as2 : Nat} (hW : Wf m) (cs2 : SH[as2]? = some (.inr (.int, 5)))
    (h1 : Q none (uI (uI m as2 1 xs0) 548 0 (1 : Int32))) :
    Go X 5 mX12_roadPart Q 43 [(0, .ref 535), (1, .int x1)] [.int xs0, .int (1 : Int32), .ref as2] m := by
  refine g_iast (j := 1) dX12_roadPart_43 cs2 (by unfold vp_in; decide) (by decide) ?_
  refine g_aload_n 0 dX12_roadPart_44 rfl rfl ?_
  refine g_getR dX12_roadPart_45 fl12_46 rfl sh535 (w12_13 hW sh535) ?_
  refine g_iconst (v := 0) dX12_roadPart_48 (by decide) ?_
  refine g_iconst (v := 1) dX12_roadPart_49 (by decide) ?_
  refine g_iast (j := 0) dX12_roadPart_50 (s12_13 sh535) (by unfold vp_in; decide) (by decide) ?_
  refine g_goto 174 dX12_roadPart_51 (by decide) ?_
  exact g_vret dX12_roadPart_174 rfl enSH h1
theorem bX12_roadPart_71 {X : pX} {Q : Option Value → pMem → Prop} {m : pMem} {x1 : Int32} {xs0 : Int32} {xs1 : Int32} {as2 : Nat} (hW : Wf m) (cs2 : SH[as2]? = some (.inr (.int, 8)))
    (h1 : vp_in xs1 8)
    (h2 : Q none (uI (uI m as2 xs1.toNatClampNeg xs0) 548 2 ((mI (uI m as2 xs1.toNatClampNeg xs0) 548 2) + (1 : Int32)))) :
    Go X 5 mX12_roadPart Q 71 [(0, .ref 535), (1, .int x1)] [.int xs0, .int xs1, .ref as2] m := by
  refine g_iast (j := xs1.toNatClampNeg) dX12_roadPart_71 cs2 h1 rfl ?_
  refine g_aload_n 0 dX12_roadPart_72 rfl rfl ?_
  refine g_getR dX12_roadPart_73 fl12_46 rfl sh535 (w12_13 hW sh535) ?_
  refine g_iconst (v := 2) dX12_roadPart_76 (by decide) ?_
  refine g_dup2 dX12_roadPart_77 rfl rfl ?_
  refine g_iald (j := 2) dX12_roadPart_78 (s12_13 sh535) (by unfold vp_in; decide) (by decide) ?_
  refine g_iconst (v := 1) dX12_roadPart_79 (by decide) ?_
  refine g_iadd dX12_roadPart_80 ?_
  refine g_iast (j := 2) dX12_roadPart_81 (s12_13 sh535) (by unfold vp_in; decide) (by decide) ?_
  refine g_goto 174 dX12_roadPart_82 (by decide) ?_
  exact g_vret dX12_roadPart_174 rfl enSH h2
theorem bX12_roadPart_102 {X : pX} {Q : Option Value → pMem → Prop} {m : pMem} {x1 : Int32} {xs0 : Int32} {xs1 : Int32} {as2 : Nat} (hW : Wf m) (cs2 : SH[as2]? = some (.inr (.int, 4)))
    (h1 : vp_in xs1 4)
    (h2 : Q none (uI (uI m as2 xs1.toNatClampNeg xs0) 548 3 ((mI (uI m as2 xs1.toNatClampNeg xs0) 548 3) + (1 : Int32)))) :
    Go X 5 mX12_roadPart Q 102 [(0, .ref 535), (1, .int x1)] [.int xs0, .int xs1, .ref as2] m := by
  refine g_iast (j := xs1.toNatClampNeg) dX12_roadPart_102 cs2 h1 rfl ?_
  refine g_aload_n 0 dX12_roadPart_103 rfl rfl ?_
  refine g_getR dX12_roadPart_104 fl12_46 rfl sh535 (w12_13 hW sh535) ?_
  refine g_iconst (v := 3) dX12_roadPart_107 (by decide) ?_
  refine g_dup2 dX12_roadPart_108 rfl rfl ?_
  refine g_iald (j := 3) dX12_roadPart_109 (s12_13 sh535) (by unfold vp_in; decide) (by decide) ?_
  refine g_iconst (v := 1) dX12_roadPart_110 (by decide) ?_
  refine g_iadd dX12_roadPart_111 ?_
  refine g_iast (j := 3) dX12_roadPart_112 (s12_13 sh535) (by unfold vp_in; decide) (by decide) ?_
  refine g_goto 174 dX12_roadPart_113 (by decide) ?_
  exact g_vret dX12_roadPart_174 rfl enSH h2
theorem bX12_roadPart_135 {X : pX} {Q : Option Value → pMem → Prop} {m : pMem} {x1 : Int32} {x2 : Int32} {xs0 : Int32} {xs1 : Int32} {as2 : Nat} (hW : Wf m) (cs2 : SH[as2]? = some (.inr (.int, 6)))
    (h1 : vp_in xs1 6)
    (h2 : Cl X 3 mX12_amount [.ref 535, .int (0 : Int32), .int (50 : Int32)] (uI m as2 xs1.toNatClampNeg xs0) (fun v m2 => Go X 5 mX12_roadPart Q 148 [(0, .ref 535), (1, .int x1), (2, .int x2)] (v.toList ++ [.int x2, .ref 552]) m2)) :
    Go X 5 mX12_roadPart Q 135 [(0, .ref 535), (1, .int x1), (2, .int x2)] [.int xs0, .int xs1, .ref as2] m := by
  refine g_iast (j := xs1.toNatClampNeg) dX12_roadPart_135 cs2 h1 rfl ?_
  refine g_aload_n 0 dX12_roadPart_136 rfl rfl ?_
  refine g_getR dX12_roadPart_137 fl12_58 rfl sh535 (w12_17 hW sh535) ?_
  refine g_iload_n 2 dX12_roadPart_140 rfl rfl ?_
  refine g_aload_n 0 dX12_roadPart_141 rfl rfl ?_
  refine g_iconst (v := 0) dX12_roadPart_142 (by decide) ?_
  refine g_bipush (v := 50) dX12_roadPart_143 (by decide) ?_
  exact g_callV (As := [.int (0 : Int32), .int (50 : Int32)]) (st := [.int x2, .ref 552]) dX12_roadPart_145 clX12_260 sh535 rfl rfl (Nat.le_of_ble_eq_true rfl) (rmSH (by decide) (by decide)) h2
theorem bX12_roadPart_174 {X : pX} {Q : Option Value → pMem → Prop} {m : pMem} {x1 : Int32} (hW : Wf m)
    (h1 : Q none m) :
    Go X 5 mX12_roadPart Q 174 [(0, .ref 535), (1, .int x1)] [] m := by
  exact g_vret dX12_roadPart_174 rfl enSH h1
theorem bX12_roadPart_148 {X : pX} {Q : Option Value → pMem → Prop} {m : pMem} {x1 : Int32} {x2 : Int32} {xs0 : Int32} {xs1 : Int32} {as2 : Nat} (hW : Wf m) (cs2 : SH[as2]? = some (.inr (.int, 6)))
    (h1 : vp_in xs1 6)
    (h2 : vp_in x2 6)
    (h3 : Q none (uI (uI (uI m as2 xs1.toNatClampNeg xs0) 553 x2.toNatClampNeg (10 : Int32)) 548 4 ((mI (uI m as2 xs1.toNatClampNeg xs0) 548 4) + (1 : Int32)))) :
    Go X 5 mX12_roadPart Q 148 [(0, .ref 535), (1, .int x1), (2, .int x2)] [.int xs0, .int xs1, .ref as2] m := by
  refine g_iast (j := xs1.toNatClampNeg) dX12_roadPart_148 cs2 h1 rfl ?_
  refine g_aload_n 0 dX12_roadPart_149 rfl rfl ?_
  refine g_getR dX12_roadPart_150 fl12_61 rfl sh535 (w12_18 hW sh535) ?_
  refine g_iload_n 2 dX12_roadPart_153 rfl rfl ?_
  refine g_bipush (v := 10) dX12_roadPart_154 (by decide) ?_
  refine g_iast (j := x2.toNatClampNeg) dX12_roadPart_156 (s12_18 sh535) h2 rfl ?_
  refine g_aload_n 0 dX12_roadPart_157 rfl rfl ?_
  refine g_getR dX12_roadPart_158 fl12_46 rfl sh535 (w12_13 hW sh535) ?_
  refine g_iconst (v := 4) dX12_roadPart_161 (by decide) ?_
  refine g_dup2 dX12_roadPart_162 rfl rfl ?_
  refine g_iald (j := 4) dX12_roadPart_163 (s12_13 sh535) (by unfold vp_in; decide) (by decide) ?_
  refine g_iconst (v := 1) dX12_roadPart_164 (by decide) ?_
  refine g_iadd dX12_roadPart_165 ?_
  refine g_iast (j := 4) dX12_roadPart_166 (s12_13 sh535) (by unfold vp_in; decide) (by decide) ?_
  refine g_goto 174 dX12_roadPart_167 (by decide) ?_
  exact g_vret dX12_roadPart_174 rfl enSH h3
theorem bX12_roadClause_0 {X : pX} {Q : Option Value → pMem → Prop} {m : pMem} {x1 : Int32} (hW : Wf m)
    (h1 : Cl X 1 mX12_blanks [.ref 535] m (fun v m2 => Go X 6 mX12_roadClause Q 4 [(0, .ref 535), (1, .int x1)] (v.toList ++ []) m2)) :
    Go X 6 mX12_roadClause Q 0 [(0, .ref 535), (1, .int x1)] [] m := by
  refine g_aload_n 0 dX12_roadClause_0 rfl rfl ?_
  exact g_callV (As := []) (st := []) dX12_roadClause_1 clX12_183 sh535 rfl rfl (Nat.le_of_ble_eq_true rfl) (rmSH (by decide) (by decide)) h1
theorem bX12_roadClause_4 {X : pX} {Q : Option Value → pMem → Prop} {m : pMem} {x1 : Int32} (hW : Wf m)
    (h1 : Go X 6 mX12_roadClause Q 11 [(0, .ref 535), (1, .int x1), (2, .int (mI m 535 20)), (3, .int (0 : Int32))] [] m) :
    Go X 6 mX12_roadClause Q 4 [(0, .ref 535), (1, .int x1)] [] m := by
  refine g_aload_n 0 dX12_roadClause_4 rfl rfl ?_
  refine g_getI dX12_roadClause_5 fl12_163 sh535 ?_
  refine g_istore_n (ls2 := [(2, .int (mI m 535 20)), (0, .ref 535), (1, .int x1)]) dX12_roadClause_8 rfl (by decide) rfl ?_
  refine g_iconst (v := 0) dX12_roadClause_9 (by decide) ?_
  refine g_istore_n (ls2 := [(3, .int (0 : Int32)), (2, .int (mI m 535 20)), (0, .ref 535), (1, .int x1)]) dX12_roadClause_10 rfl (by decide) rfl ?_
  exact g_ls [2, 3, 1, 0] rfl h1
theorem bX12_roadClause_11 {X : pX} {Q : Option Value → pMem → Prop} {m : pMem} {x1 : Int32} {x2 : Int32} {x3 : Int32} (hW : Wf m)
    (h1 : (5 : Int32) ≤ x3 → Go X 6 mX12_roadClause Q 33 [(0, .ref 535), (1, .int x1), (2, .int x2), (3, .int x3)] [] m)
    (h2 : ¬ ((5 : Int32) ≤ x3) → Cl X 0 mX12_roadWord [.int x3] m (fun v m2 => Go X 6 mX12_roadClause Q 21 [(0, .ref 535), (1, .int x1), (2, .int x2), (3, .int x3)] (v.toList ++ [.ref 535]) m2)) :
    Go X 6 mX12_roadClause Q 11 [(0, .ref 535), (1, .int x1), (2, .int x2), (3, .int x3)] [] m := by
  refine g_iload_n 3 dX12_roadClause_11 rfl rfl ?_
  refine g_iconst (v := 5) dX12_roadClause_12 (by decide) ?_
  refine g_icmp_ge 33 dX12_roadClause_13 (by decide) (fun q1 => ?_) (fun q1 => ?_)
  · exact g_ls [0, 1, 2, 3] rfl (h1 q1)
  · refine g_aload_n 0 dX12_roadClause_16 rfl rfl ?_
    refine g_iload_n 3 dX12_roadClause_17 rfl rfl ?_
    exact g_callS (As := [.int x3]) (st := [.ref 535]) dX12_roadClause_18 clX12_270 rfl rfl (Nat.le_of_ble_eq_true rfl) (rmSH (by decide) (by decide)) (h2 q1)
theorem bX12_roadClause_33 {X : pX} {Q : Option Value → pMem → Prop} {m : pMem} {x1 : Int32} {x2 : Int32} {x3 : Int32} (hW : Wf m)
    (h1 : ¬ x3 = (5 : Int32) → Cl X 0 mX12_isFull [.ref 535, .int x3, .int x1] m (fun v m2 => Go X 6 mX12_roadClause Q 51 [(0, .ref 535), (1, .int x1), (2, .int x2), (3, .int x3)] (v.toList ++ []) m2))
    (h2 : x3 = (5 : Int32) → Cl X 0 mX12_fails [.ref 535, .int (0 : Int32), .int x2] m (fun v m2 => Go X 6 mX12_roadClause Q 44 [(0, .ref 535), (1, .int x1), (2, .int x2), (3, .int x3)] (v.toList ++ []) m2)) :
    Go X 6 mX12_roadClause Q 33 [(0, .ref 535), (1, .int x1), (2, .int x2), (3, .int x3)] [] m := by
  refine g_iload_n 3 dX12_roadClause_33 rfl rfl ?_
  refine g_iconst (v := 5) dX12_roadClause_34 (by decide) ?_
  refine g_icmp_ne 45 dX12_roadClause_35 (by decide) (fun q1 => ?_) (fun q1 => ?_)
  · refine g_aload_n 0 dX12_roadClause_45 rfl rfl ?_
    refine g_iload_n 3 dX12_roadClause_46 rfl rfl ?_
    refine g_iload_n 1 dX12_roadClause_47 rfl rfl ?_
    exact g_callV (As := [.int x3, .int x1]) (st := []) dX12_roadClause_48 clX12_273 sh535 rfl rfl (Nat.le_of_ble_eq_true rfl) (rmSH (by decide) (by decide)) (h1 q1)
  · refine g_aload_n 0 dX12_roadClause_38 rfl rfl ?_
    refine g_iconst (v := 0) dX12_roadClause_39 (by decide) ?_
    refine g_iload_n 2 dX12_roadClause_40 rfl rfl ?_
    exact g_callV (As := [.int (0 : Int32), .int x2]) (st := []) dX12_roadClause_41 clX12_199 sh535 rfl rfl (Nat.le_of_ble_eq_true rfl) (rmSH (by decide) (by decide)) (h2 q1)
theorem bX12_roadClause_21 {X : pX} {Q : Option Value → pMem → Prop} {m : pMem} {x1 : Int32} {x2 : Int32} {x3 : Int32} {ks0 : Nat} (hW : Wf m)
    (h1 : Cl X 5 mX12_stood [.ref 535, .retAddr ks0] m (fun v m2 => Go X 6 mX12_roadClause Q 24 [(0, .ref 535), (1, .int x1), (2, .int x2), (3, .int x3)] (v.toList ++ []) m2)) :
    Go X 6 mX12_roadClause Q 21 [(0, .ref 535), (1, .int x1), (2, .int x2), (3, .int x3)] [.retAddr ks0, .ref 535] m := by
  exact g_callV (As := [.retAddr ks0]) (st := []) dX12_roadClause_21 clX12_186 sh535 rfl rfl (Nat.le_of_ble_eq_true rfl) (rmSH (by decide) (by decide)) h1
theorem bX12_roadClause_51 {X : pX} {Q : Option Value → pMem → Prop} {m : pMem} {x1 : Int32} {x2 : Int32} {x3 : Int32} {xs0 : Int32} (hW : Wf m)
    (h1 : xs0 = 0 → Cl X 0 mX12_roadWord [.int x3] m (fun v m2 => Go X 6 mX12_roadClause Q 70 [(0, .ref 535), (1, .int x1), (2, .int x2), (3, .int x3)] (v.toList ++ [.int (mI m 535 20), .ref 535]) m2))
    (h2 : ¬ (xs0 = 0) → Cl X 0 mX12_fails [.ref 535, .int (4 : Int32), .int x2] m (fun v m2 => Go X 6 mX12_roadClause Q 60 [(0, .ref 535), (1, .int x1), (2, .int x2), (3, .int x3)] (v.toList ++ []) m2)) :
    Go X 6 mX12_roadClause Q 51 [(0, .ref 535), (1, .int x1), (2, .int x2), (3, .int x3)] [.int xs0] m := by
  refine g_if_eq 61 dX12_roadClause_51 (by decide) (fun q1 => ?_) (fun q1 => ?_)
  · refine g_aload_n 0 dX12_roadClause_61 rfl rfl ?_
    refine g_dup dX12_roadClause_62 rfl ?_
    refine g_getI dX12_roadClause_63 fl12_163 sh535 ?_
    refine g_iload_n 3 dX12_roadClause_66 rfl rfl ?_
    exact g_callS (As := [.int x3]) (st := [.int (mI m 535 20), .ref 535]) dX12_roadClause_67 clX12_270 rfl rfl (Nat.le_of_ble_eq_true rfl) (rmSH (by decide) (by decide)) (h1 q1)
  · refine g_aload_n 0 dX12_roadClause_54 rfl rfl ?_
    refine g_iconst (v := 4) dX12_roadClause_55 (by decide) ?_
    refine g_iload_n 2 dX12_roadClause_56 rfl rfl ?_
    exact g_callV (As := [.int (4 : Int32), .int x2]) (st := []) dX12_roadClause_57 clX12_199 sh535 rfl rfl (Nat.le_of_ble_eq_true rfl) (rmSH (by decide) (by decide)) (h2 q1)
theorem bX12_roadClause_44 {X : pX} {Q : Option Value → pMem → Prop} {m : pMem} {x1 : Int32} {x2 : Int32} {x3 : Int32} (hW : Wf m)
    (h1 : Q none m) :
    Go X 6 mX12_roadClause Q 44 [(0, .ref 535), (1, .int x1), (2, .int x2), (3, .int x3)] [] m := by
  exact g_vret dX12_roadClause_44 rfl enSH h1
theorem bX12_roadClause_24 {X : pX} {Q : Option Value → pMem → Prop} {m : pMem} {x1 : Int32} {x2 : Int32} {x3 : Int32} {xs0 : Int32} (hW : Wf m)
    (h1 : ¬ xs0 = 0 → Go X 6 mX12_roadClause Q 33 [(0, .ref 535), (1, .int x1), (2, .int x2), (3, .int x3)] [] m)
    (h2 : xs0 = 0 → Go X 6 mX12_roadClause Q 11 [(0, .ref 535), (1, .int x1), (2, .int x2), (3, .int (x3 + (1 : Int32)))] [] m) :
    Go X 6 mX12_roadClause Q 24 [(0, .ref 535), (1, .int x1), (2, .int x2), (3, .int x3)] [.int xs0] m := by
  refine g_if_ne 33 dX12_roadClause_24 (by decide) (fun q1 => ?_) (fun q1 => ?_)
  · exact g_ls [0, 1, 2, 3] rfl (h1 q1)
  · refine g_iinc (v := x3 + (1 : Int32)) (ls2 := [(3, .int (x3 + (1 : Int32))), (0, .ref 535), (1, .int x1), (2, .int x2)]) 3 dX12_roadClause_27 rfl rfl (by decide) rfl ?_
    refine g_goto 11 dX12_roadClause_30 (by decide) ?_
    exact g_ls [1, 2, 3, 0] rfl (h2 q1)
theorem bX12_roadClause_70 {X : pX} {Q : Option Value → pMem → Prop} {m : pMem} {x1 : Int32} {x2 : Int32} {x3 : Int32} {ks0 : Nat} {xs1 : Int32} (hW : Wf m)
    (h1 : 1 ≤ ks0 ∧ ks0 ≤ 25)
    (h2 : Cl X 1 mJ0_length_8abf5 [.retAddr ks0] m (fun v m2 => Go X 6 mX12_roadClause Q 73 [(0, .ref 535), (1, .int x1), (2, .int x2), (3, .int x3)] (v.toList ++ [.int xs1, .ref 535]) m2)) :
    Go X 6 mX12_roadClause Q 70 [(0, .ref 535), (1, .int x1), (2, .int x2), (3, .int x3)] [.retAddr ks0, .int xs1, .ref 535] m := by
  exact g_callVO (As := []) (st := [.int xs1, .ref 535]) dX12_roadClause_70 coX12_174 rfl h1 rfl rfl (Nat.le_of_ble_eq_true rfl) (rmSH (by decide) (by decide)) h2
theorem bX12_roadClause_60 {X : pX} {Q : Option Value → pMem → Prop} {m : pMem} {x1 : Int32} {x2 : Int32} {x3 : Int32} (hW : Wf m)
    (h1 : Q none m) :
    Go X 6 mX12_roadClause Q 60 [(0, .ref 535), (1, .int x1), (2, .int x2), (3, .int x3)] [] m := by
  exact g_vret dX12_roadClause_60 rfl enSH h1
theorem bX12_roadClause_73 {X : pX} {Q : Option Value → pMem → Prop} {m : pMem} {x1 : Int32} {x2 : Int32} {x3 : Int32} {xs0 : Int32} {xs1 : Int32} (hW : Wf m)
    (h1 : Cl X 5 mX12_roadPart [.ref 535, .int x3] (uI m 535 20 (xs1 + xs0)) (fun v m2 => Go X 6 mX12_roadClause Q 82 [(0, .ref 535), (1, .int x1), (2, .int x2), (3, .int x3)] (v.toList ++ []) m2)) :
    Go X 6 mX12_roadClause Q 73 [(0, .ref 535), (1, .int x1), (2, .int x2), (3, .int x3)] [.int xs0, .int xs1, .ref 535] m := by
  refine g_iadd dX12_roadClause_73 ?_
  refine g_putI dX12_roadClause_74 fl12_163 (fun h => by cases h) sh535 ?_
  refine g_aload_n 0 dX12_roadClause_77 rfl rfl ?_
  refine g_iload_n 3 dX12_roadClause_78 rfl rfl ?_
  exact g_callV (As := [.int x3]) (st := []) dX12_roadClause_79 clX12_277 sh535 rfl rfl (Nat.le_of_ble_eq_true rfl) (rmSH (by decide) (by decide)) h1
theorem bX12_roadClause_82 {X : pX} {Q : Option Value → pMem → Prop} {m : pMem} {x1 : Int32} {x2 : Int32} {x3 : Int32} (hW : Wf m)
    (h1 : Q none m) :
    Go X 6 mX12_roadClause Q 82 [(0, .ref 535), (1, .int x1), (2, .int x2), (3, .int x3)] [] m := by
  exact g_vret dX12_roadClause_82 rfl enSH h1
theorem bX12_goesOn_0 {X : pX} {Q : Option Value → pMem → Prop} {m : pMem} (hW : Wf m)
    (h1 : Cl X 1 mX12_blanks [.ref 535] m (fun v m2 => Go X 2 mX12_goesOn Q 4 [(0, .ref 535)] (v.toList ++ []) m2)) :
    Go X 2 mX12_goesOn Q 0 [(0, .ref 535)] [] m := by
  refine g_aload_n 0 dX12_goesOn_0 rfl rfl ?_
  exact g_callV (As := []) (st := []) dX12_goesOn_1 clX12_183 sh535 rfl rfl (Nat.le_of_ble_eq_true rfl) (rmSH (by decide) (by decide)) h1
theorem bX12_goesOn_4 {X : pX} {Q : Option Value → pMem → Prop} {m : pMem} (hW : Wf m)
    (h1 : ¬ (mI m 535 21) = 0 → Go X 2 mX12_goesOn Q 40 [(0, .ref 535)] [] m)
    (h2 : (mI m 535 21) = 0 → (mI m 535 19) ≤ (mI m 535 20) → Go X 2 mX12_goesOn Q 40 [(0, .ref 535)] [] m)
    (h3 : (mI m 535 21) = 0 → ¬ ((mI m 535 19) ≤ (mI m 535 20)) → Cl X 0 mX12_sign [.ref 535] m (fun v m2 => Go X 2 mX12_goesOn Q 26 [(0, .ref 535)] (v.toList ++ []) m2)) :
    Go X 2 mX12_goesOn Q 4 [(0, .ref 535)] [] m := by
  refine g_aload_n 0 dX12_goesOn_4 rfl rfl ?_
  refine g_getI dX12_goesOn_5 fl12_160 sh535 ?_
  refine g_if_ne 40 dX12_goesOn_8 (by decide) (fun q1 => ?_) (fun q1 => ?_)
  · exact g_ls [0] rfl (h1 q1)
  · refine g_aload_n 0 dX12_goesOn_11 rfl rfl ?_
    refine g_getI dX12_goesOn_12 fl12_163 sh535 ?_
    refine g_aload_n 0 dX12_goesOn_15 rfl rfl ?_
    refine g_getI dX12_goesOn_16 fl12_132 sh535 ?_
    refine g_icmp_ge 40 dX12_goesOn_19 (by decide) (fun q2 => ?_) (fun q2 => ?_)
    · exact g_ls [0] rfl (h2 q1 q2)
    · refine g_aload_n 0 dX12_goesOn_22 rfl rfl ?_
      exact g_callV (As := []) (st := []) dX12_goesOn_23 clX12_166 sh535 rfl rfl (Nat.le_of_ble_eq_true rfl) (rmSH (by decide) (by decide)) (h3 q1 q2)
theorem bX12_goesOn_40 {X : pX} {Q : Option Value → pMem → Prop} {m : pMem} (hW : Wf m)
    (h1 : ¬ (mI m 535 21) = 0 → Go X 2 mX12_goesOn Q 62 [(0, .ref 535)] [] m)
    (h2 : (mI m 535 21) = 0 → (mI m 535 19) ≤ (mI m 535 20) → Go X 2 mX12_goesOn Q 62 [(0, .ref 535)] [] m)
    (h3 : (mI m 535 21) = 0 → ¬ ((mI m 535 19) ≤ (mI m 535 20)) → Q (some (.int (1 : Int32))) (uI m 535 20 ((mI m 535 20) + (1 : Int32)))) :
    Go X 2 mX12_goesOn Q 40 [(0, .ref 535)] [] m := by
  refine g_aload_n 0 dX12_goesOn_40 rfl rfl ?_
  refine g_getI dX12_goesOn_41 fl12_160 sh535 ?_
  refine g_if_ne 62 dX12_goesOn_44 (by decide) (fun q1 => ?_) (fun q1 => ?_)
  · exact g_ls [0] rfl (h1 q1)
  · refine g_aload_n 0 dX12_goesOn_47 rfl rfl ?_
    refine g_getI dX12_goesOn_48 fl12_163 sh535 ?_
    refine g_aload_n 0 dX12_goesOn_51 rfl rfl ?_
    refine g_getI dX12_goesOn_52 fl12_132 sh535 ?_
    refine g_icmp_ge 62 dX12_goesOn_55 (by decide) (fun q2 => ?_) (fun q2 => ?_)
    · exact g_ls [0] rfl (h2 q1 q2)
    · refine g_iconst (v := 1) dX12_goesOn_58 (by decide) ?_
      refine g_goto 63 dX12_goesOn_59 (by decide) ?_
      refine g_istore_n (ls2 := [(1, .int (1 : Int32)), (0, .ref 535)]) dX12_goesOn_63 rfl (by decide) rfl ?_
      refine g_aload_n 1 dX12_goesOn_64 rfl rfl ?_
      refine g_dup dX12_goesOn_65 rfl ?_
      refine g_getI dX12_goesOn_66 fl12_163 sh535 ?_
      refine g_iconst (v := 1) dX12_goesOn_69 (by decide) ?_
      refine g_iadd dX12_goesOn_70 ?_
      refine g_putI dX12_goesOn_71 fl12_163 (fun h => by cases h) sh535 ?_
      refine g_iload_n 0 dX12_goesOn_74 rfl rfl ?_
      exact g_bret dX12_goesOn_75 rfl (Or.inr rfl) enSH (h3 q1 q2)
theorem bX12_goesOn_26 {X : pX} {Q : Option Value → pMem → Prop} {m : pMem} {xs0 : Int32} (hW : Wf m)
    (h1 : xs0 = (59 : Int32) → Go X 2 mX12_goesOn Q 40 [(0, .ref 535)] [] m)
    (h2 : ¬ (xs0 = (59 : Int32)) → Cl X 0 mX12_fails [.ref 535, .int (0 : Int32), .int (mI m 535 20)] m (fun v m2 => Go X 2 mX12_goesOn Q 40 [(0, .ref 535)] (v.toList ++ []) m2)) :
    Go X 2 mX12_goesOn Q 26 [(0, .ref 535)] [.int xs0] m := by
  refine g_bipush (v := 59) dX12_goesOn_26 (by decide) ?_
  refine g_icmp_eq 40 dX12_goesOn_28 (by decide) (fun q1 => ?_) (fun q1 => ?_)
  · exact g_ls [0] rfl (h1 q1)
  · refine g_aload_n 0 dX12_goesOn_31 rfl rfl ?_
    refine g_iconst (v := 0) dX12_goesOn_32 (by decide) ?_
    refine g_aload_n 0 dX12_goesOn_33 rfl rfl ?_
    refine g_getI dX12_goesOn_34 fl12_163 sh535 ?_
    exact g_callV (As := [.int (0 : Int32), .int (mI m 535 20)]) (st := []) dX12_goesOn_37 clX12_199 sh535 rfl rfl (Nat.le_of_ble_eq_true rfl) (rmSH (by decide) (by decide)) (h2 q1)
theorem bX12_goesOn_62 {X : pX} {Q : Option Value → pMem → Prop} {m : pMem} (hW : Wf m)
    (h1 : Q (some (.int (0 : Int32))) (uI m 535 20 ((mI m 535 20) + (1 : Int32)))) :
    Go X 2 mX12_goesOn Q 62 [(0, .ref 535)] [] m := by
  refine g_iconst (v := 0) dX12_goesOn_62 (by decide) ?_
  refine g_istore_n (ls2 := [(1, .int (0 : Int32)), (0, .ref 535)]) dX12_goesOn_63 rfl (by decide) rfl ?_
  refine g_aload_n 1 dX12_goesOn_64 rfl rfl ?_
  refine g_dup dX12_goesOn_65 rfl ?_
  refine g_getI dX12_goesOn_66 fl12_163 sh535 ?_
  refine g_iconst (v := 1) dX12_goesOn_69 (by decide) ?_
  refine g_iadd dX12_goesOn_70 ?_
  refine g_putI dX12_goesOn_71 fl12_163 (fun h => by cases h) sh535 ?_
  refine g_iload_n 0 dX12_goesOn_74 rfl rfl ?_
  exact g_bret dX12_goesOn_75 rfl (Or.inl rfl) enSH h1
theorem bX12_readsAll_0 {X : pX} {Q : Option Value → pMem → Prop} {m : pMem} (hW : Wf m)
    (h1 : Cl X 0 mX12_starts [.ref 535] m (fun v m2 => Go X 7 mX12_readsAll Q 4 [(0, .ref 535)] (v.toList ++ []) m2)) :
    Go X 7 mX12_readsAll Q 0 [(0, .ref 535)] [] m := by
  refine g_aload_n 0 dX12_readsAll_0 rfl rfl ?_
  exact g_callV (As := []) (st := []) dX12_readsAll_1 clX12_280 sh535 rfl rfl (Nat.le_of_ble_eq_true rfl) (rmSH (by decide) (by decide)) h1
theorem bX12_readsAll_4 {X : pX} {Q : Option Value → pMem → Prop} {m : pMem} (hW : Wf m)
    (h1 : Go X 7 mX12_readsAll Q 6 [(0, .ref 535), (1, .int (0 : Int32))] [] m) :
    Go X 7 mX12_readsAll Q 4 [(0, .ref 535)] [] m := by
  refine g_iconst (v := 0) dX12_readsAll_4 (by decide) ?_
  refine g_istore_n (ls2 := [(1, .int (0 : Int32)), (0, .ref 535)]) dX12_readsAll_5 rfl (by decide) rfl ?_
  exact g_ls [1, 0] rfl h1
theorem bX12_readsAll_6 {X : pX} {Q : Option Value → pMem → Prop} {m : pMem} {x1 : Int32} (hW : Wf m)
    (h1 : (5 : Int32) ≤ x1 → Go X 7 mX12_readsAll Q 28 [(0, .ref 535), (1, .int (0 : Int32)), (2, .int (1 : Int32))] [] m)
    (h2 : ¬ ((5 : Int32) ≤ x1) → vp_in x1 5)
    (h3 : ¬ ((5 : Int32) ≤ x1) → Go X 7 mX12_readsAll Q 6 [(0, .ref 535), (1, .int (x1 + (1 : Int32)))] [] (uI m 548 x1.toNatClampNeg (0 : Int32))) :
    Go X 7 mX12_readsAll Q 6 [(0, .ref 535), (1, .int x1)] [] m := by
  refine g_iload_n 1 dX12_readsAll_6 rfl rfl ?_
  refine g_iconst (v := 5) dX12_readsAll_7 (by decide) ?_
  refine g_icmp_ge 24 dX12_readsAll_8 (by decide) (fun q1 => ?_) (fun q1 => ?_)
  · refine g_iconst (v := 0) dX12_readsAll_24 (by decide) ?_
    refine g_istore_n (ls2 := [(1, .int (0 : Int32)), (0, .ref 535)]) dX12_readsAll_25 rfl (by decide) rfl ?_
    refine g_iconst (v := 1) dX12_readsAll_26 (by decide) ?_
    refine g_istore_n (ls2 := [(2, .int (1 : Int32)), (1, .int (0 : Int32)), (0, .ref 535)]) dX12_readsAll_27 rfl (by decide) rfl ?_
    exact g_ls [2, 1, 0] rfl (h1 q1)
  · refine g_aload_n 0 dX12_readsAll_11 rfl rfl ?_
    refine g_getR dX12_readsAll_12 fl12_46 rfl sh535 (w12_13 hW sh535) ?_
    refine g_iload_n 1 dX12_readsAll_15 rfl rfl ?_
    refine g_iconst (v := 0) dX12_readsAll_16 (by decide) ?_
    refine g_iast (j := x1.toNatClampNeg) dX12_readsAll_17 (s12_13 sh535) (h2 q1) rfl ?_
    refine g_iinc (v := x1 + (1 : Int32)) (ls2 := [(1, .int (x1 + (1 : Int32))), (0, .ref 535)]) 1 dX12_readsAll_18 rfl rfl (by decide) rfl ?_
    refine g_goto 6 dX12_readsAll_21 (by decide) ?_
    exact g_ls [1, 0] rfl (h3 q1)
theorem bX12_readsAll_28 {X : pX} {Q : Option Value → pMem → Prop} {m : pMem} {x1 : Int32} {x2 : Int32} (hW : Wf m)
    (h1 : x2 = 0 → Q none (uI m 535 19 (0 : Int32)))
    (h2 : ¬ (x2 = 0) → Cl X 6 mX12_roadClause [.ref 535, .int x1] m (fun v m2 => Go X 7 mX12_readsAll Q 37 [(0, .ref 535), (1, .int x1), (2, .int x2)] (v.toList ++ []) m2)) :
    Go X 7 mX12_readsAll Q 28 [(0, .ref 535), (1, .int x1), (2, .int x2)] [] m := by
  refine g_iload_n 2 dX12_readsAll_28 rfl rfl ?_
  refine g_if_eq 48 dX12_readsAll_29 (by decide) (fun q1 => ?_) (fun q1 => ?_)
  · refine g_aload_n 0 dX12_readsAll_48 rfl rfl ?_
    refine g_iconst (v := 0) dX12_readsAll_49 (by decide) ?_
    refine g_putI dX12_readsAll_50 fl12_132 (fun h => by cases h) sh535 ?_
    exact g_vret dX12_readsAll_53 rfl enSH (h1 q1)
  · refine g_aload_n 0 dX12_readsAll_32 rfl rfl ?_
    refine g_iload_n 1 dX12_readsAll_33 rfl rfl ?_
    exact g_callV (As := [.int x1]) (st := []) dX12_readsAll_34 clX12_283 sh535 rfl rfl (Nat.le_of_ble_eq_true rfl) (rmSH (by decide) (by decide)) (h2 q1)
theorem bX12_readsAll_37 {X : pX} {Q : Option Value → pMem → Prop} {m : pMem} {x1 : Int32} {x2 : Int32} (hW : Wf m)
    (h1 : Cl X 2 mX12_goesOn [.ref 535] m (fun v m2 => Go X 7 mX12_readsAll Q 44 [(0, .ref 535), (1, .int (x1 + (1 : Int32))), (2, .int x2)] (v.toList ++ []) m2)) :
    Go X 7 mX12_readsAll Q 37 [(0, .ref 535), (1, .int x1), (2, .int x2)] [] m := by
  refine g_iinc (v := x1 + (1 : Int32)) (ls2 := [(1, .int (x1 + (1 : Int32))), (0, .ref 535), (2, .int x2)]) 1 dX12_readsAll_37 rfl rfl (by decide) rfl ?_
  refine g_aload_n 1 dX12_readsAll_40 rfl rfl ?_
  refine g_ls [1, 0, 2] (ls2 := [(0, .ref 535), (1, .int (x1 + (1 : Int32))), (2, .int x2)]) rfl ?_
  exact g_callV (As := []) (st := []) dX12_readsAll_41 clX12_286 sh535 rfl rfl (Nat.le_of_ble_eq_true rfl) (rmSH (by decide) (by decide)) h1
theorem bX12_readsAll_44 {X : pX} {Q : Option Value → pMem → Prop} {m : pMem} {x1 : Int32} {x2 : Int32} {xs0 : Int32} (hW : Wf m)
    (h1 : Go X 7 mX12_readsAll Q 28 [(0, .ref 535), (1, .int x1), (2, .int xs0)] [] m) :
    Go X 7 mX12_readsAll Q 44 [(0, .ref 535), (1, .int x1), (2, .int x2)] [.int xs0] m := by
  refine g_istore_n (ls2 := [(2, .int xs0), (0, .ref 535), (1, .int x1)]) dX12_readsAll_44 rfl (by decide) rfl ?_
  refine g_goto 28 dX12_readsAll_45 (by decide) ?_
  exact g_ls [1, 2, 0] rfl h1
theorem bX12_road_0 {X : pX} {Q : Option Value → pMem → Prop} {m : pMem} (hW : Wf m)
    (h1 : Cl X 7 mX12_readsAll [.ref 535] m (fun v m2 => Go X 8 mX12_road Q 4 [(0, .ref 535)] (v.toList ++ []) m2)) :
    Go X 8 mX12_road Q 0 [(0, .ref 535)] [] m := by
  refine g_aload_n 0 dX12_road_0 rfl rfl ?_
  exact g_callV (As := []) (st := []) dX12_road_1 clX12_293 sh535 rfl rfl (Nat.le_of_ble_eq_true rfl) (rmSH (by decide) (by decide)) h1
theorem bX12_road_4 {X : pX} {Q : Option Value → pMem → Prop} {m : pMem} (hW : Wf m)
    (h1 : (mI m 535 21) ≤ 0 → Go X 8 mX12_road Q 21 [(0, .ref 535), (1, .int (0 : Int32))] [] m)
    (h2 : ¬ ((mI m 535 21) ≤ 0) → Q (some (.int ((-2 : Int32) - (mI m 535 21)))) m) :
    Go X 8 mX12_road Q 4 [(0, .ref 535)] [] m := by
  refine g_aload_n 0 dX12_road_4 rfl rfl ?_
  refine g_getI dX12_road_5 fl12_160 sh535 ?_
  refine g_if_le 19 dX12_road_8 (by decide) (fun q1 => ?_) (fun q1 => ?_)
  · refine g_iconst (v := 0) dX12_road_19 (by decide) ?_
    refine g_istore_n (ls2 := [(1, .int (0 : Int32)), (0, .ref 535)]) dX12_road_20 rfl (by decide) rfl ?_
    exact g_ls [1, 0] rfl (h1 q1)
  · refine g_bipush (v := -2) dX12_road_11 (by decide) ?_
    refine g_aload_n 0 dX12_road_13 rfl rfl ?_
    refine g_getI dX12_road_14 fl12_160 sh535 ?_
    refine g_isub dX12_road_17 ?_
    exact g_iret dX12_road_18 rfl enSH (h2 q1)
theorem bX12_road_21 {X : pX} {Q : Option Value → pMem → Prop} {m : pMem} {x1 : Int32} (hW : Wf m)
    (h1 : (5 : Int32) ≤ x1 → Cl X 1 mX12_begins [.ref 535] (uC (uC (uC (uC (uC (uI m 536 6 (0 : Int32)) 549 0 540 0 8) 550 0 541 0 4) 551 0 542 0 6) 552 0 543 0 6) 553 0 547 0 6) (fun v m2 => Go X 8 mX12_road Q 111 [(0, .ref 535), (1, .int x1)] (v.toList ++ []) m2))
    (h2 : ¬ ((5 : Int32) ≤ x1) → vp_in x1 5)
    (h3 : ¬ ((5 : Int32) ≤ x1) → vp_in x1 9)
    (h4 : ¬ ((5 : Int32) ≤ x1) → Go X 8 mX12_road Q 21 [(0, .ref 535), (1, .int (x1 + (1 : Int32)))] [] (uI m 536 x1.toNatClampNeg (mI m 548 x1.toNatClampNeg))) :
    Go X 8 mX12_road Q 21 [(0, .ref 535), (1, .int x1)] [] m := by
  refine g_iload_n 1 dX12_road_21 rfl rfl ?_
  refine g_iconst (v := 5) dX12_road_22 (by decide) ?_
  refine g_icmp_ge 44 dX12_road_23 (by decide) (fun q1 => ?_) (fun q1 => ?_)
  · refine g_aload_n 0 dX12_road_44 rfl rfl ?_
    refine g_getR dX12_road_45 fl12_9 rfl sh535 (w12_1 hW sh535) ?_
    refine g_bipush (v := 6) dX12_road_48 (by decide) ?_
    refine g_iconst (v := 0) dX12_road_50 (by decide) ?_
    refine g_iast (j := 6) dX12_road_51 (s12_1 sh535) (by unfold vp_in; decide) (by decide) ?_
    refine g_aload_n 0 dX12_road_52 rfl rfl ?_
    refine g_getR dX12_road_53 fl12_49 rfl sh535 (w12_14 hW sh535) ?_
    refine g_aload_n 0 dX12_road_56 rfl rfl ?_
    refine g_getR dX12_road_57 fl12_22 rfl sh535 (w12_5 hW sh535) ?_
    refine g_callS (As := [.ref 549, .ref 540]) (st := []) dX12_road_60 clX12_289 rfl rfl (Nat.le_of_ble_eq_true rfl) (rmSH (by decide) (by decide)) (s_copies hW (s12_14 sh535) (s12_5 sh535) (by decide) (by decide) ?_)
    show Go X 8 mX12_road Q 63 [(0, .ref 535), (1, .int x1)] [] (uC (uI m 536 6 (0 : Int32)) 549 0 540 0 8)
    refine g_aload_n 0 dX12_road_63 rfl rfl ?_
    refine g_getR dX12_road_64 fl12_52 rfl sh535 (w12_15 hW sh535) ?_
    refine g_aload_n 0 dX12_road_67 rfl rfl ?_
    refine g_getR dX12_road_68 fl12_25 rfl sh535 (w12_6 hW sh535) ?_
    refine g_callS (As := [.ref 550, .ref 541]) (st := []) dX12_road_71 clX12_289 rfl rfl (Nat.le_of_ble_eq_true rfl) (rmSH (by decide) (by decide)) (s_copies hW (s12_15 sh535) (s12_6 sh535) (by decide) (by decide) ?_)
    show Go X 8 mX12_road Q 74 [(0, .ref 535), (1, .int x1)] [] (uC (uC (uI m 536 6 (0 : Int32)) 549 0 540 0 8) 550 0 541 0 4)
    refine g_aload_n 0 dX12_road_74 rfl rfl ?_
    refine g_getR dX12_road_75 fl12_55 rfl sh535 (w12_16 hW sh535) ?_
    refine g_aload_n 0 dX12_road_78 rfl rfl ?_
    refine g_getR dX12_road_79 fl12_28 rfl sh535 (w12_7 hW sh535) ?_
    refine g_callS (As := [.ref 551, .ref 542]) (st := []) dX12_road_82 clX12_289 rfl rfl (Nat.le_of_ble_eq_true rfl) (rmSH (by decide) (by decide)) (s_copies hW (s12_16 sh535) (s12_7 sh535) (by decide) (by decide) ?_)
    show Go X 8 mX12_road Q 85 [(0, .ref 535), (1, .int x1)] [] (uC (uC (uC (uI m 536 6 (0 : Int32)) 549 0 540 0 8) 550 0 541 0 4) 551 0 542 0 6)
    refine g_aload_n 0 dX12_road_85 rfl rfl ?_
    refine g_getR dX12_road_86 fl12_58 rfl sh535 (w12_17 hW sh535) ?_
    refine g_aload_n 0 dX12_road_89 rfl rfl ?_
    refine g_getR dX12_road_90 fl12_31 rfl sh535 (w12_8 hW sh535) ?_
    refine g_callS (As := [.ref 552, .ref 543]) (st := []) dX12_road_93 clX12_289 rfl rfl (Nat.le_of_ble_eq_true rfl) (rmSH (by decide) (by decide)) (s_copies hW (s12_17 sh535) (s12_8 sh535) (by decide) (by decide) ?_)
    show Go X 8 mX12_road Q 96 [(0, .ref 535), (1, .int x1)] [] (uC (uC (uC (uC (uI m 536 6 (0 : Int32)) 549 0 540 0 8) 550 0 541 0 4) 551 0 542 0 6) 552 0 543 0 6)
    refine g_aload_n 0 dX12_road_96 rfl rfl ?_
    refine g_getR dX12_road_97 fl12_61 rfl sh535 (w12_18 hW sh535) ?_
    refine g_aload_n 0 dX12_road_100 rfl rfl ?_
    refine g_getR dX12_road_101 fl12_43 rfl sh535 (w12_12 hW sh535) ?_
    refine g_callS (As := [.ref 553, .ref 547]) (st := []) dX12_road_104 clX12_289 rfl rfl (Nat.le_of_ble_eq_true rfl) (rmSH (by decide) (by decide)) (s_copies hW (s12_18 sh535) (s12_12 sh535) (by decide) (by decide) ?_)
    show Go X 8 mX12_road Q 107 [(0, .ref 535), (1, .int x1)] [] (uC (uC (uC (uC (uC (uI m 536 6 (0 : Int32)) 549 0 540 0 8) 550 0 541 0 4) 551 0 542 0 6) 552 0 543 0 6) 553 0 547 0 6)
    refine g_aload_n 0 dX12_road_107 rfl rfl ?_
    exact g_callV (As := []) (st := []) dX12_road_108 clX12_296 sh535 rfl rfl (Nat.le_of_ble_eq_true rfl) (rmSH (by decide) (by decide)) (h1 q1)
  · refine g_aload_n 0 dX12_road_26 rfl rfl ?_
    refine g_getR dX12_road_27 fl12_9 rfl sh535 (w12_1 hW sh535) ?_
    refine g_iload_n 1 dX12_road_30 rfl rfl ?_
    refine g_aload_n 0 dX12_road_31 rfl rfl ?_
    refine g_getR dX12_road_32 fl12_46 rfl sh535 (w12_13 hW sh535) ?_
    refine g_iload_n 1 dX12_road_35 rfl rfl ?_
    refine g_iald (j := x1.toNatClampNeg) dX12_road_36 (s12_13 sh535) (h2 q1) rfl ?_
    refine g_iast (j := x1.toNatClampNeg) dX12_road_37 (s12_1 sh535) (h3 q1) rfl ?_
    refine g_iinc (v := x1 + (1 : Int32)) (ls2 := [(1, .int (x1 + (1 : Int32))), (0, .ref 535)]) 1 dX12_road_38 rfl rfl (by decide) rfl ?_
    refine g_goto 21 dX12_road_41 (by decide) ?_
    exact g_ls [1, 0] rfl (h4 q1)
theorem bX12_road_111 {X : pX} {Q : Option Value → pMem → Prop} {m : pMem} {x1 : Int32} (hW : Wf m)
    (h1 : Q (some (.int (mI m 536 3))) (uI m 535 41 (0 : Int32))) :
    Go X 8 mX12_road Q 111 [(0, .ref 535), (1, .int x1)] [] m := by
  refine g_aload_n 0 dX12_road_111 rfl rfl ?_
  refine g_iconst (v := 0) dX12_road_112 (by decide) ?_
  refine g_putI dX12_road_113 fl12_299 (fun h => by cases h) sh535 ?_
  refine g_aload_n 0 dX12_road_116 rfl rfl ?_
  refine g_getR dX12_road_117 fl12_9 rfl sh535 (w12_1 hW sh535) ?_
  refine g_iconst (v := 3) dX12_road_120 (by decide) ?_
  refine g_iald (j := 3) dX12_road_121 (s12_1 sh535) (by unfold vp_in; decide) (by decide) ?_
  exact g_iret dX12_road_122 rfl enSH h1
