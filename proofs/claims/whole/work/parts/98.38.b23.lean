theorem bX7_addStep_0 {X : pX} {Q : Option Value → pMem → Prop} {m : pMem} {x1 : Int32} {r5 : Nat} (hW : Wf m) (e5 : mR m 10 1 = some r5) (f5 : SH[r5]? = some (.inl 6))
    (h1 : x1 = 0 → Q none m)
    (h2 : ¬ (x1 = 0) → Cl X 0 mX6_add [.ref r5, .int x1] m (fun v m2 => Go X 1 mX7_addStep Q 12 [(0, .ref 10), (1, .int x1)] (v.toList ++ []) m2)) :
    Go X 1 mX7_addStep Q 0 [(0, .ref 10), (1, .int x1)] [] m := by
  refine g_iload_n 1 dX7_addStep_0 rfl rfl ?_
  refine g_if_eq 12 dX7_addStep_1 (by decide) (fun q1 => ?_) (fun q1 => ?_)
  · exact g_vret dX7_addStep_12 rfl enSH (h1 q1)
  · refine g_aload_n 0 dX7_addStep_4 rfl rfl ?_
    refine g_getR (r := r5) dX7_addStep_5 fl7_15 rfl sh10 e5 ?_
    refine g_iload_n 1 dX7_addStep_8 rfl rfl ?_
    exact g_callV (As := [.int x1]) (st := []) dX7_addStep_9 clX7_60 f5 rfl rfl (Nat.le_of_ble_eq_true rfl) (rmSH (by decide) (by decide)) (h2 q1)
theorem bX7_addStep_12 {X : pX} {Q : Option Value → pMem → Prop} {m : pMem} {x1 : Int32} (hW : Wf m)
    (h1 : Q none m) :
    Go X 1 mX7_addStep Q 12 [(0, .ref 10), (1, .int x1)] [] m := by
  exact g_vret dX7_addStep_12 rfl enSH h1
theorem bX12_isCounted_0 {X : pX} {Q : Option Value → pMem → Prop} {m : pMem} {x1 : Int32} (hW : Wf m)
    (h1 : ¬ (mI m 535 26) = (60 : Int32) → Q none (uI m 535 26 ((mI m 535 26) + (1 : Int32))))
    (h2 : (mI m 535 26) = (60 : Int32) → Cl X 0 mX12_fails [.ref 535, .int (3 : Int32), .int x1] m (fun v m2 => Go X 1 mX12_isCounted Q 15 [(0, .ref 535), (1, .int x1)] (v.toList ++ []) m2)) :
    Go X 1 mX12_isCounted Q 0 [(0, .ref 535), (1, .int x1)] [] m := by
  refine g_aload_n 0 dX12_isCounted_0 rfl rfl ?_
  refine g_getI dX12_isCounted_1 fl12_196 sh535 ?_
  refine g_bipush (v := 60) dX12_isCounted_4 (by decide) ?_
  refine g_icmp_ne 15 dX12_isCounted_6 (by decide) (fun q1 => ?_) (fun q1 => ?_)
  · refine g_aload_n 0 dX12_isCounted_15 rfl rfl ?_
    refine g_dup dX12_isCounted_16 rfl ?_
    refine g_getI dX12_isCounted_17 fl12_196 sh535 ?_
    refine g_iconst (v := 1) dX12_isCounted_20 (by decide) ?_
    refine g_iadd dX12_isCounted_21 ?_
    refine g_putI dX12_isCounted_22 fl12_196 (fun h => by cases h) sh535 ?_
    exact g_vret dX12_isCounted_25 rfl enSH (h1 q1)
  · refine g_aload_n 0 dX12_isCounted_9 rfl rfl ?_
    refine g_iconst (v := 3) dX12_isCounted_10 (by decide) ?_
    refine g_iload_n 1 dX12_isCounted_11 rfl rfl ?_
    exact g_callV (As := [.int (3 : Int32), .int x1]) (st := []) dX12_isCounted_12 clX12_199 sh535 rfl rfl (Nat.le_of_ble_eq_true rfl) (rmSH (by decide) (by decide)) (h2 q1)
theorem bX12_isCounted_15 {X : pX} {Q : Option Value → pMem → Prop} {m : pMem} {x1 : Int32} (hW : Wf m)
    (h1 : Q none (uI m 535 26 ((mI m 535 26) + (1 : Int32)))) :
    Go X 1 mX12_isCounted Q 15 [(0, .ref 535), (1, .int x1)] [] m := by
  refine g_aload_n 0 dX12_isCounted_15 rfl rfl ?_
  refine g_dup dX12_isCounted_16 rfl ?_
  refine g_getI dX12_isCounted_17 fl12_196 sh535 ?_
  refine g_iconst (v := 1) dX12_isCounted_20 (by decide) ?_
  refine g_iadd dX12_isCounted_21 ?_
  refine g_putI dX12_isCounted_22 fl12_196 (fun h => by cases h) sh535 ?_
  exact g_vret dX12_isCounted_25 rfl enSH h1
theorem bX7_readValue_0 {X : pX} {Q : Option Value → pMem → Prop} {m : pMem} (hW : Wf m)
    (h1 : Cl X 1 mX9_next [.ref 1] m (fun v m2 => Go X 7 mX7_readValue Q 7 [(0, .ref 10)] (v.toList ++ []) m2)) :
    Go X 7 mX7_readValue Q 0 [(0, .ref 10)] [] m := by
  refine g_aload_n 0 dX7_readValue_0 rfl rfl ?_
  refine g_getR dX7_readValue_1 fl7_9 rfl sh10 (w7_0 hW sh10) ?_
  exact g_callV (As := []) (st := []) dX7_readValue_4 clX7_33 sh1 rfl rfl (Nat.le_of_ble_eq_true rfl) (rmSH (by decide) (by decide)) h1
theorem bX7_readValue_7 {X : pX} {Q : Option Value → pMem → Prop} {m : pMem} {xs0 : Int32} (hW : Wf m)
    (h1 : Cl X 0 mX9_isDigit [.int xs0] m (fun v m2 => Go X 7 mX7_readValue Q 10 [(0, .ref 10)] (v.toList ++ []) m2)) :
    Go X 7 mX7_readValue Q 7 [(0, .ref 10)] [.int xs0] m := by
  exact g_callS (As := [.int xs0]) (st := []) dX7_readValue_7 clX7_92 rfl rfl (Nat.le_of_ble_eq_true rfl) (rmSH (by decide) (by decide)) h1
theorem bX7_readValue_10 {X : pX} {Q : Option Value → pMem → Prop} {m : pMem} {xs0 : Int32} (hW : Wf m)
    (h1 : xs0 = 0 → Cl X 6 mX9_takeWordOf [.ref 1, .retAddr 2] m (fun v m2 => Go X 7 mX7_readValue Q 45 [(0, .ref 10), (1, .int xs0), (2, .int (mI m 1 2))] (v.toList ++ []) m2))
    (h2 : ¬ (xs0 = 0) → Cl X 1 mX9_number [.ref 1, .int (0 : Int32), .int (99999 : Int32)] m (fun v m2 => Go X 7 mX7_readValue Q 33 [(0, .ref 10), (1, .int xs0), (2, .int (mI m 1 2))] (v.toList ++ []) m2)) :
    Go X 7 mX7_readValue Q 10 [(0, .ref 10)] [.int xs0] m := by
  refine g_istore_n (ls2 := [(1, .int xs0), (0, .ref 10)]) dX7_readValue_10 rfl (by decide) rfl ?_
  refine g_aload_n 1 dX7_readValue_11 rfl rfl ?_
  refine g_getR dX7_readValue_12 fl7_9 rfl sh10 (w7_0 hW sh10) ?_
  refine g_getI dX7_readValue_15 fl7_37 sh1 ?_
  refine g_istore_n (ls2 := [(2, .int (mI m 1 2)), (1, .int xs0), (0, .ref 10)]) dX7_readValue_18 rfl (by decide) rfl ?_
  refine g_iload_n 1 dX7_readValue_19 rfl rfl ?_
  refine g_if_eq 36 dX7_readValue_20 (by decide) (fun q1 => ?_) (fun q1 => ?_)
  · refine g_aload_n 2 dX7_readValue_36 rfl rfl ?_
    refine g_getR dX7_readValue_37 fl7_9 rfl sh10 (w7_0 hW sh10) ?_
    refine g_ldcS 1 (by decide) rfl rfl dX7_readValue_40 ?_
    refine g_ls [2, 1, 0] (ls2 := [(0, .ref 10), (1, .int xs0), (2, .int (mI m 1 2))]) rfl ?_
    exact g_callV (As := [.retAddr 2]) (st := []) dX7_readValue_42 clX7_102 sh1 rfl rfl (Nat.le_of_ble_eq_true rfl) (rmSH (by decide) (by decide)) (h1 q1)
  · refine g_aload_n 2 dX7_readValue_23 rfl rfl ?_
    refine g_getR dX7_readValue_24 fl7_9 rfl sh10 (w7_0 hW sh10) ?_
    refine g_iconst (v := 0) dX7_readValue_27 (by decide) ?_
    refine g_ldc (v := 99999) dX7_readValue_28 ciX7_95 ?_
    refine g_ls [2, 1, 0] (ls2 := [(0, .ref 10), (1, .int xs0), (2, .int (mI m 1 2))]) rfl ?_
    exact g_callV (As := [.int (0 : Int32), .int (99999 : Int32)]) (st := []) dX7_readValue_30 clX7_96 sh1 rfl rfl (Nat.le_of_ble_eq_true rfl) (rmSH (by decide) (by decide)) (h2 q1)
theorem bX7_readValue_45 {X : pX} {Q : Option Value → pMem → Prop} {m : pMem} {x1 : Int32} {x2 : Int32} {xs0 : Int32} {r91 : Nat} (hW : Wf m) (e91 : mR (uI m 10 2 ((mI m 10 2) + (1 : Int32))) 10 1 = some r91) (f91 : SH[r91]? = some (.inl 6))
    (h1 : ¬ xs0 = (-1 : Int32) → (mI m 10 2) < (60 : Int32) → x1 = 0 → Cl X 0 mX6_add [.ref r91, .int ((-1 : Int32) - xs0)] (uI m 10 2 ((mI m 10 2) + (1 : Int32))) (fun v m2 => Go X 7 mX7_readValue Q 108 [(0, .ref 10), (1, .int x1), (2, .int x2), (3, .int xs0)] (v.toList ++ []) m2))
    (h2 : ¬ xs0 = (-1 : Int32) → (mI m 10 2) < (60 : Int32) → ¬ (x1 = 0) → Cl X 0 mX6_add [.ref r91, .int xs0] (uI m 10 2 ((mI m 10 2) + (1 : Int32))) (fun v m2 => Go X 7 mX7_readValue Q 108 [(0, .ref 10), (1, .int x1), (2, .int x2), (3, .int xs0)] (v.toList ++ []) m2))
    (h3 : ¬ xs0 = (-1 : Int32) → ¬ ((mI m 10 2) < (60 : Int32)) → Cl X 0 mX9_fail [.ref 1, .int x2, .int (3 : Int32)] m (fun v m2 => Go X 7 mX7_readValue Q 79 [(0, .ref 10), (1, .int x1), (2, .int x2), (3, .int xs0)] (v.toList ++ []) m2))
    (h4 : xs0 = (-1 : Int32) → Cl X 0 mX9_fail [.ref 1, .int x2, .int (0 : Int32)] m (fun v m2 => Go X 7 mX7_readValue Q 60 [(0, .ref 10), (1, .int x1), (2, .int x2), (3, .int xs0)] (v.toList ++ []) m2)) :
    Go X 7 mX7_readValue Q 45 [(0, .ref 10), (1, .int x1), (2, .int x2)] [.int xs0] m := by
  refine g_istore_n (ls2 := [(3, .int xs0), (0, .ref 10), (1, .int x1), (2, .int x2)]) dX7_readValue_45 rfl (by decide) rfl ?_
  refine g_iload_n 0 dX7_readValue_46 rfl rfl ?_
  refine g_iconst (v := -1) dX7_readValue_47 (by decide) ?_
  refine g_icmp_ne 61 dX7_readValue_48 (by decide) (fun q1 => ?_) (fun q1 => ?_)
  · refine g_aload_n 1 dX7_readValue_61 rfl rfl ?_
    refine g_getI dX7_readValue_62 fl7_24 sh10 ?_
    refine g_bipush (v := 60) dX7_readValue_65 (by decide) ?_
    refine g_icmp_lt 80 dX7_readValue_67 (by decide) (fun q2 => ?_) (fun q2 => ?_)
    · refine g_aload_n 1 dX7_readValue_80 rfl rfl ?_
      refine g_dup dX7_readValue_81 rfl ?_
      refine g_getI dX7_readValue_82 fl7_24 sh10 ?_
      refine g_iconst (v := 1) dX7_readValue_85 (by decide) ?_
      refine g_iadd dX7_readValue_86 ?_
      refine g_putI dX7_readValue_87 fl7_24 (fun h => by cases h) sh10 ?_
      refine g_aload_n 1 dX7_readValue_90 rfl rfl ?_
      refine g_getR (r := r91) dX7_readValue_91 fl7_15 rfl sh10 e91 ?_
      refine g_iload_n 2 dX7_readValue_94 rfl rfl ?_
      refine g_if_eq 102 dX7_readValue_95 (by decide) (fun q3 => ?_) (fun q3 => ?_)
      · refine g_iconst (v := -1) dX7_readValue_102 (by decide) ?_
        refine g_iload_n 0 dX7_readValue_103 rfl rfl ?_
        refine g_isub dX7_readValue_104 ?_
        refine g_ls [1, 2, 3, 0] (ls2 := [(0, .ref 10), (1, .int x1), (2, .int x2), (3, .int xs0)]) rfl ?_
        exact g_callV (As := [.int ((-1 : Int32) - xs0)]) (st := []) dX7_readValue_105 clX7_60 f91 rfl rfl (Nat.le_of_ble_eq_true rfl) (rmSH (by decide) (by decide)) (h1 q1 q2 q3)
      · refine g_iload_n 0 dX7_readValue_98 rfl rfl ?_
        refine g_goto 105 dX7_readValue_99 (by decide) ?_
        refine g_ls [1, 2, 3, 0] (ls2 := [(0, .ref 10), (1, .int x1), (2, .int x2), (3, .int xs0)]) rfl ?_
        exact g_callV (As := [.int xs0]) (st := []) dX7_readValue_105 clX7_60 f91 rfl rfl (Nat.le_of_ble_eq_true rfl) (rmSH (by decide) (by decide)) (h2 q1 q2 q3)
    · refine g_aload_n 1 dX7_readValue_70 rfl rfl ?_
      refine g_getR dX7_readValue_71 fl7_9 rfl sh10 (w7_0 hW sh10) ?_
      refine g_iload_n 3 dX7_readValue_74 rfl rfl ?_
      refine g_iconst (v := 3) dX7_readValue_75 (by decide) ?_
      refine g_ls [1, 2, 3, 0] (ls2 := [(0, .ref 10), (1, .int x1), (2, .int x2), (3, .int xs0)]) rfl ?_
      exact g_callV (As := [.int x2, .int (3 : Int32)]) (st := []) dX7_readValue_76 clX7_46 sh1 rfl rfl (Nat.le_of_ble_eq_true rfl) (rmSH (by decide) (by decide)) (h3 q1 q2)
  · refine g_aload_n 1 dX7_readValue_51 rfl rfl ?_
    refine g_getR dX7_readValue_52 fl7_9 rfl sh10 (w7_0 hW sh10) ?_
    refine g_iload_n 3 dX7_readValue_55 rfl rfl ?_
    refine g_iconst (v := 0) dX7_readValue_56 (by decide) ?_
    refine g_ls [1, 2, 3, 0] (ls2 := [(0, .ref 10), (1, .int x1), (2, .int x2), (3, .int xs0)]) rfl ?_
    exact g_callV (As := [.int x2, .int (0 : Int32)]) (st := []) dX7_readValue_57 clX7_46 sh1 rfl rfl (Nat.le_of_ble_eq_true rfl) (rmSH (by decide) (by decide)) (h4 q1)
theorem bX7_readValue_33 {X : pX} {Q : Option Value → pMem → Prop} {m : pMem} {x1 : Int32} {x2 : Int32} {xs0 : Int32} (hW : Wf m)
    (h1 : Go X 7 mX7_readValue Q 45 [(0, .ref 10), (1, .int x1), (2, .int x2)] [.int xs0] m) :
    Go X 7 mX7_readValue Q 33 [(0, .ref 10), (1, .int x1), (2, .int x2)] [.int xs0] m := by
  refine g_goto 45 dX7_readValue_33 (by decide) ?_
  exact g_ls [0, 1, 2] rfl h1
theorem bX7_readValue_108 {X : pX} {Q : Option Value → pMem → Prop} {m : pMem} {x1 : Int32} {x2 : Int32} {x3 : Int32} (hW : Wf m)
    (h1 : Q (some (.int (1 : Int32))) m) :
    Go X 7 mX7_readValue Q 108 [(0, .ref 10), (1, .int x1), (2, .int x2), (3, .int x3)] [] m := by
  refine g_iconst (v := 1) dX7_readValue_108 (by decide) ?_
  exact g_bret dX7_readValue_109 rfl (Or.inr rfl) enSH h1
theorem bX7_readValue_79 {X : pX} {Q : Option Value → pMem → Prop} {m : pMem} {x1 : Int32} {x2 : Int32} {x3 : Int32} {xs0 : Int32} (hW : Wf m)
    (h1 : xs0 = 0 ∨ xs0 = 1)
    (h2 : Q (some (.int xs0)) m) :
    Go X 7 mX7_readValue Q 79 [(0, .ref 10), (1, .int x1), (2, .int x2), (3, .int x3)] [.int xs0] m := by
  exact g_bret dX7_readValue_79 rfl h1 enSH h2
theorem bX7_readValue_60 {X : pX} {Q : Option Value → pMem → Prop} {m : pMem} {x1 : Int32} {x2 : Int32} {x3 : Int32} {xs0 : Int32} (hW : Wf m)
    (h1 : xs0 = 0 ∨ xs0 = 1)
    (h2 : Q (some (.int xs0)) m) :
    Go X 7 mX7_readValue Q 60 [(0, .ref 10), (1, .int x1), (2, .int x2), (3, .int x3)] [.int xs0] m := by
  exact g_bret dX7_readValue_60 rfl h1 enSH h2
theorem bX7_readSum_0 {X : pX} {Q : Option Value → pMem → Prop} {m : pMem} (hW : Wf m)
    (h1 : Cl X 7 mX7_readValue [.ref 10] m (fun v m2 => Go X 8 mX7_readSum Q 6 [(0, .ref 10), (1, .int (0 : Int32))] (v.toList ++ []) m2)) :
    Go X 8 mX7_readSum Q 0 [(0, .ref 10)] [] m := by
  refine g_iconst (v := 0) dX7_readSum_0 (by decide) ?_
  refine g_istore_n (ls2 := [(1, .int (0 : Int32)), (0, .ref 10)]) dX7_readSum_1 rfl (by decide) rfl ?_
  refine g_aload_n 1 dX7_readSum_2 rfl rfl ?_
  refine g_ls [1, 0] (ls2 := [(0, .ref 10), (1, .int (0 : Int32))]) rfl ?_
  exact g_callV (As := []) (st := []) dX7_readSum_3 clX7_85 sh10 rfl rfl (Nat.le_of_ble_eq_true rfl) (rmSH (by decide) (by decide)) h1
theorem bX7_readSum_6 {X : pX} {Q : Option Value → pMem → Prop} {m : pMem} {x1 : Int32} {xs0 : Int32} (hW : Wf m)
    (h1 : ¬ xs0 = 0 → Go X 8 mX7_readSum Q 13 [(0, .ref 10), (1, .int x1), (2, .int (0 : Int32))] [] m)
    (h2 : xs0 = 0 → Q (some (.int (0 : Int32))) m) :
    Go X 8 mX7_readSum Q 6 [(0, .ref 10), (1, .int x1)] [.int xs0] m := by
  refine g_if_ne 11 dX7_readSum_6 (by decide) (fun q1 => ?_) (fun q1 => ?_)
  · refine g_iconst (v := 0) dX7_readSum_11 (by decide) ?_
    refine g_istore_n (ls2 := [(2, .int (0 : Int32)), (0, .ref 10), (1, .int x1)]) dX7_readSum_12 rfl (by decide) rfl ?_
    exact g_ls [1, 2, 0] rfl (h1 q1)
  · refine g_iconst (v := 0) dX7_readSum_9 (by decide) ?_
    exact g_bret dX7_readSum_10 rfl (Or.inl rfl) enSH (h2 q1)
theorem bX7_readSum_13 {X : pX} {Q : Option Value → pMem → Prop} {m : pMem} {x1 : Int32} {x2 : Int32} (hW : Wf m)
    (h1 : (400 : Int32) ≤ x2 → Cl X 1 mX7_addStep [.ref 10, .int x1] m (fun v m2 => Go X 8 mX7_readSum Q 115 [(0, .ref 10), (1, .int x1), (2, .int x2)] (v.toList ++ []) m2))
    (h2 : ¬ ((400 : Int32) ≤ x2) → Cl X 1 mX9_next [.ref 1] m (fun v m2 => Go X 8 mX7_readSum Q 27 [(0, .ref 10), (1, .int x1), (2, .int x2)] (v.toList ++ []) m2)) :
    Go X 8 mX7_readSum Q 13 [(0, .ref 10), (1, .int x1), (2, .int x2)] [] m := by
  refine g_iload_n 2 dX7_readSum_13 rfl rfl ?_
  refine g_sipush (v := 400) dX7_readSum_14 (by decide) ?_
  refine g_icmp_ge 110 dX7_readSum_17 (by decide) (fun q1 => ?_) (fun q1 => ?_)
  · refine g_aload_n 0 dX7_readSum_110 rfl rfl ?_
    refine g_iload_n 1 dX7_readSum_111 rfl rfl ?_
    exact g_callV (As := [.int x1]) (st := []) dX7_readSum_112 clX7_74 sh10 rfl rfl (Nat.le_of_ble_eq_true rfl) (rmSH (by decide) (by decide)) (h1 q1)
  · refine g_aload_n 0 dX7_readSum_20 rfl rfl ?_
    refine g_getR dX7_readSum_21 fl7_9 rfl sh10 (w7_0 hW sh10) ?_
    exact g_callV (As := []) (st := []) dX7_readSum_24 clX7_33 sh1 rfl rfl (Nat.le_of_ble_eq_true rfl) (rmSH (by decide) (by decide)) (h2 q1)
theorem bX7_readSum_115 {X : pX} {Q : Option Value → pMem → Prop} {m : pMem} {x1 : Int32} {x2 : Int32} (hW : Wf m)
    (h1 : Q (some (.int (1 : Int32))) m) :
    Go X 8 mX7_readSum Q 115 [(0, .ref 10), (1, .int x1), (2, .int x2)] [] m := by
  refine g_iconst (v := 1) dX7_readSum_115 (by decide) ?_
  exact g_bret dX7_readSum_116 rfl (Or.inr rfl) enSH h1
theorem bX7_readSum_27 {X : pX} {Q : Option Value → pMem → Prop} {m : pMem} {x1 : Int32} {x2 : Int32} {xs0 : Int32} (hW : Wf m)
    (h1 : Cl X 0 mX7_stepOf [.int xs0] m (fun v m2 => Go X 8 mX7_readSum Q 30 [(0, .ref 10), (1, .int x1), (2, .int x2)] (v.toList ++ []) m2)) :
    Go X 8 mX7_readSum Q 27 [(0, .ref 10), (1, .int x1), (2, .int x2)] [.int xs0] m := by
  exact g_callS (As := [.int xs0]) (st := []) dX7_readSum_27 clX7_88 rfl rfl (Nat.le_of_ble_eq_true rfl) (rmSH (by decide) (by decide)) h1
theorem bX7_readSum_30 {X : pX} {Q : Option Value → pMem → Prop} {m : pMem} {x1 : Int32} {x2 : Int32} {xs0 : Int32} (hW : Wf m)
    (h1 : ¬ xs0 = 0 → xs0 = (-21 : Int32) → Go X 8 mX7_readSum Q 63 [(0, .ref 10), (1, .int x1), (2, .int x2), (3, .int xs0)] [] (uI m 1 2 ((mI m 1 2) + (1 : Int32))))
    (h2 : ¬ xs0 = 0 → ¬ (xs0 = (-21 : Int32)) → ¬ xs0 = (-22 : Int32) → Go X 8 mX7_readSum Q 68 [(0, .ref 10), (1, .int x1), (2, .int x2), (3, .int xs0)] [.int (0 : Int32)] (uI m 1 2 ((mI m 1 2) + (1 : Int32))))
    (h3 : ¬ xs0 = 0 → ¬ (xs0 = (-21 : Int32)) → xs0 = (-22 : Int32) → Go X 8 mX7_readSum Q 63 [(0, .ref 10), (1, .int x1), (2, .int x2), (3, .int xs0)] [] (uI m 1 2 ((mI m 1 2) + (1 : Int32))))
    (h4 : xs0 = 0 → Cl X 1 mX7_addStep [.ref 10, .int x1] m (fun v m2 => Go X 8 mX7_readSum Q 115 [(0, .ref 10), (1, .int x1), (2, .int x2), (3, .int xs0)] (v.toList ++ []) m2)) :
    Go X 8 mX7_readSum Q 30 [(0, .ref 10), (1, .int x1), (2, .int x2)] [.int xs0] m := by
  refine g_istore_n (ls2 := [(3, .int xs0), (0, .ref 10), (1, .int x1), (2, .int x2)]) dX7_readSum_30 rfl (by decide) rfl ?_
  refine g_iload_n 0 dX7_readSum_31 rfl rfl ?_
  refine g_if_ne 38 dX7_readSum_32 (by decide) (fun q1 => ?_) (fun q1 => ?_)
  · refine g_aload_n 1 dX7_readSum_38 rfl rfl ?_
    refine g_getR dX7_readSum_39 fl7_9 rfl sh10 (w7_0 hW sh10) ?_
    refine g_dup dX7_readSum_42 rfl ?_
    refine g_getI dX7_readSum_43 fl7_37 sh1 ?_
    refine g_iconst (v := 1) dX7_readSum_46 (by decide) ?_
    refine g_iadd dX7_readSum_47 ?_
    refine g_putI dX7_readSum_48 fl7_37 (fun h => by cases h) sh1 ?_
    refine g_iload_n 0 dX7_readSum_51 rfl rfl ?_
    refine g_bipush (v := -21) dX7_readSum_52 (by decide) ?_
    refine g_icmp_eq 63 dX7_readSum_54 (by decide) (fun q2 => ?_) (fun q2 => ?_)
    · exact g_ls [1, 2, 3, 0] rfl (h1 q1 q2)
    · refine g_iload_n 0 dX7_readSum_57 rfl rfl ?_
      refine g_bipush (v := -22) dX7_readSum_58 (by decide) ?_
      refine g_icmp_ne 67 dX7_readSum_60 (by decide) (fun q3 => ?_) (fun q3 => ?_)
      · refine g_iconst (v := 0) dX7_readSum_67 (by decide) ?_
        exact g_ls [1, 2, 3, 0] rfl (h2 q1 q2 q3)
      · exact g_ls [1, 2, 3, 0] rfl (h3 q1 q2 q3)
  · refine g_goto 110 dX7_readSum_35 (by decide) ?_
    refine g_aload_n 1 dX7_readSum_110 rfl rfl ?_
    refine g_iload_n 2 dX7_readSum_111 rfl rfl ?_
    refine g_ls [1, 2, 3, 0] (ls2 := [(0, .ref 10), (1, .int x1), (2, .int x2), (3, .int xs0)]) rfl ?_
    exact g_callV (As := [.int x1]) (st := []) dX7_readSum_112 clX7_74 sh10 rfl rfl (Nat.le_of_ble_eq_true rfl) (rmSH (by decide) (by decide)) (h4 q1)
theorem bX7_readSum_63 {X : pX} {Q : Option Value → pMem → Prop} {m : pMem} {x1 : Int32} {x2 : Int32} {x3 : Int32} (hW : Wf m)
    (h1 : Go X 8 mX7_readSum Q 68 [(0, .ref 10), (1, .int x1), (2, .int x2), (3, .int x3)] [.int (1 : Int32)] m) :
    Go X 8 mX7_readSum Q 63 [(0, .ref 10), (1, .int x1), (2, .int x2), (3, .int x3)] [] m := by
  refine g_iconst (v := 1) dX7_readSum_63 (by decide) ?_
  refine g_goto 68 dX7_readSum_64 (by decide) ?_
  exact g_ls [0, 1, 2, 3] rfl h1
theorem bX7_readSum_68 {X : pX} {Q : Option Value → pMem → Prop} {m : pMem} {x1 : Int32} {x2 : Int32} {x3 : Int32} (hW : Wf m)
    (h1 : Cl X 7 mX7_readValue [.ref 10] m (fun v m2 => Go X 8 mX7_readSum Q 86 [(0, .ref 10), (1, .int x1), (2, .int x2), (3, .int x3), (4, .int (0 : Int32))] (v.toList ++ []) m2)) :
    Go X 8 mX7_readSum Q 68 [(0, .ref 10), (1, .int x1), (2, .int x2), (3, .int x3)] [.int (0 : Int32)] m := by
  refine g_istore (ls2 := [(4, .int (0 : Int32)), (0, .ref 10), (1, .int x1), (2, .int x2), (3, .int x3)]) dX7_readSum_68 (by decide) rfl ?_
  refine g_iload 0 dX7_readSum_70 rfl ?_
  refine g_if_eq 82 dX7_readSum_72 (by decide) (fun q1 => ?_) (fun q1 => absurd q1 (by decide))
  refine g_aload_n 1 dX7_readSum_82 rfl rfl ?_
  refine g_ls [1, 2, 3, 4, 0] (ls2 := [(0, .ref 10), (1, .int x1), (2, .int x2), (3, .int x3), (4, .int (0 : Int32))]) rfl ?_
  exact g_callV (As := []) (st := []) dX7_readSum_83 clX7_85 sh10 rfl rfl (Nat.le_of_ble_eq_true rfl) (rmSH (by decide) (by decide)) h1
theorem bX7_readSum_115v1 {X : pX} {Q : Option Value → pMem → Prop} {m : pMem} {x1 : Int32} {x2 : Int32} {x3 : Int32} (hW : Wf m)
    (h1 : Q (some (.int (1 : Int32))) m) :
    Go X 8 mX7_readSum Q 115 [(0, .ref 10), (1, .int x1), (2, .int x2), (3, .int x3)] [] m := by
  refine g_iconst (v := 1) dX7_readSum_115 (by decide) ?_
  exact g_bret dX7_readSum_116 rfl (Or.inr rfl) enSH h1
theorem bX7_readSum_68v1 {X : pX} {Q : Option Value → pMem → Prop} {m : pMem} {x1 : Int32} {x2 : Int32} {x3 : Int32} (hW : Wf m)
    (h1 : Cl X 1 mX7_addStep [.ref 10, .int x1] m (fun v m2 => Go X 8 mX7_readSum Q 80 [(0, .ref 10), (1, .int x1), (2, .int x2), (3, .int x3), (4, .int (1 : Int32))] (v.toList ++ []) m2)) :
    Go X 8 mX7_readSum Q 68 [(0, .ref 10), (1, .int x1), (2, .int x2), (3, .int x3)] [.int (1 : Int32)] m := by
  refine g_istore (ls2 := [(4, .int (1 : Int32)), (0, .ref 10), (1, .int x1), (2, .int x2), (3, .int x3)]) dX7_readSum_68 (by decide) rfl ?_
  refine g_iload 0 dX7_readSum_70 rfl ?_
  refine g_if_eq 82 dX7_readSum_72 (by decide) (fun q1 => absurd q1 (by decide)) (fun q1 => ?_)
  refine g_aload_n 1 dX7_readSum_75 rfl rfl ?_
  refine g_iload_n 2 dX7_readSum_76 rfl rfl ?_
  refine g_ls [1, 2, 3, 4, 0] (ls2 := [(0, .ref 10), (1, .int x1), (2, .int x2), (3, .int x3), (4, .int (1 : Int32))]) rfl ?_
  exact g_callV (As := [.int x1]) (st := []) dX7_readSum_77 clX7_74 sh10 rfl rfl (Nat.le_of_ble_eq_true rfl) (rmSH (by decide) (by decide)) h1
theorem bX7_readSum_86 {X : pX} {Q : Option Value → pMem → Prop} {m : pMem} {x1 : Int32} {x2 : Int32} {x3 : Int32} {x4 : Int32} {xs0 : Int32} {r97 : Nat} (hW : Wf m) (e97 : mR m 10 1 = some r97) (f97 : SH[r97]? = some (.inl 6))
    (h1 : ¬ xs0 = 0 → ¬ x4 = 0 → Go X 8 mX7_readSum Q 13 [(0, .ref 10), (1, .int x1), (2, .int (x2 + (1 : Int32)))] [] m)
    (h2 : ¬ xs0 = 0 → x4 = 0 → Cl X 0 mX6_add [.ref r97, .int x3] m (fun v m2 => Go X 8 mX7_readSum Q 104 [(0, .ref 10), (1, .int x1), (2, .int x2), (3, .int x3), (4, .int x4)] (v.toList ++ []) m2))
    (h3 : xs0 = 0 → Q (some (.int (0 : Int32))) m) :
    Go X 8 mX7_readSum Q 86 [(0, .ref 10), (1, .int x1), (2, .int x2), (3, .int x3), (4, .int x4)] [.int xs0] m := by
  refine g_if_ne 91 dX7_readSum_86 (by decide) (fun q1 => ?_) (fun q1 => ?_)
  · refine g_iload 4 dX7_readSum_91 rfl ?_
    refine g_if_ne 104 dX7_readSum_93 (by decide) (fun q2 => ?_) (fun q2 => ?_)
    · refine g_iinc (v := x2 + (1 : Int32)) (ls2 := [(2, .int (x2 + (1 : Int32))), (0, .ref 10), (1, .int x1), (3, .int x3), (4, .int x4)]) 2 dX7_readSum_104 rfl rfl (by decide) rfl ?_
      refine g_goto 13 dX7_readSum_107 (by decide) ?_
      exact g_ls [1, 2, 0] rfl (h1 q1 q2)
    · refine g_aload_n 0 dX7_readSum_96 rfl rfl ?_
      refine g_getR (r := r97) dX7_readSum_97 fl7_15 rfl sh10 e97 ?_
      refine g_iload_n 3 dX7_readSum_100 rfl rfl ?_
      exact g_callV (As := [.int x3]) (st := []) dX7_readSum_101 clX7_60 f97 rfl rfl (Nat.le_of_ble_eq_true rfl) (rmSH (by decide) (by decide)) (h2 q1 q2)
  · refine g_iconst (v := 0) dX7_readSum_89 (by decide) ?_
    exact g_bret dX7_readSum_90 rfl (Or.inl rfl) enSH (h3 q1)
theorem bX7_readSum_80 {X : pX} {Q : Option Value → pMem → Prop} {m : pMem} {x1 : Int32} {x2 : Int32} {x3 : Int32} {x4 : Int32} (hW : Wf m)
    (h1 : Cl X 7 mX7_readValue [.ref 10] m (fun v m2 => Go X 8 mX7_readSum Q 86 [(0, .ref 10), (1, .int x3), (2, .int x2), (3, .int x3), (4, .int x4)] (v.toList ++ []) m2)) :
    Go X 8 mX7_readSum Q 80 [(0, .ref 10), (1, .int x1), (2, .int x2), (3, .int x3), (4, .int x4)] [] m := by
  refine g_iload_n 3 dX7_readSum_80 rfl rfl ?_
  refine g_istore_n (ls2 := [(1, .int x3), (0, .ref 10), (2, .int x2), (3, .int x3), (4, .int x4)]) dX7_readSum_81 rfl (by decide) rfl ?_
  refine g_aload_n 1 dX7_readSum_82 rfl rfl ?_
  refine g_ls [1, 0, 2, 3, 4] (ls2 := [(0, .ref 10), (1, .int x3), (2, .int x2), (3, .int x3), (4, .int x4)]) rfl ?_
  exact g_callV (As := []) (st := []) dX7_readSum_83 clX7_85 sh10 rfl rfl (Nat.le_of_ble_eq_true rfl) (rmSH (by decide) (by decide)) h1
theorem bX7_readSum_104 {X : pX} {Q : Option Value → pMem → Prop} {m : pMem} {x1 : Int32} {x2 : Int32} {x3 : Int32} {x4 : Int32} (hW : Wf m)
    (h1 : Go X 8 mX7_readSum Q 13 [(0, .ref 10), (1, .int x1), (2, .int (x2 + (1 : Int32)))] [] m) :
    Go X 8 mX7_readSum Q 104 [(0, .ref 10), (1, .int x1), (2, .int x2), (3, .int x3), (4, .int x4)] [] m := by
  refine g_iinc (v := x2 + (1 : Int32)) (ls2 := [(2, .int (x2 + (1 : Int32))), (0, .ref 10), (1, .int x1), (3, .int x3), (4, .int x4)]) 2 dX7_readSum_104 rfl rfl (by decide) rfl ?_
  refine g_goto 13 dX7_readSum_107 (by decide) ?_
  exact g_ls [1, 2, 0] rfl h1
theorem bX7_readSign_0 {X : pX} {Q : Option Value → pMem → Prop} {m : pMem} (hW : Wf m)
    (h1 : Cl X 1 mX9_next [.ref 1] m (fun v m2 => Go X 3 mX7_readSign Q 7 [(0, .ref 10)] (v.toList ++ []) m2)) :
    Go X 3 mX7_readSign Q 0 [(0, .ref 10)] [] m := by
  refine g_aload_n 0 dX7_readSign_0 rfl rfl ?_
  refine g_getR dX7_readSign_1 fl7_9 rfl sh10 (w7_0 hW sh10) ?_
  exact g_callV (As := []) (st := []) dX7_readSign_4 clX7_33 sh1 rfl rfl (Nat.le_of_ble_eq_true rfl) (rmSH (by decide) (by decide)) h1
theorem bX7_readSign_7 {X : pX} {Q : Option Value → pMem → Prop} {m : pMem} {xs0 : Int32} (hW : Wf m)
    (h1 : Cl X 2 mX9_takeSign [.ref 1, .int (60 : Int32)] m (fun v m2 => Go X 3 mX7_readSign Q 27 [(0, .ref 10), (1, .int (mI m 1 2)), (2, .int (0 : Int32))] (v.toList ++ []) m2)) :
    Go X 3 mX7_readSign Q 7 [(0, .ref 10)] [.int xs0] m := by
  refine g_pop dX7_readSign_7 rfl ?_
  refine g_aload_n 0 dX7_readSign_8 rfl rfl ?_
  refine g_getR dX7_readSign_9 fl7_9 rfl sh10 (w7_0 hW sh10) ?_
  refine g_getI dX7_readSign_12 fl7_37 sh1 ?_
  refine g_istore_n (ls2 := [(1, .int (mI m 1 2)), (0, .ref 10)]) dX7_readSign_15 rfl (by decide) rfl ?_
  refine g_iconst (v := 0) dX7_readSign_16 (by decide) ?_
  refine g_istore_n (ls2 := [(2, .int (0 : Int32)), (1, .int (mI m 1 2)), (0, .ref 10)]) dX7_readSign_17 rfl (by decide) rfl ?_
  refine g_aload_n 2 dX7_readSign_18 rfl rfl ?_
  refine g_getR dX7_readSign_19 fl7_9 rfl sh10 (w7_0 hW sh10) ?_
  refine g_bipush (v := 60) dX7_readSign_22 (by decide) ?_
  refine g_ls [2, 1, 0] (ls2 := [(0, .ref 10), (1, .int (mI m 1 2)), (2, .int (0 : Int32))]) rfl ?_
  exact g_callV (As := [.int (60 : Int32)]) (st := []) dX7_readSign_24 clX7_64 sh1 rfl rfl (Nat.le_of_ble_eq_true rfl) (rmSH (by decide) (by decide)) h1
theorem bX7_readSign_27 {X : pX} {Q : Option Value → pMem → Prop} {m : pMem} {x1 : Int32} {x2 : Int32} {xs0 : Int32} (hW : Wf m)
    (h1 : xs0 = 0 → Cl X 2 mX9_takeSign [.ref 1, .int (62 : Int32)] m (fun v m2 => Go X 3 mX7_readSign Q 62 [(0, .ref 10), (1, .int x1), (2, .int x2)] (v.toList ++ []) m2))
    (h2 : ¬ (xs0 = 0) → Cl X 1 mX9_takeSignAtOnce [.ref 1, .int (61 : Int32)] m (fun v m2 => Go X 3 mX7_readSign Q 39 [(0, .ref 10), (1, .int x1), (2, .int x2)] (v.toList ++ []) m2)) :
    Go X 3 mX7_readSign Q 27 [(0, .ref 10), (1, .int x1), (2, .int x2)] [.int xs0] m := by
  refine g_if_eq 53 dX7_readSign_27 (by decide) (fun q1 => ?_) (fun q1 => ?_)
  · refine g_aload_n 0 dX7_readSign_53 rfl rfl ?_
    refine g_getR dX7_readSign_54 fl7_9 rfl sh10 (w7_0 hW sh10) ?_
    refine g_bipush (v := 62) dX7_readSign_57 (by decide) ?_
    exact g_callV (As := [.int (62 : Int32)]) (st := []) dX7_readSign_59 clX7_64 sh1 rfl rfl (Nat.le_of_ble_eq_true rfl) (rmSH (by decide) (by decide)) (h1 q1)
  · refine g_aload_n 0 dX7_readSign_30 rfl rfl ?_
    refine g_getR dX7_readSign_31 fl7_9 rfl sh10 (w7_0 hW sh10) ?_
    refine g_bipush (v := 61) dX7_readSign_34 (by decide) ?_
    exact g_callV (As := [.int (61 : Int32)]) (st := []) dX7_readSign_36 clX7_82 sh1 rfl rfl (Nat.le_of_ble_eq_true rfl) (rmSH (by decide) (by decide)) (h2 q1)
theorem bX7_readSign_62 {X : pX} {Q : Option Value → pMem → Prop} {m : pMem} {x1 : Int32} {x2 : Int32} {xs0 : Int32} (hW : Wf m)
    (h1 : xs0 = 0 → Cl X 2 mX9_takeSign [.ref 1, .int (61 : Int32)] m (fun v m2 => Go X 3 mX7_readSign Q 97 [(0, .ref 10), (1, .int x1), (2, .int x2)] (v.toList ++ []) m2))
    (h2 : ¬ (xs0 = 0) → Cl X 1 mX9_takeSignAtOnce [.ref 1, .int (61 : Int32)] m (fun v m2 => Go X 3 mX7_readSign Q 74 [(0, .ref 10), (1, .int x1), (2, .int x2)] (v.toList ++ []) m2)) :
    Go X 3 mX7_readSign Q 62 [(0, .ref 10), (1, .int x1), (2, .int x2)] [.int xs0] m := by
  refine g_if_eq 88 dX7_readSign_62 (by decide) (fun q1 => ?_) (fun q1 => ?_)
  · refine g_aload_n 0 dX7_readSign_88 rfl rfl ?_
    refine g_getR dX7_readSign_89 fl7_9 rfl sh10 (w7_0 hW sh10) ?_
    refine g_bipush (v := 61) dX7_readSign_92 (by decide) ?_
    exact g_callV (As := [.int (61 : Int32)]) (st := []) dX7_readSign_94 clX7_64 sh1 rfl rfl (Nat.le_of_ble_eq_true rfl) (rmSH (by decide) (by decide)) (h1 q1)
  · refine g_aload_n 0 dX7_readSign_65 rfl rfl ?_
    refine g_getR dX7_readSign_66 fl7_9 rfl sh10 (w7_0 hW sh10) ?_
    refine g_bipush (v := 61) dX7_readSign_69 (by decide) ?_
    exact g_callV (As := [.int (61 : Int32)]) (st := []) dX7_readSign_71 clX7_82 sh1 rfl rfl (Nat.le_of_ble_eq_true rfl) (rmSH (by decide) (by decide)) (h2 q1)
theorem bX7_readSign_39 {X : pX} {Q : Option Value → pMem → Prop} {m : pMem} {x1 : Int32} {x2 : Int32} {xs0 : Int32} (hW : Wf m)
    (h1 : xs0 = 0 → Go X 3 mX7_readSign Q 49 [(0, .ref 10), (1, .int x1)] [.int (-26 : Int32)] m)
    (h2 : ¬ (xs0 = 0) → Go X 3 mX7_readSign Q 49 [(0, .ref 10), (1, .int x1)] [.int (-27 : Int32)] m) :
    Go X 3 mX7_readSign Q 39 [(0, .ref 10), (1, .int x1), (2, .int x2)] [.int xs0] m := by
  refine g_if_eq 47 dX7_readSign_39 (by decide) (fun q1 => ?_) (fun q1 => ?_)
  · refine g_bipush (v := -26) dX7_readSign_47 (by decide) ?_
    exact g_ls [0, 1] rfl (h1 q1)
  · refine g_bipush (v := -27) dX7_readSign_42 (by decide) ?_
    refine g_goto 49 dX7_readSign_44 (by decide) ?_
    exact g_ls [0, 1] rfl (h2 q1)
theorem bX7_readSign_97 {X : pX} {Q : Option Value → pMem → Prop} {m : pMem} {x1 : Int32} {x2 : Int32} {xs0 : Int32} (hW : Wf m)
    (h1 : xs0 = 0 → Go X 3 mX7_readSign Q 103 [(0, .ref 10), (1, .int x1), (2, .int x2)] [] m)
    (h2 : ¬ (xs0 = 0) → Go X 3 mX7_readSign Q 103 [(0, .ref 10), (1, .int x1), (2, .int (-28 : Int32))] [] m) :
    Go X 3 mX7_readSign Q 97 [(0, .ref 10), (1, .int x1), (2, .int x2)] [.int xs0] m := by
  refine g_if_eq 103 dX7_readSign_97 (by decide) (fun q1 => ?_) (fun q1 => ?_)
  · exact g_ls [0, 1, 2] rfl (h1 q1)
  · refine g_bipush (v := -28) dX7_readSign_100 (by decide) ?_
    refine g_istore_n (ls2 := [(2, .int (-28 : Int32)), (0, .ref 10), (1, .int x1)]) dX7_readSign_102 rfl (by decide) rfl ?_
    exact g_ls [1, 2, 0] rfl (h2 q1)
theorem bX7_readSign_74 {X : pX} {Q : Option Value → pMem → Prop} {m : pMem} {x1 : Int32} {x2 : Int32} {xs0 : Int32} (hW : Wf m)
    (h1 : xs0 = 0 → Go X 3 mX7_readSign Q 103 [(0, .ref 10), (1, .int x1), (2, .int (-30 : Int32))] [] m)
    (h2 : ¬ (xs0 = 0) → Go X 3 mX7_readSign Q 103 [(0, .ref 10), (1, .int x1), (2, .int (-29 : Int32))] [] m) :
    Go X 3 mX7_readSign Q 74 [(0, .ref 10), (1, .int x1), (2, .int x2)] [.int xs0] m := by
  refine g_if_eq 82 dX7_readSign_74 (by decide) (fun q1 => ?_) (fun q1 => ?_)
  · refine g_bipush (v := -30) dX7_readSign_82 (by decide) ?_
    refine g_istore_n (ls2 := [(2, .int (-30 : Int32)), (0, .ref 10), (1, .int x1)]) dX7_readSign_84 rfl (by decide) rfl ?_
    refine g_goto 103 dX7_readSign_85 (by decide) ?_
    exact g_ls [1, 2, 0] rfl (h1 q1)
  · refine g_bipush (v := -29) dX7_readSign_77 (by decide) ?_
    refine g_goto 84 dX7_readSign_79 (by decide) ?_
    refine g_istore_n (ls2 := [(2, .int (-29 : Int32)), (0, .ref 10), (1, .int x1)]) dX7_readSign_84 rfl (by decide) rfl ?_
    refine g_goto 103 dX7_readSign_85 (by decide) ?_
    exact g_ls [1, 2, 0] rfl (h2 q1)
theorem bX7_readSign_49 {X : pX} {Q : Option Value → pMem → Prop} {m : pMem} {x1 : Int32} (hW : Wf m)
    (h1 : Go X 3 mX7_readSign Q 103 [(0, .ref 10), (1, .int x1), (2, .int (-26 : Int32))] [] m) :
    Go X 3 mX7_readSign Q 49 [(0, .ref 10), (1, .int x1)] [.int (-26 : Int32)] m := by
  refine g_istore_n (ls2 := [(2, .int (-26 : Int32)), (0, .ref 10), (1, .int x1)]) dX7_readSign_49 rfl (by decide) rfl ?_
  refine g_goto 103 dX7_readSign_50 (by decide) ?_
  exact g_ls [1, 2, 0] rfl h1
theorem bX7_readSign_49v1 {X : pX} {Q : Option Value → pMem → Prop} {m : pMem} {x1 : Int32} (hW : Wf m)
    (h1 : Go X 3 mX7_readSign Q 103 [(0, .ref 10), (1, .int x1), (2, .int (-27 : Int32))] [] m) :
    Go X 3 mX7_readSign Q 49 [(0, .ref 10), (1, .int x1)] [.int (-27 : Int32)] m := by
  refine g_istore_n (ls2 := [(2, .int (-27 : Int32)), (0, .ref 10), (1, .int x1)]) dX7_readSign_49 rfl (by decide) rfl ?_
  refine g_goto 103 dX7_readSign_50 (by decide) ?_
  exact g_ls [1, 2, 0] rfl h1
theorem bX7_readSign_103 {X : pX} {Q : Option Value → pMem → Prop} {m : pMem} {x1 : Int32} {x2 : Int32} (hW : Wf m)
    (h1 : ¬ x2 = 0 → (mI m 10 2) < (60 : Int32) → Q (some (.int x2)) (uI m 10 2 ((mI m 10 2) + (1 : Int32))))
    (h2 : ¬ x2 = 0 → ¬ ((mI m 10 2) < (60 : Int32)) → Cl X 0 mX9_fail [.ref 1, .int x1, .int (3 : Int32)] m (fun v m2 => Go X 3 mX7_readSign Q 137 [(0, .ref 10), (1, .int x1), (2, .int x2)] (v.toList ++ []) m2))
    (h3 : x2 = 0 → Cl X 0 mX9_fail [.ref 1, .int x1, .int (0 : Int32)] m (fun v m2 => Go X 3 mX7_readSign Q 116 [(0, .ref 10), (1, .int x1), (2, .int x2)] (v.toList ++ []) m2)) :
    Go X 3 mX7_readSign Q 103 [(0, .ref 10), (1, .int x1), (2, .int x2)] [] m := by
  refine g_iload_n 2 dX7_readSign_103 rfl rfl ?_
  refine g_if_ne 119 dX7_readSign_104 (by decide) (fun q1 => ?_) (fun q1 => ?_)
  · refine g_aload_n 0 dX7_readSign_119 rfl rfl ?_
    refine g_getI dX7_readSign_120 fl7_24 sh10 ?_
    refine g_bipush (v := 60) dX7_readSign_123 (by decide) ?_
    refine g_icmp_lt 140 dX7_readSign_125 (by decide) (fun q2 => ?_) (fun q2 => ?_)
    · refine g_aload_n 0 dX7_readSign_140 rfl rfl ?_
      refine g_dup dX7_readSign_141 rfl ?_
      refine g_getI dX7_readSign_142 fl7_24 sh10 ?_
      refine g_iconst (v := 1) dX7_readSign_145 (by decide) ?_
      refine g_iadd dX7_readSign_146 ?_
      refine g_putI dX7_readSign_147 fl7_24 (fun h => by cases h) sh10 ?_
      refine g_iload_n 2 dX7_readSign_150 rfl rfl ?_
      exact g_iret dX7_readSign_151 rfl enSH (h1 q1 q2)
    · refine g_aload_n 0 dX7_readSign_128 rfl rfl ?_
      refine g_getR dX7_readSign_129 fl7_9 rfl sh10 (w7_0 hW sh10) ?_
      refine g_iload_n 1 dX7_readSign_132 rfl rfl ?_
      refine g_iconst (v := 3) dX7_readSign_133 (by decide) ?_
      exact g_callV (As := [.int x1, .int (3 : Int32)]) (st := []) dX7_readSign_134 clX7_46 sh1 rfl rfl (Nat.le_of_ble_eq_true rfl) (rmSH (by decide) (by decide)) (h2 q1 q2)
  · refine g_aload_n 0 dX7_readSign_107 rfl rfl ?_
    refine g_getR dX7_readSign_108 fl7_9 rfl sh10 (w7_0 hW sh10) ?_
    refine g_iload_n 1 dX7_readSign_111 rfl rfl ?_
    refine g_iconst (v := 0) dX7_readSign_112 (by decide) ?_
    exact g_callV (As := [.int x1, .int (0 : Int32)]) (st := []) dX7_readSign_113 clX7_46 sh1 rfl rfl (Nat.le_of_ble_eq_true rfl) (rmSH (by decide) (by decide)) (h3 q1)
theorem bX7_readSign_137 {X : pX} {Q : Option Value → pMem → Prop} {m : pMem} {x1 : Int32} {x2 : Int32} {xs0 : Int32} (hW : Wf m)
    (h1 : Q (some (.int (0 : Int32))) m) :
    Go X 3 mX7_readSign Q 137 [(0, .ref 10), (1, .int x1), (2, .int x2)] [.int xs0] m := by
  refine g_pop dX7_readSign_137 rfl ?_
  refine g_iconst (v := 0) dX7_readSign_138 (by decide) ?_
  exact g_iret dX7_readSign_139 rfl enSH h1
theorem bX7_readSign_116 {X : pX} {Q : Option Value → pMem → Prop} {m : pMem} {x1 : Int32} {x2 : Int32} {xs0 : Int32} (hW : Wf m)
    (h1 : Q (some (.int (0 : Int32))) m) :
    Go X 3 mX7_readSign Q 116 [(0, .ref 10), (1, .int x1), (2, .int x2)] [.int xs0] m := by
  refine g_pop dX7_readSign_116 rfl ?_
  refine g_iconst (v := 0) dX7_readSign_117 (by decide) ?_
  exact g_iret dX7_readSign_118 rfl enSH h1
theorem bX7_readFact_0 {X : pX} {Q : Option Value → pMem → Prop} {m : pMem} {d : Nat} {x1 : Int32} (hW : Wf m) (hd : 12 ≤ d)
    (h1 : Cl X 1 mX9_next [.ref 1] m (fun v m2 => Go X d mX7_readFact Q 7 [(0, .ref 10), (1, .int x1)] (v.toList ++ []) m2)) :
    Go X d mX7_readFact Q 0 [(0, .ref 10), (1, .int x1)] [] m := by
  refine g_aload_n 0 dX7_readFact_0 rfl rfl ?_
  refine g_getR dX7_readFact_1 fl7_9 rfl sh10 (w7_0 hW sh10) ?_
  exact g_callV (As := []) (st := []) dX7_readFact_4 clX7_33 sh1 rfl rfl (Nat.le_of_ble_eq_true rfl) (rmSH (by omega) (by decide)) h1
theorem bX7_readFact_7 {X : pX} {Q : Option Value → pMem → Prop} {m : pMem} {d : Nat} {x1 : Int32} {xs0 : Int32} (hW : Wf m) (hd : 12 ≤ d)
    (h1 : Cl X 6 mX9_takeWord [.ref 1, .retAddr 7] m (fun v m2 => Go X d mX7_readFact Q 25 [(0, .ref 10), (1, .int x1), (2, .int (mI m 1 2))] (v.toList ++ []) m2)) :
    Go X d mX7_readFact Q 7 [(0, .ref 10), (1, .int x1)] [.int xs0] m := by
  refine g_pop dX7_readFact_7 rfl ?_
  refine g_aload_n 0 dX7_readFact_8 rfl rfl ?_
  refine g_getR dX7_readFact_9 fl7_9 rfl sh10 (w7_0 hW sh10) ?_
  refine g_getI dX7_readFact_12 fl7_37 sh1 ?_
  refine g_istore_n (ls2 := [(2, .int (mI m 1 2)), (0, .ref 10), (1, .int x1)]) dX7_readFact_15 rfl (by decide) rfl ?_
  refine g_aload_n 1 dX7_readFact_16 rfl rfl ?_
  refine g_getR dX7_readFact_17 fl7_9 rfl sh10 (w7_0 hW sh10) ?_
  refine g_ldcS 6 (by decide) rfl rfl dX7_readFact_20 ?_
  refine g_ls [1, 2, 0] (ls2 := [(0, .ref 10), (1, .int x1), (2, .int (mI m 1 2))]) rfl ?_
  exact g_callV (As := [.retAddr 7]) (st := []) dX7_readFact_22 clX7_42 sh1 rfl rfl (Nat.le_of_ble_eq_true rfl) (rmSH (by omega) (by decide)) h1
theorem bX7_readFact_25 {X : pX} {Q : Option Value → pMem → Prop} {m : pMem} {d : Nat} {x1 : Int32} {x2 : Int32} {xs0 : Int32} (hW : Wf m) (hd : 12 ≤ d)
    (h1 : xs0 = 0 → Cl X 2 mX9_takeSign [.ref 1, .int (91 : Int32)] m (fun v m2 => Go X d mX7_readFact Q 76 [(0, .ref 10), (1, .int x1), (2, .int x2)] (v.toList ++ []) m2))
    (h2 : ¬ (xs0 = 0) → x1 < (10 : Int32) → Cl X (d - 1) mX7_readFact [.ref 10, .int (x1 + (1 : Int32))] m (fun v m2 => Go X d mX7_readFact Q 51 [(0, .ref 10), (1, .int x1), (2, .int x2)] (v.toList ++ []) m2))
    (h3 : ¬ (xs0 = 0) → ¬ (x1 < (10 : Int32)) → Cl X 0 mX9_fail [.ref 1, .int x2, .int (2 : Int32)] m (fun v m2 => Go X d mX7_readFact Q 43 [(0, .ref 10), (1, .int x1), (2, .int x2)] (v.toList ++ []) m2)) :
    Go X d mX7_readFact Q 25 [(0, .ref 10), (1, .int x1), (2, .int x2)] [.int xs0] m := by
  refine g_if_eq 67 dX7_readFact_25 (by decide) (fun q1 => ?_) (fun q1 => ?_)
  · refine g_aload_n 0 dX7_readFact_67 rfl rfl ?_
    refine g_getR dX7_readFact_68 fl7_9 rfl sh10 (w7_0 hW sh10) ?_
    refine g_bipush (v := 91) dX7_readFact_71 (by decide) ?_
    exact g_callV (As := [.int (91 : Int32)]) (st := []) dX7_readFact_73 clX7_64 sh1 rfl rfl (Nat.le_of_ble_eq_true rfl) (rmSH (by omega) (by decide)) (h1 q1)
  · refine g_iload_n 1 dX7_readFact_28 rfl rfl ?_
    refine g_bipush (v := 10) dX7_readFact_29 (by decide) ?_
    refine g_icmp_lt 44 dX7_readFact_31 (by decide) (fun q2 => ?_) (fun q2 => ?_)
    · refine g_aload_n 0 dX7_readFact_44 rfl rfl ?_
      refine g_iload_n 1 dX7_readFact_45 rfl rfl ?_
      refine g_iconst (v := 1) dX7_readFact_46 (by decide) ?_
      refine g_iadd dX7_readFact_47 ?_
      exact g_callV (As := [.int (x1 + (1 : Int32))]) (st := []) dX7_readFact_48 clX7_67 sh10 rfl rfl (Nat.le_of_ble_eq_true rfl) (rmSH (by omega) (by decide)) (h2 q1 q2)
    · refine g_aload_n 0 dX7_readFact_34 rfl rfl ?_
      refine g_getR dX7_readFact_35 fl7_9 rfl sh10 (w7_0 hW sh10) ?_
      refine g_iload_n 2 dX7_readFact_38 rfl rfl ?_
      refine g_iconst (v := 2) dX7_readFact_39 (by decide) ?_
      exact g_callV (As := [.int x2, .int (2 : Int32)]) (st := []) dX7_readFact_40 clX7_46 sh1 rfl rfl (Nat.le_of_ble_eq_true rfl) (rmSH (by omega) (by decide)) (h3 q1 q2)
theorem bX7_readFact_76 {X : pX} {Q : Option Value → pMem → Prop} {m : pMem} {d : Nat} {x1 : Int32} {x2 : Int32} {xs0 : Int32} (hW : Wf m) (hd : 12 ≤ d)
    (h1 : xs0 = 0 → Cl X 8 mX7_readSum [.ref 10] m (fun v m2 => Go X d mX7_readFact Q 145 [(0, .ref 10), (1, .int x1), (2, .int x2)] (v.toList ++ []) m2))
    (h2 : ¬ (xs0 = 0) → x1 < (10 : Int32) → Cl X (d - 1) mX7_readTest [.ref 10, .int (x1 + (1 : Int32))] m (fun v m2 => Go X d mX7_readFact Q 102 [(0, .ref 10), (1, .int x1), (2, .int x2)] (v.toList ++ []) m2))
    (h3 : ¬ (xs0 = 0) → ¬ (x1 < (10 : Int32)) → Cl X 0 mX9_fail [.ref 1, .int x2, .int (2 : Int32)] m (fun v m2 => Go X d mX7_readFact Q 94 [(0, .ref 10), (1, .int x1), (2, .int x2)] (v.toList ++ []) m2)) :
    Go X d mX7_readFact Q 76 [(0, .ref 10), (1, .int x1), (2, .int x2)] [.int xs0] m := by
  refine g_if_eq 141 dX7_readFact_76 (by decide) (fun q1 => ?_) (fun q1 => ?_)
  · refine g_aload_n 0 dX7_readFact_141 rfl rfl ?_
    exact g_callV (As := []) (st := []) dX7_readFact_142 clX7_50 sh10 rfl rfl (Nat.le_of_ble_eq_true rfl) (rmSH (by omega) (by decide)) (h1 q1)
  · refine g_iload_n 1 dX7_readFact_79 rfl rfl ?_
    refine g_bipush (v := 10) dX7_readFact_80 (by decide) ?_
    refine g_icmp_lt 95 dX7_readFact_82 (by decide) (fun q2 => ?_) (fun q2 => ?_)
    · refine g_aload_n 0 dX7_readFact_95 rfl rfl ?_
      refine g_iload_n 1 dX7_readFact_96 rfl rfl ?_
      refine g_iconst (v := 1) dX7_readFact_97 (by decide) ?_
      refine g_iadd dX7_readFact_98 ?_
      exact g_callV (As := [.int (x1 + (1 : Int32))]) (st := []) dX7_readFact_99 clX7_56 sh10 rfl rfl (Nat.le_of_ble_eq_true rfl) (rmSH (by omega) (by decide)) (h2 q1 q2)
    · refine g_aload_n 0 dX7_readFact_85 rfl rfl ?_
      refine g_getR dX7_readFact_86 fl7_9 rfl sh10 (w7_0 hW sh10) ?_
      refine g_iload_n 2 dX7_readFact_89 rfl rfl ?_
      refine g_iconst (v := 2) dX7_readFact_90 (by decide) ?_
      exact g_callV (As := [.int x2, .int (2 : Int32)]) (st := []) dX7_readFact_91 clX7_46 sh1 rfl rfl (Nat.le_of_ble_eq_true rfl) (rmSH (by omega) (by decide)) (h3 q1 q2)
theorem bX7_readFact_51 {X : pX} {Q : Option Value → pMem → Prop} {m : pMem} {d : Nat} {x1 : Int32} {x2 : Int32} {xs0 : Int32} {r57 : Nat} (hW : Wf m) (hd : 12 ≤ d) (e57 : mR m 10 1 = some r57) (f57 : SH[r57]? = some (.inl 6))
    (h1 : ¬ xs0 = 0 → Cl X 0 mX6_add [.ref r57, .int (-33 : Int32)] m (fun v m2 => Go X d mX7_readFact Q 65 [(0, .ref 10), (1, .int x1), (2, .int x2)] (v.toList ++ []) m2))
    (h2 : xs0 = 0 → Q (some (.int (0 : Int32))) m) :
    Go X d mX7_readFact Q 51 [(0, .ref 10), (1, .int x1), (2, .int x2)] [.int xs0] m := by
  refine g_if_ne 56 dX7_readFact_51 (by decide) (fun q1 => ?_) (fun q1 => ?_)
  · refine g_aload_n 0 dX7_readFact_56 rfl rfl ?_
    refine g_getR (r := r57) dX7_readFact_57 fl7_15 rfl sh10 e57 ?_
    refine g_bipush (v := -33) dX7_readFact_60 (by decide) ?_
    exact g_callV (As := [.int (-33 : Int32)]) (st := []) dX7_readFact_62 clX7_60 f57 rfl rfl (Nat.le_of_ble_eq_true rfl) (rmSH (by omega) (by decide)) (h1 q1)
  · refine g_iconst (v := 0) dX7_readFact_54 (by decide) ?_
    exact g_bret dX7_readFact_55 rfl (Or.inl rfl) enSH (h2 q1)
theorem bX7_readFact_43 {X : pX} {Q : Option Value → pMem → Prop} {m : pMem} {d : Nat} {x1 : Int32} {x2 : Int32} {xs0 : Int32} (hW : Wf m) (hd : 12 ≤ d)
    (h1 : xs0 = 0 ∨ xs0 = 1)
    (h2 : Q (some (.int xs0)) m) :
    Go X d mX7_readFact Q 43 [(0, .ref 10), (1, .int x1), (2, .int x2)] [.int xs0] m := by
  exact g_bret dX7_readFact_43 rfl h1 enSH h2
theorem bX7_readFact_145 {X : pX} {Q : Option Value → pMem → Prop} {m : pMem} {d : Nat} {x1 : Int32} {x2 : Int32} {xs0 : Int32} (hW : Wf m) (hd : 12 ≤ d)
    (h1 : ¬ xs0 = 0 → Cl X 3 mX7_readSign [.ref 10] m (fun v m2 => Go X d mX7_readFact Q 154 [(0, .ref 10), (1, .int x1), (2, .int x2)] (v.toList ++ []) m2))
    (h2 : xs0 = 0 → Q (some (.int (0 : Int32))) m) :
    Go X d mX7_readFact Q 145 [(0, .ref 10), (1, .int x1), (2, .int x2)] [.int xs0] m := by
  refine g_if_ne 150 dX7_readFact_145 (by decide) (fun q1 => ?_) (fun q1 => ?_)
  · refine g_aload_n 0 dX7_readFact_150 rfl rfl ?_
    exact g_callV (As := []) (st := []) dX7_readFact_151 clX7_79 sh10 rfl rfl (Nat.le_of_ble_eq_true rfl) (rmSH (by omega) (by decide)) (h1 q1)
  · refine g_iconst (v := 0) dX7_readFact_148 (by decide) ?_
    exact g_bret dX7_readFact_149 rfl (Or.inl rfl) enSH (h2 q1)
theorem bX7_readFact_102 {X : pX} {Q : Option Value → pMem → Prop} {m : pMem} {d : Nat} {x1 : Int32} {x2 : Int32} {xs0 : Int32} (hW : Wf m) (hd : 12 ≤ d)
    (h1 : xs0 = 0 → Q (some (.int (0 : Int32))) m)
    (h2 : ¬ (xs0 = 0) → Cl X 2 mX9_takeSign [.ref 1, .int (93 : Int32)] m (fun v m2 => Go X d mX7_readFact Q 114 [(0, .ref 10), (1, .int x1), (2, .int x2)] (v.toList ++ []) m2)) :
    Go X d mX7_readFact Q 102 [(0, .ref 10), (1, .int x1), (2, .int x2)] [.int xs0] m := by
  refine g_if_eq 139 dX7_readFact_102 (by decide) (fun q1 => ?_) (fun q1 => ?_)
  · refine g_iconst (v := 0) dX7_readFact_139 (by decide) ?_
    exact g_bret dX7_readFact_140 rfl (Or.inl rfl) enSH (h1 q1)
  · refine g_aload_n 0 dX7_readFact_105 rfl rfl ?_
    refine g_getR dX7_readFact_106 fl7_9 rfl sh10 (w7_0 hW sh10) ?_
    refine g_bipush (v := 93) dX7_readFact_109 (by decide) ?_
    exact g_callV (As := [.int (93 : Int32)]) (st := []) dX7_readFact_111 clX7_64 sh1 rfl rfl (Nat.le_of_ble_eq_true rfl) (rmSH (by omega) (by decide)) (h2 q1)
theorem bX7_readFact_94 {X : pX} {Q : Option Value → pMem → Prop} {m : pMem} {d : Nat} {x1 : Int32} {x2 : Int32} {xs0 : Int32} (hW : Wf m) (hd : 12 ≤ d)
    (h1 : xs0 = 0 ∨ xs0 = 1)
    (h2 : Q (some (.int xs0)) m) :
    Go X d mX7_readFact Q 94 [(0, .ref 10), (1, .int x1), (2, .int x2)] [.int xs0] m := by
  exact g_bret dX7_readFact_94 rfl h1 enSH h2
theorem bX7_readFact_65 {X : pX} {Q : Option Value → pMem → Prop} {m : pMem} {d : Nat} {x1 : Int32} {x2 : Int32} (hW : Wf m) (hd : 12 ≤ d)
    (h1 : Q (some (.int (1 : Int32))) m) :
    Go X d mX7_readFact Q 65 [(0, .ref 10), (1, .int x1), (2, .int x2)] [] m := by
  refine g_iconst (v := 1) dX7_readFact_65 (by decide) ?_
  exact g_bret dX7_readFact_66 rfl (Or.inr rfl) enSH h1
theorem bX7_readFact_154 {X : pX} {Q : Option Value → pMem → Prop} {m : pMem} {d : Nat} {x1 : Int32} {x2 : Int32} {xs0 : Int32} (hW : Wf m) (hd : 12 ≤ d)
    (h1 : xs0 = 0 → Q (some (.int (0 : Int32))) m)
    (h2 : ¬ (xs0 = 0) → Cl X 8 mX7_readSum [.ref 10] m (fun v m2 => Go X d mX7_readFact Q 163 [(0, .ref 10), (1, .int x1), (2, .int x2), (3, .int xs0)] (v.toList ++ []) m2)) :
    Go X d mX7_readFact Q 154 [(0, .ref 10), (1, .int x1), (2, .int x2)] [.int xs0] m := by
  refine g_istore_n (ls2 := [(3, .int xs0), (0, .ref 10), (1, .int x1), (2, .int x2)]) dX7_readFact_154 rfl (by decide) rfl ?_
  refine g_iload_n 0 dX7_readFact_155 rfl rfl ?_
  refine g_if_eq 166 dX7_readFact_156 (by decide) (fun q1 => ?_) (fun q1 => ?_)
  · refine g_iconst (v := 0) dX7_readFact_166 (by decide) ?_
    exact g_bret dX7_readFact_167 rfl (Or.inl rfl) enSH (h1 q1)
  · refine g_aload_n 1 dX7_readFact_159 rfl rfl ?_
    refine g_ls [1, 2, 3, 0] (ls2 := [(0, .ref 10), (1, .int x1), (2, .int x2), (3, .int xs0)]) rfl ?_
    exact g_callV (As := []) (st := []) dX7_readFact_160 clX7_50 sh10 rfl rfl (Nat.le_of_ble_eq_true rfl) (rmSH (by omega) (by decide)) (h2 q1)
theorem bX7_readFact_114 {X : pX} {Q : Option Value → pMem → Prop} {m : pMem} {d : Nat} {x1 : Int32} {x2 : Int32} {xs0 : Int32} (hW : Wf m) (hd : 12 ≤ d)
    (h1 : ¬ xs0 = 0 → Q (some (.int (1 : Int32))) m)
    (h2 : xs0 = 0 → Cl X 0 mX9_fail [.ref 1, .int (mI m 1 2), .int (0 : Int32)] m (fun v m2 => Go X d mX7_readFact Q 132 [(0, .ref 10), (1, .int x1), (2, .int x2)] (v.toList ++ []) m2)) :
    Go X d mX7_readFact Q 114 [(0, .ref 10), (1, .int x1), (2, .int x2)] [.int xs0] m := by
  refine g_if_ne 135 dX7_readFact_114 (by decide) (fun q1 => ?_) (fun q1 => ?_)
  · refine g_iconst (v := 1) dX7_readFact_135 (by decide) ?_
    refine g_goto 140 dX7_readFact_136 (by decide) ?_
    exact g_bret dX7_readFact_140 rfl (Or.inr rfl) enSH (h1 q1)
  · refine g_aload_n 0 dX7_readFact_117 rfl rfl ?_
    refine g_getR dX7_readFact_118 fl7_9 rfl sh10 (w7_0 hW sh10) ?_
    refine g_aload_n 0 dX7_readFact_121 rfl rfl ?_
    refine g_getR dX7_readFact_122 fl7_9 rfl sh10 (w7_0 hW sh10) ?_
    refine g_getI dX7_readFact_125 fl7_37 sh1 ?_
    refine g_iconst (v := 0) dX7_readFact_128 (by decide) ?_
    exact g_callV (As := [.int (mI m 1 2), .int (0 : Int32)]) (st := []) dX7_readFact_129 clX7_46 sh1 rfl rfl (Nat.le_of_ble_eq_true rfl) (rmSH (by omega) (by decide)) (h2 q1)
theorem bX7_readFact_163 {X : pX} {Q : Option Value → pMem → Prop} {m : pMem} {d : Nat} {x1 : Int32} {x2 : Int32} {x3 : Int32} {xs0 : Int32} {r169 : Nat} (hW : Wf m) (hd : 12 ≤ d) (e169 : mR m 10 1 = some r169) (f169 : SH[r169]? = some (.inl 6))
    (h1 : ¬ xs0 = 0 → Cl X 0 mX6_add [.ref r169, .int x3] m (fun v m2 => Go X d mX7_readFact Q 176 [(0, .ref 10), (1, .int x1), (2, .int x2), (3, .int x3)] (v.toList ++ []) m2))
    (h2 : xs0 = 0 → Q (some (.int (0 : Int32))) m) :
    Go X d mX7_readFact Q 163 [(0, .ref 10), (1, .int x1), (2, .int x2), (3, .int x3)] [.int xs0] m := by
  refine g_if_ne 168 dX7_readFact_163 (by decide) (fun q1 => ?_) (fun q1 => ?_)
  · refine g_aload_n 0 dX7_readFact_168 rfl rfl ?_
    refine g_getR (r := r169) dX7_readFact_169 fl7_15 rfl sh10 e169 ?_
    refine g_iload_n 3 dX7_readFact_172 rfl rfl ?_
    exact g_callV (As := [.int x3]) (st := []) dX7_readFact_173 clX7_60 f169 rfl rfl (Nat.le_of_ble_eq_true rfl) (rmSH (by omega) (by decide)) (h1 q1)
  · refine g_iconst (v := 0) dX7_readFact_166 (by decide) ?_
    exact g_bret dX7_readFact_167 rfl (Or.inl rfl) enSH (h2 q1)
theorem bX7_readFact_132 {X : pX} {Q : Option Value → pMem → Prop} {m : pMem} {d : Nat} {x1 : Int32} {x2 : Int32} {xs0 : Int32} (hW : Wf m) (hd : 12 ≤ d)
    (h1 : xs0 = 0 → Q (some (.int (0 : Int32))) m)
    (h2 : ¬ (xs0 = 0) → Q (some (.int (1 : Int32))) m) :
    Go X d mX7_readFact Q 132 [(0, .ref 10), (1, .int x1), (2, .int x2)] [.int xs0] m := by
  refine g_if_eq 139 dX7_readFact_132 (by decide) (fun q1 => ?_) (fun q1 => ?_)
  · refine g_iconst (v := 0) dX7_readFact_139 (by decide) ?_
    exact g_bret dX7_readFact_140 rfl (Or.inl rfl) enSH (h1 q1)
  · refine g_iconst (v := 1) dX7_readFact_135 (by decide) ?_
    refine g_goto 140 dX7_readFact_136 (by decide) ?_
    exact g_bret dX7_readFact_140 rfl (Or.inr rfl) enSH (h2 q1)
theorem bX7_readFact_176 {X : pX} {Q : Option Value → pMem → Prop} {m : pMem} {d : Nat} {x1 : Int32} {x2 : Int32} {x3 : Int32} (hW : Wf m) (hd : 12 ≤ d)
    (h1 : Q (some (.int (1 : Int32))) m) :
    Go X d mX7_readFact Q 176 [(0, .ref 10), (1, .int x1), (2, .int x2), (3, .int x3)] [] m := by
  refine g_iconst (v := 1) dX7_readFact_176 (by decide) ?_
  exact g_bret dX7_readFact_177 rfl (Or.inr rfl) enSH h1
theorem bX7_readTest_0 {X : pX} {Q : Option Value → pMem → Prop} {m : pMem} {d : Nat} {x1 : Int32} (hW : Wf m) (hd : 12 ≤ d)
    (h1 : Cl X (d - 1) mX7_readFact [.ref 10, .int x1] m (fun v m2 => Go X d mX7_readTest Q 7 [(0, .ref 10), (1, .int x1), (2, .int (0 : Int32))] (v.toList ++ []) m2)) :
    Go X d mX7_readTest Q 0 [(0, .ref 10), (1, .int x1)] [] m := by
  refine g_iconst (v := 0) dX7_readTest_0 (by decide) ?_
  refine g_istore_n (ls2 := [(2, .int (0 : Int32)), (0, .ref 10), (1, .int x1)]) dX7_readTest_1 rfl (by decide) rfl ?_
  refine g_aload_n 1 dX7_readTest_2 rfl rfl ?_
  refine g_iload_n 2 dX7_readTest_3 rfl rfl ?_
  refine g_ls [1, 2, 0] (ls2 := [(0, .ref 10), (1, .int x1), (2, .int (0 : Int32))]) rfl ?_
  exact g_callV (As := [.int x1]) (st := []) dX7_readTest_4 clX7_67 sh10 rfl rfl (Nat.le_of_ble_eq_true rfl) (rmSH (by omega) (by decide)) h1
theorem bX7_readTest_7 {X : pX} {Q : Option Value → pMem → Prop} {m : pMem} {d : Nat} {x1 : Int32} {x2 : Int32} {xs0 : Int32} (hW : Wf m) (hd : 12 ≤ d)
    (h1 : ¬ xs0 = 0 → Go X d mX7_readTest Q 14 [(0, .ref 10), (1, .int x1), (2, .int x2), (3, .int (0 : Int32))] [] m)
    (h2 : xs0 = 0 → Q (some (.int (0 : Int32))) m) :
    Go X d mX7_readTest Q 7 [(0, .ref 10), (1, .int x1), (2, .int x2)] [.int xs0] m := by
  refine g_if_ne 12 dX7_readTest_7 (by decide) (fun q1 => ?_) (fun q1 => ?_)
  · refine g_iconst (v := 0) dX7_readTest_12 (by decide) ?_
    refine g_istore_n (ls2 := [(3, .int (0 : Int32)), (0, .ref 10), (1, .int x1), (2, .int x2)]) dX7_readTest_13 rfl (by decide) rfl ?_
    exact g_ls [1, 2, 3, 0] rfl (h1 q1)
  · refine g_iconst (v := 0) dX7_readTest_10 (by decide) ?_
    exact g_bret dX7_readTest_11 rfl (Or.inl rfl) enSH (h2 q1)
theorem bX7_readTest_14 {X : pX} {Q : Option Value → pMem → Prop} {m : pMem} {d : Nat} {x1 : Int32} {x2 : Int32} {x3 : Int32} (hW : Wf m) (hd : 12 ≤ d)
    (h1 : (400 : Int32) ≤ x3 → Cl X 1 mX7_addStep [.ref 10, .int x2] m (fun v m2 => Go X d mX7_readTest Q 96 [(0, .ref 10), (1, .int x1), (2, .int x2), (3, .int x3)] (v.toList ++ []) m2))
    (h2 : ¬ ((400 : Int32) ≤ x3) → Cl X 6 mX9_takeWord [.ref 1, .retAddr 5] m (fun v m2 => Go X d mX7_readTest Q 30 [(0, .ref 10), (1, .int x1), (2, .int x2), (3, .int x3)] (v.toList ++ []) m2)) :
    Go X d mX7_readTest Q 14 [(0, .ref 10), (1, .int x1), (2, .int x2), (3, .int x3)] [] m := by
  refine g_iload_n 3 dX7_readTest_14 rfl rfl ?_
  refine g_sipush (v := 400) dX7_readTest_15 (by decide) ?_
  refine g_icmp_ge 91 dX7_readTest_18 (by decide) (fun q1 => ?_) (fun q1 => ?_)
  · refine g_aload_n 0 dX7_readTest_91 rfl rfl ?_
    refine g_iload_n 2 dX7_readTest_92 rfl rfl ?_
    exact g_callV (As := [.int x2]) (st := []) dX7_readTest_93 clX7_74 sh10 rfl rfl (Nat.le_of_ble_eq_true rfl) (rmSH (by omega) (by decide)) (h1 q1)
  · refine g_aload_n 0 dX7_readTest_21 rfl rfl ?_
    refine g_getR dX7_readTest_22 fl7_9 rfl sh10 (w7_0 hW sh10) ?_
    refine g_ldcS 4 (by decide) rfl rfl dX7_readTest_25 ?_
    exact g_callV (As := [.retAddr 5]) (st := []) dX7_readTest_27 clX7_42 sh1 rfl rfl (Nat.le_of_ble_eq_true rfl) (rmSH (by omega) (by decide)) (h2 q1)
theorem bX7_readTest_96 {X : pX} {Q : Option Value → pMem → Prop} {m : pMem} {d : Nat} {x1 : Int32} {x2 : Int32} {x3 : Int32} (hW : Wf m) (hd : 12 ≤ d)
    (h1 : Q (some (.int (1 : Int32))) m) :
    Go X d mX7_readTest Q 96 [(0, .ref 10), (1, .int x1), (2, .int x2), (3, .int x3)] [] m := by
  refine g_iconst (v := 1) dX7_readTest_96 (by decide) ?_
  exact g_bret dX7_readTest_97 rfl (Or.inr rfl) enSH h1
theorem bX7_readTest_30 {X : pX} {Q : Option Value → pMem → Prop} {m : pMem} {d : Nat} {x1 : Int32} {x2 : Int32} {x3 : Int32} {xs0 : Int32} (hW : Wf m) (hd : 12 ≤ d)
    (h1 : xs0 = 0 → Cl X 6 mX9_takeWord [.ref 1, .retAddr 6] m (fun v m2 => Go X d mX7_readTest Q 64 [(0, .ref 10), (1, .int x1), (2, .int x2), (3, .int x3)] (v.toList ++ []) m2))
    (h2 : ¬ (xs0 = 0) → Cl X (d - 1) mX7_readFact [.ref 10, .int x1] m (fun v m2 => Go X d mX7_readTest Q 38 [(0, .ref 10), (1, .int x1), (2, .int x2), (3, .int x3)] (v.toList ++ []) m2)) :
    Go X d mX7_readTest Q 30 [(0, .ref 10), (1, .int x1), (2, .int x2), (3, .int x3)] [.int xs0] m := by
  refine g_if_eq 55 dX7_readTest_30 (by decide) (fun q1 => ?_) (fun q1 => ?_)
  · refine g_aload_n 0 dX7_readTest_55 rfl rfl ?_
    refine g_getR dX7_readTest_56 fl7_9 rfl sh10 (w7_0 hW sh10) ?_
    refine g_ldcS 5 (by decide) rfl rfl dX7_readTest_59 ?_
    exact g_callV (As := [.retAddr 6]) (st := []) dX7_readTest_61 clX7_42 sh1 rfl rfl (Nat.le_of_ble_eq_true rfl) (rmSH (by omega) (by decide)) (h1 q1)
  · refine g_aload_n 0 dX7_readTest_33 rfl rfl ?_
    refine g_iload_n 1 dX7_readTest_34 rfl rfl ?_
    exact g_callV (As := [.int x1]) (st := []) dX7_readTest_35 clX7_67 sh10 rfl rfl (Nat.le_of_ble_eq_true rfl) (rmSH (by omega) (by decide)) (h2 q1)
theorem bX7_readTest_64 {X : pX} {Q : Option Value → pMem → Prop} {m : pMem} {d : Nat} {x1 : Int32} {x2 : Int32} {x3 : Int32} {xs0 : Int32} (hW : Wf m) (hd : 12 ≤ d)
    (h1 : xs0 = 0 → Cl X 1 mX7_addStep [.ref 10, .int x2] m (fun v m2 => Go X d mX7_readTest Q 96 [(0, .ref 10), (1, .int x1), (2, .int x2), (3, .int x3)] (v.toList ++ []) m2))
    (h2 : ¬ (xs0 = 0) → Cl X 1 mX7_addStep [.ref 10, .int x2] m (fun v m2 => Go X d mX7_readTest Q 72 [(0, .ref 10), (1, .int x1), (2, .int x2), (3, .int x3)] (v.toList ++ []) m2)) :
    Go X d mX7_readTest Q 64 [(0, .ref 10), (1, .int x1), (2, .int x2), (3, .int x3)] [.int xs0] m := by
  refine g_if_eq 91 dX7_readTest_64 (by decide) (fun q1 => ?_) (fun q1 => ?_)
  · refine g_aload_n 0 dX7_readTest_91 rfl rfl ?_
    refine g_iload_n 2 dX7_readTest_92 rfl rfl ?_
    exact g_callV (As := [.int x2]) (st := []) dX7_readTest_93 clX7_74 sh10 rfl rfl (Nat.le_of_ble_eq_true rfl) (rmSH (by omega) (by decide)) (h1 q1)
  · refine g_aload_n 0 dX7_readTest_67 rfl rfl ?_
    refine g_iload_n 2 dX7_readTest_68 rfl rfl ?_
    exact g_callV (As := [.int x2]) (st := []) dX7_readTest_69 clX7_74 sh10 rfl rfl (Nat.le_of_ble_eq_true rfl) (rmSH (by omega) (by decide)) (h2 q1)
theorem bX7_readTest_38 {X : pX} {Q : Option Value → pMem → Prop} {m : pMem} {d : Nat} {x1 : Int32} {x2 : Int32} {x3 : Int32} {xs0 : Int32} {r44 : Nat} (hW : Wf m) (hd : 12 ≤ d) (e44 : mR m 10 1 = some r44) (f44 : SH[r44]? = some (.inl 6))
    (h1 : ¬ xs0 = 0 → Cl X 0 mX6_add [.ref r44, .int (-31 : Int32)] m (fun v m2 => Go X d mX7_readTest Q 52 [(0, .ref 10), (1, .int x1), (2, .int x2), (3, .int x3)] (v.toList ++ []) m2))
    (h2 : xs0 = 0 → Q (some (.int (0 : Int32))) m) :
    Go X d mX7_readTest Q 38 [(0, .ref 10), (1, .int x1), (2, .int x2), (3, .int x3)] [.int xs0] m := by
  refine g_if_ne 43 dX7_readTest_38 (by decide) (fun q1 => ?_) (fun q1 => ?_)
  · refine g_aload_n 0 dX7_readTest_43 rfl rfl ?_
    refine g_getR (r := r44) dX7_readTest_44 fl7_15 rfl sh10 e44 ?_
    refine g_bipush (v := -31) dX7_readTest_47 (by decide) ?_
    exact g_callV (As := [.int (-31 : Int32)]) (st := []) dX7_readTest_49 clX7_60 f44 rfl rfl (Nat.le_of_ble_eq_true rfl) (rmSH (by omega) (by decide)) (h1 q1)
  · refine g_iconst (v := 0) dX7_readTest_41 (by decide) ?_
    exact g_bret dX7_readTest_42 rfl (Or.inl rfl) enSH (h2 q1)
theorem bX7_readTest_72 {X : pX} {Q : Option Value → pMem → Prop} {m : pMem} {d : Nat} {x1 : Int32} {x2 : Int32} {x3 : Int32} (hW : Wf m) (hd : 12 ≤ d)
    (h1 : Cl X (d - 1) mX7_readFact [.ref 10, .int x1] m (fun v m2 => Go X d mX7_readTest Q 80 [(0, .ref 10), (1, .int x1), (2, .int (-32 : Int32)), (3, .int x3)] (v.toList ++ []) m2)) :
    Go X d mX7_readTest Q 72 [(0, .ref 10), (1, .int x1), (2, .int x2), (3, .int x3)] [] m := by
  refine g_bipush (v := -32) dX7_readTest_72 (by decide) ?_
  refine g_istore_n (ls2 := [(2, .int (-32 : Int32)), (0, .ref 10), (1, .int x1), (3, .int x3)]) dX7_readTest_74 rfl (by decide) rfl ?_
  refine g_aload_n 1 dX7_readTest_75 rfl rfl ?_
  refine g_iload_n 2 dX7_readTest_76 rfl rfl ?_
  refine g_ls [1, 2, 0, 3] (ls2 := [(0, .ref 10), (1, .int x1), (2, .int (-32 : Int32)), (3, .int x3)]) rfl ?_
  exact g_callV (As := [.int x1]) (st := []) dX7_readTest_77 clX7_67 sh10 rfl rfl (Nat.le_of_ble_eq_true rfl) (rmSH (by omega) (by decide)) h1
theorem bX7_readTest_52 {X : pX} {Q : Option Value → pMem → Prop} {m : pMem} {d : Nat} {x1 : Int32} {x2 : Int32} {x3 : Int32} (hW : Wf m) (hd : 12 ≤ d)
    (h1 : Go X d mX7_readTest Q 14 [(0, .ref 10), (1, .int x1), (2, .int x2), (3, .int (x3 + (1 : Int32)))] [] m) :
    Go X d mX7_readTest Q 52 [(0, .ref 10), (1, .int x1), (2, .int x2), (3, .int x3)] [] m := by
  refine g_goto 85 dX7_readTest_52 (by decide) ?_
  refine g_iinc (v := x3 + (1 : Int32)) (ls2 := [(3, .int (x3 + (1 : Int32))), (0, .ref 10), (1, .int x1), (2, .int x2)]) 3 dX7_readTest_85 rfl rfl (by decide) rfl ?_
  refine g_goto 14 dX7_readTest_88 (by decide) ?_
  exact g_ls [1, 2, 3, 0] rfl h1
theorem bX7_readTest_80 {X : pX} {Q : Option Value → pMem → Prop} {m : pMem} {d : Nat} {x1 : Int32} {x2 : Int32} {x3 : Int32} {xs0 : Int32} (hW : Wf m) (hd : 12 ≤ d)
    (h1 : ¬ xs0 = 0 → Go X d mX7_readTest Q 14 [(0, .ref 10), (1, .int x1), (2, .int x2), (3, .int (x3 + (1 : Int32)))] [] m)
    (h2 : xs0 = 0 → Q (some (.int (0 : Int32))) m) :
    Go X d mX7_readTest Q 80 [(0, .ref 10), (1, .int x1), (2, .int x2), (3, .int x3)] [.int xs0] m := by
  refine g_if_ne 85 dX7_readTest_80 (by decide) (fun q1 => ?_) (fun q1 => ?_)
  · refine g_iinc (v := x3 + (1 : Int32)) (ls2 := [(3, .int (x3 + (1 : Int32))), (0, .ref 10), (1, .int x1), (2, .int x2)]) 3 dX7_readTest_85 rfl rfl (by decide) rfl ?_
    refine g_goto 14 dX7_readTest_88 (by decide) ?_
    exact g_ls [1, 2, 3, 0] rfl (h1 q1)
  · refine g_iconst (v := 0) dX7_readTest_83 (by decide) ?_
    exact g_bret dX7_readTest_84 rfl (Or.inl rfl) enSH (h2 q1)
theorem bX7_read_0 {X : pX} {Q : Option Value → pMem → Prop} {m : pMem} {a1 : Nat} {r6 : Nat} (hW : Wf m) (c1 : SH[a1]? = some (.inl 6)) (e6 : mR (uR m 10 1 (some a1)) 10 1 = some r6) (f6 : SH[r6]? = some (.inl 6))
    (h1 : Cl X 0 mX6_clear [.ref r6] (uR m 10 1 (some a1)) (fun v m2 => Go X 40 mX7_read Q 12 [(0, .ref 10), (1, .ref a1)] (v.toList ++ []) m2)) :
    Go X 40 mX7_read Q 0 [(0, .ref 10), (1, .ref a1)] [] m := by
  refine g_aload_n 0 dX7_read_0 rfl rfl ?_
  refine g_aload_n 1 dX7_read_1 rfl rfl ?_
  refine g_putR dX7_read_2 fl7_15 rfl (fun h => by cases h) sh10 ?_
  refine g_aload_n 0 dX7_read_5 rfl rfl ?_
  refine g_getR (r := r6) dX7_read_6 fl7_15 rfl sh10 e6 ?_
  exact g_callV (As := []) (st := []) dX7_read_9 clX7_19 f6 rfl rfl (Nat.le_of_ble_eq_true rfl) (rmSH (by decide) (by decide)) h1
theorem bX7_read_12 {X : pX} {Q : Option Value → pMem → Prop} {m : pMem} {a1 : Nat} (hW : Wf m) (c1 : SH[a1]? = some (.inl 6))
    (h1 : Cl X 0 mX9_rewind [.ref 1] (uI m 10 2 (0 : Int32)) (fun v m2 => Go X 40 mX7_read Q 24 [(0, .ref 10), (1, .ref a1)] (v.toList ++ []) m2)) :
    Go X 40 mX7_read Q 12 [(0, .ref 10), (1, .ref a1)] [] m := by
  refine g_aload_n 0 dX7_read_12 rfl rfl ?_
  refine g_iconst (v := 0) dX7_read_13 (by decide) ?_
  refine g_putI dX7_read_14 fl7_24 (fun h => by cases h) sh10 ?_
  refine g_aload_n 0 dX7_read_17 rfl rfl ?_
  refine g_getR dX7_read_18 fl7_9 rfl sh10 (w7_0 hW sh10) ?_
  exact g_callV (As := []) (st := []) dX7_read_21 clX7_28 sh1 rfl rfl (Nat.le_of_ble_eq_true rfl) (rmSH (by decide) (by decide)) h1
theorem bX7_read_24 {X : pX} {Q : Option Value → pMem → Prop} {m : pMem} {a1 : Nat} (hW : Wf m) (c1 : SH[a1]? = some (.inl 6))
    (h1 : Go X 40 mX7_read Q 26 [(0, .ref 10), (2, .int (0 : Int32))] [] m) :
    Go X 40 mX7_read Q 24 [(0, .ref 10), (1, .ref a1)] [] m := by
  refine g_iconst (v := 0) dX7_read_24 (by decide) ?_
  refine g_istore_n (ls2 := [(2, .int (0 : Int32)), (0, .ref 10), (1, .ref a1)]) dX7_read_25 rfl (by decide) rfl ?_
  exact g_ls [1, 0] rfl h1
theorem bX7_read_26 {X : pX} {Q : Option Value → pMem → Prop} {m : pMem} {x2 : Int32} (hW : Wf m)
    (h1 : (12 : Int32) < x2 → Q (some (.int (0 : Int32))) m)
    (h2 : ¬ ((12 : Int32) < x2) → Cl X 1 mX9_next [.ref 1] m (fun v m2 => Go X 40 mX7_read Q 39 [(0, .ref 10), (2, .int x2)] (v.toList ++ []) m2)) :
    Go X 40 mX7_read Q 26 [(0, .ref 10), (2, .int x2)] [] m := by
  refine g_iload_n 1 dX7_read_26 rfl rfl ?_
  refine g_bipush (v := 12) dX7_read_27 (by decide) ?_
  refine g_icmp_gt 187 dX7_read_29 (by decide) (fun q1 => ?_) (fun q1 => ?_)
  · refine g_iconst (v := 0) dX7_read_187 (by decide) ?_
    exact g_bret dX7_read_188 rfl (Or.inl rfl) enSH (h1 q1)
  · refine g_aload_n 0 dX7_read_32 rfl rfl ?_
    refine g_getR dX7_read_33 fl7_9 rfl sh10 (w7_0 hW sh10) ?_
    exact g_callV (As := []) (st := []) dX7_read_36 clX7_33 sh1 rfl rfl (Nat.le_of_ble_eq_true rfl) (rmSH (by decide) (by decide)) (h2 q1)
theorem bX7_read_39 {X : pX} {Q : Option Value → pMem → Prop} {m : pMem} {x2 : Int32} {xs0 : Int32} (hW : Wf m)
    (h1 : Cl X 6 mX9_takeWord [.ref 1, .retAddr 3] m (fun v m2 => Go X 40 mX7_read Q 57 [(0, .ref 10), (2, .int x2), (3, .int (mI m 1 2))] (v.toList ++ []) m2)) :
    Go X 40 mX7_read Q 39 [(0, .ref 10), (2, .int x2)] [.int xs0] m := by
  refine g_pop dX7_read_39 rfl ?_
  refine g_aload_n 0 dX7_read_40 rfl rfl ?_
  refine g_getR dX7_read_41 fl7_9 rfl sh10 (w7_0 hW sh10) ?_
  refine g_getI dX7_read_44 fl7_37 sh1 ?_
  refine g_istore_n (ls2 := [(3, .int (mI m 1 2)), (0, .ref 10), (2, .int x2)]) dX7_read_47 rfl (by decide) rfl ?_
  refine g_aload_n 1 dX7_read_48 rfl rfl ?_
  refine g_getR dX7_read_49 fl7_9 rfl sh10 (w7_0 hW sh10) ?_
  refine g_ldcS 2 (by decide) rfl rfl dX7_read_52 ?_
  refine g_ls [1, 2, 0] (ls2 := [(0, .ref 10), (2, .int x2), (3, .int (mI m 1 2))]) rfl ?_
  exact g_callV (As := [.retAddr 3]) (st := []) dX7_read_54 clX7_42 sh1 rfl rfl (Nat.le_of_ble_eq_true rfl) (rmSH (by decide) (by decide)) h1
theorem bX7_read_57 {X : pX} {Q : Option Value → pMem → Prop} {m : pMem} {x2 : Int32} {x3 : Int32} {xs0 : Int32} (hW : Wf m)
    (h1 : ¬ xs0 = 0 → x2 < (12 : Int32) → Cl X 8 mX7_readSum [.ref 10] m (fun v m2 => Go X 40 mX7_read Q 90 [(0, .ref 10), (2, .int x2), (3, .int x3)] (v.toList ++ []) m2))
    (h2 : ¬ xs0 = 0 → ¬ (x2 < (12 : Int32)) → Cl X 0 mX9_fail [.ref 1, .int x3, .int (4 : Int32)] m (fun v m2 => Go X 40 mX7_read Q 85 [(0, .ref 10), (2, .int x2), (3, .int x3)] (v.toList ++ []) m2))
    (h3 : xs0 = 0 → Cl X 0 mX9_fail [.ref 1, .int x3, .int (0 : Int32)] m (fun v m2 => Go X 40 mX7_read Q 69 [(0, .ref 10), (2, .int x2), (3, .int x3)] (v.toList ++ []) m2)) :
    Go X 40 mX7_read Q 57 [(0, .ref 10), (2, .int x2), (3, .int x3)] [.int xs0] m := by
  refine g_if_ne 70 dX7_read_57 (by decide) (fun q1 => ?_) (fun q1 => ?_)
  · refine g_iload_n 1 dX7_read_70 rfl rfl ?_
    refine g_bipush (v := 12) dX7_read_71 (by decide) ?_
    refine g_icmp_lt 86 dX7_read_73 (by decide) (fun q2 => ?_) (fun q2 => ?_)
    · refine g_aload_n 0 dX7_read_86 rfl rfl ?_
      exact g_callV (As := []) (st := []) dX7_read_87 clX7_50 sh10 rfl rfl (Nat.le_of_ble_eq_true rfl) (rmSH (by decide) (by decide)) (h1 q1 q2)
    · refine g_aload_n 0 dX7_read_76 rfl rfl ?_
      refine g_getR dX7_read_77 fl7_9 rfl sh10 (w7_0 hW sh10) ?_
      refine g_iload_n 2 dX7_read_80 rfl rfl ?_
      refine g_iconst (v := 4) dX7_read_81 (by decide) ?_
      exact g_callV (As := [.int x3, .int (4 : Int32)]) (st := []) dX7_read_82 clX7_46 sh1 rfl rfl (Nat.le_of_ble_eq_true rfl) (rmSH (by decide) (by decide)) (h2 q1 q2)
  · refine g_aload_n 0 dX7_read_60 rfl rfl ?_
    refine g_getR dX7_read_61 fl7_9 rfl sh10 (w7_0 hW sh10) ?_
    refine g_iload_n 2 dX7_read_64 rfl rfl ?_
    refine g_iconst (v := 0) dX7_read_65 (by decide) ?_
    exact g_callV (As := [.int x3, .int (0 : Int32)]) (st := []) dX7_read_66 clX7_46 sh1 rfl rfl (Nat.le_of_ble_eq_true rfl) (rmSH (by decide) (by decide)) (h3 q1)
theorem bX7_read_90 {X : pX} {Q : Option Value → pMem → Prop} {m : pMem} {x2 : Int32} {x3 : Int32} {xs0 : Int32} (hW : Wf m)
    (h1 : ¬ xs0 = 0 → Cl X 6 mX9_takeWord [.ref 1, .retAddr 4] m (fun v m2 => Go X 40 mX7_read Q 104 [(0, .ref 10), (2, .int x2), (3, .int x3)] (v.toList ++ []) m2))
    (h2 : xs0 = 0 → Q (some (.int (0 : Int32))) m) :
    Go X 40 mX7_read Q 90 [(0, .ref 10), (2, .int x2), (3, .int x3)] [.int xs0] m := by
  refine g_if_ne 95 dX7_read_90 (by decide) (fun q1 => ?_) (fun q1 => ?_)
  · refine g_aload_n 0 dX7_read_95 rfl rfl ?_
    refine g_getR dX7_read_96 fl7_9 rfl sh10 (w7_0 hW sh10) ?_
    refine g_ldcS 3 (by decide) rfl rfl dX7_read_99 ?_
    exact g_callV (As := [.retAddr 4]) (st := []) dX7_read_101 clX7_42 sh1 rfl rfl (Nat.le_of_ble_eq_true rfl) (rmSH (by decide) (by decide)) (h1 q1)
  · refine g_iconst (v := 0) dX7_read_93 (by decide) ?_
    exact g_bret dX7_read_94 rfl (Or.inl rfl) enSH (h2 q1)
theorem bX7_read_85 {X : pX} {Q : Option Value → pMem → Prop} {m : pMem} {x2 : Int32} {x3 : Int32} {xs0 : Int32} (hW : Wf m)
    (h1 : xs0 = 0 ∨ xs0 = 1)
    (h2 : Q (some (.int xs0)) m) :
    Go X 40 mX7_read Q 85 [(0, .ref 10), (2, .int x2), (3, .int x3)] [.int xs0] m := by
  exact g_bret dX7_read_85 rfl h1 enSH h2
theorem bX7_read_69 {X : pX} {Q : Option Value → pMem → Prop} {m : pMem} {x2 : Int32} {x3 : Int32} {xs0 : Int32} (hW : Wf m)
    (h1 : xs0 = 0 ∨ xs0 = 1)
    (h2 : Q (some (.int xs0)) m) :
    Go X 40 mX7_read Q 69 [(0, .ref 10), (2, .int x2), (3, .int x3)] [.int xs0] m := by
  exact g_bret dX7_read_69 rfl h1 enSH h2
theorem bX7_read_104 {X : pX} {Q : Option Value → pMem → Prop} {m : pMem} {x2 : Int32} {x3 : Int32} {xs0 : Int32} (hW : Wf m)
    (h1 : xs0 = 0 → Go X 40 mX7_read Q 121 [(0, .ref 10), (2, .int x2), (4, .int xs0)] [] m)
    (h2 : ¬ (xs0 = 0) → Cl X 39 mX7_readTest [.ref 10, .int (0 : Int32)] m (fun v m2 => Go X 40 mX7_read Q 116 [(0, .ref 10), (2, .int x2), (3, .int x3), (4, .int xs0)] (v.toList ++ []) m2)) :
    Go X 40 mX7_read Q 104 [(0, .ref 10), (2, .int x2), (3, .int x3)] [.int xs0] m := by
  refine g_istore (ls2 := [(4, .int xs0), (0, .ref 10), (2, .int x2), (3, .int x3)]) dX7_read_104 (by decide) rfl ?_
  refine g_iload 0 dX7_read_106 rfl ?_
  refine g_if_eq 121 dX7_read_108 (by decide) (fun q1 => ?_) (fun q1 => ?_)
  · exact g_ls [1, 2, 0] rfl (h1 q1)
  · refine g_aload_n 1 dX7_read_111 rfl rfl ?_
    refine g_iconst (v := 0) dX7_read_112 (by decide) ?_
    refine g_ls [1, 2, 3, 0] (ls2 := [(0, .ref 10), (2, .int x2), (3, .int x3), (4, .int xs0)]) rfl ?_
    exact g_callV (As := [.int (0 : Int32)]) (st := []) dX7_read_113 clX7_56 sh10 rfl rfl (Nat.le_of_ble_eq_true rfl) (rmSH (by decide) (by decide)) (h2 q1)
theorem bX7_read_121 {X : pX} {Q : Option Value → pMem → Prop} {m : pMem} {x2 : Int32} {x4 : Int32} {r122 : Nat} (hW : Wf m) (e122 : mR m 10 1 = some r122) (f122 : SH[r122]? = some (.inl 6))
    (h1 : x4 = 0 → Cl X 0 mX6_add [.ref r122, .int (-34 : Int32)] m (fun v m2 => Go X 40 mX7_read Q 140 [(0, .ref 10), (2, .int x2), (4, .int x4)] (v.toList ++ []) m2))
    (h2 : ¬ (x4 = 0) → Cl X 0 mX6_add [.ref r122, .int (-35 : Int32)] m (fun v m2 => Go X 40 mX7_read Q 140 [(0, .ref 10), (2, .int x2), (4, .int x4)] (v.toList ++ []) m2)) :
    Go X 40 mX7_read Q 121 [(0, .ref 10), (2, .int x2), (4, .int x4)] [] m := by
  refine g_aload_n 0 dX7_read_121 rfl rfl ?_
  refine g_getR (r := r122) dX7_read_122 fl7_15 rfl sh10 e122 ?_
  refine g_iload 2 dX7_read_125 rfl ?_
  refine g_if_eq 135 dX7_read_127 (by decide) (fun q1 => ?_) (fun q1 => ?_)
  · refine g_bipush (v := -34) dX7_read_135 (by decide) ?_
    exact g_callV (As := [.int (-34 : Int32)]) (st := []) dX7_read_137 clX7_60 f122 rfl rfl (Nat.le_of_ble_eq_true rfl) (rmSH (by decide) (by decide)) (h1 q1)
  · refine g_bipush (v := -35) dX7_read_130 (by decide) ?_
    refine g_goto 137 dX7_read_132 (by decide) ?_
    exact g_callV (As := [.int (-35 : Int32)]) (st := []) dX7_read_137 clX7_60 f122 rfl rfl (Nat.le_of_ble_eq_true rfl) (rmSH (by decide) (by decide)) (h2 q1)
theorem bX7_read_116 {X : pX} {Q : Option Value → pMem → Prop} {m : pMem} {x2 : Int32} {x3 : Int32} {x4 : Int32} {xs0 : Int32} (hW : Wf m)
    (h1 : ¬ xs0 = 0 → Go X 40 mX7_read Q 121 [(0, .ref 10), (2, .int x2), (4, .int x4)] [] m)
    (h2 : xs0 = 0 → Q (some (.int (0 : Int32))) m) :
    Go X 40 mX7_read Q 116 [(0, .ref 10), (2, .int x2), (3, .int x3), (4, .int x4)] [.int xs0] m := by
  refine g_if_ne 121 dX7_read_116 (by decide) (fun q1 => ?_) (fun q1 => ?_)
  · exact g_ls [0, 1, 3] rfl (h1 q1)
  · refine g_iconst (v := 0) dX7_read_119 (by decide) ?_
    exact g_bret dX7_read_120 rfl (Or.inl rfl) enSH (h2 q1)
theorem bX7_read_140 {X : pX} {Q : Option Value → pMem → Prop} {m : pMem} {x2 : Int32} {x4 : Int32} (hW : Wf m)
    (h1 : Cl X 1 mX9_next [.ref 1] m (fun v m2 => Go X 40 mX7_read Q 147 [(0, .ref 10), (2, .int x2), (4, .int x4)] (v.toList ++ []) m2)) :
    Go X 40 mX7_read Q 140 [(0, .ref 10), (2, .int x2), (4, .int x4)] [] m := by
  refine g_aload_n 0 dX7_read_140 rfl rfl ?_
  refine g_getR dX7_read_141 fl7_9 rfl sh10 (w7_0 hW sh10) ?_
  exact g_callV (As := []) (st := []) dX7_read_144 clX7_33 sh1 rfl rfl (Nat.le_of_ble_eq_true rfl) (rmSH (by decide) (by decide)) h1
theorem bX7_read_147 {X : pX} {Q : Option Value → pMem → Prop} {m : pMem} {x2 : Int32} {x4 : Int32} {xs0 : Int32} (hW : Wf m)
    (h1 : ¬ xs0 = (-1 : Int32) → Cl X 2 mX9_takeSign [.ref 1, .int (59 : Int32)] m (fun v m2 => Go X 40 mX7_read Q 162 [(0, .ref 10), (2, .int x2), (4, .int x4)] (v.toList ++ []) m2))
    (h2 : xs0 = (-1 : Int32) → Q (some (.int (1 : Int32))) m) :
    Go X 40 mX7_read Q 147 [(0, .ref 10), (2, .int x2), (4, .int x4)] [.int xs0] m := by
  refine g_iconst (v := -1) dX7_read_147 (by decide) ?_
  refine g_icmp_ne 153 dX7_read_148 (by decide) (fun q1 => ?_) (fun q1 => ?_)
  · refine g_aload_n 0 dX7_read_153 rfl rfl ?_
    refine g_getR dX7_read_154 fl7_9 rfl sh10 (w7_0 hW sh10) ?_
    refine g_bipush (v := 59) dX7_read_157 (by decide) ?_
    exact g_callV (As := [.int (59 : Int32)]) (st := []) dX7_read_159 clX7_64 sh1 rfl rfl (Nat.le_of_ble_eq_true rfl) (rmSH (by decide) (by decide)) (h1 q1)
  · refine g_iconst (v := 1) dX7_read_151 (by decide) ?_
    exact g_bret dX7_read_152 rfl (Or.inr rfl) enSH (h2 q1)
theorem bX7_read_162 {X : pX} {Q : Option Value → pMem → Prop} {m : pMem} {x2 : Int32} {x4 : Int32} {xs0 : Int32} (hW : Wf m)
    (h1 : ¬ xs0 = 0 → Go X 40 mX7_read Q 26 [(0, .ref 10), (2, .int (x2 + (1 : Int32)))] [] m)
    (h2 : xs0 = 0 → Cl X 0 mX9_fail [.ref 1, .int (mI m 1 2), .int (0 : Int32)] m (fun v m2 => Go X 40 mX7_read Q 180 [(0, .ref 10), (2, .int x2), (4, .int x4)] (v.toList ++ []) m2)) :
    Go X 40 mX7_read Q 162 [(0, .ref 10), (2, .int x2), (4, .int x4)] [.int xs0] m := by
  refine g_if_ne 181 dX7_read_162 (by decide) (fun q1 => ?_) (fun q1 => ?_)
  · refine g_iinc (v := x2 + (1 : Int32)) (ls2 := [(2, .int (x2 + (1 : Int32))), (0, .ref 10), (4, .int x4)]) 1 dX7_read_181 rfl rfl (by decide) rfl ?_
    refine g_goto 26 dX7_read_184 (by decide) ?_
    exact g_ls [1, 0] rfl (h1 q1)
  · refine g_aload_n 0 dX7_read_165 rfl rfl ?_
    refine g_getR dX7_read_166 fl7_9 rfl sh10 (w7_0 hW sh10) ?_
    refine g_aload_n 0 dX7_read_169 rfl rfl ?_
    refine g_getR dX7_read_170 fl7_9 rfl sh10 (w7_0 hW sh10) ?_
    refine g_getI dX7_read_173 fl7_37 sh1 ?_
    refine g_iconst (v := 0) dX7_read_176 (by decide) ?_
    exact g_callV (As := [.int (mI m 1 2), .int (0 : Int32)]) (st := []) dX7_read_177 clX7_46 sh1 rfl rfl (Nat.le_of_ble_eq_true rfl) (rmSH (by decide) (by decide)) (h2 q1)
theorem bX7_read_180 {X : pX} {Q : Option Value → pMem → Prop} {m : pMem} {x2 : Int32} {x4 : Int32} {xs0 : Int32} (hW : Wf m)
    (h1 : xs0 = 0 ∨ xs0 = 1)
    (h2 : Q (some (.int xs0)) m) :
    Go X 40 mX7_read Q 180 [(0, .ref 10), (2, .int x2), (4, .int x4)] [.int xs0] m := by
  exact g_bret dX7_read_180 rfl h1 enSH h2
theorem bX11_rule_0 {X : pX} {Q : Option Value → pMem → Prop} {m : pMem} (hW : Wf m)
    (h1 : (mI m 0 4) < (6 : Int32) → vp_in (mI m 0 4) 6)
    (h2 : (mI m 0 4) < (6 : Int32) → Cl X 40 mX7_read [.ref 10, .ref (12 + 3 * ((mI m 0 4).toNatClampNeg))] m (fun v m2 => Go X 41 mX11_rule Q 27 [(0, .ref 0)] (v.toList ++ []) m2))
    (h3 : ¬ ((mI m 0 4) < (6 : Int32)) → Q (some (.int (-1 : Int32))) m) :
    Go X 41 mX11_rule Q 0 [(0, .ref 0)] [] m := by
  refine g_aload_n 0 dX11_rule_0 rfl rfl ?_
  refine g_getI dX11_rule_1 fl11_126 sh0 ?_
  refine g_bipush (v := 6) dX11_rule_4 (by decide) ?_
  refine g_icmp_lt 11 dX11_rule_6 (by decide) (fun q1 => ?_) (fun q1 => ?_)
  · refine g_aload_n 0 dX11_rule_11 rfl rfl ?_
    refine g_getR dX11_rule_12 fl11_28 rfl sh0 (w11_2 hW sh0) ?_
    refine g_aload_n 0 dX11_rule_15 rfl rfl ?_
    refine g_getR dX11_rule_16 fl11_34 rfl sh0 (w11_3 hW sh0) ?_
    refine g_aload_n 0 dX11_rule_19 rfl rfl ?_
    refine g_getI dX11_rule_20 fl11_126 sh0 ?_
    refine g_aald dX11_rule_23 sh11 (by decide) (h1 q1) rfl (wRules hW (inN (h1 q1))) ?_
    exact g_callV (As := [.ref (12 + 3 * ((mI m 0 4).toNatClampNeg))]) (st := []) dX11_rule_24 clX11_129 sh10 rfl rfl (Nat.le_of_ble_eq_true rfl) (rmSH (by decide) (by decide)) (h2 q1)
  · refine g_iconst (v := -1) dX11_rule_9 (by decide) ?_
    exact g_iret dX11_rule_10 rfl enSH (h3 q1)
theorem bX11_rule_27 {X : pX} {Q : Option Value → pMem → Prop} {m : pMem} {xs0 : Int32} (hW : Wf m)
    (h1 : ¬ xs0 = 0 → Q (some (.int (((mI m 0 4) + (1 : Int32)) - (1 : Int32)))) (uI (uI m 1 1 (0 : Int32)) 0 4 ((mI m 0 4) + (1 : Int32))))
    (h2 : xs0 = 0 → Q (some (.int ((-2 : Int32) - (mI m 1 3)))) (uI m 1 1 (0 : Int32))) :
    Go X 41 mX11_rule Q 27 [(0, .ref 0)] [.int xs0] m := by
  refine g_istore_n (ls2 := [(1, .int xs0), (0, .ref 0)]) dX11_rule_27 rfl (by decide) rfl ?_
  refine g_aload_n 1 dX11_rule_28 rfl rfl ?_
  refine g_getR dX11_rule_29 fl11_10 rfl sh0 (w11_0 hW sh0) ?_
  refine g_iconst (v := 0) dX11_rule_32 (by decide) ?_
  refine g_putI dX11_rule_33 fl11_106 (fun h => by cases h) sh1 ?_
  refine g_iload_n 0 dX11_rule_36 rfl rfl ?_
  refine g_if_ne 51 dX11_rule_37 (by decide) (fun q1 => ?_) (fun q1 => ?_)
  · refine g_aload_n 1 dX11_rule_51 rfl rfl ?_
    refine g_dup dX11_rule_52 rfl ?_
    refine g_getI dX11_rule_53 fl11_126 sh0 ?_
    refine g_iconst (v := 1) dX11_rule_56 (by decide) ?_
    refine g_iadd dX11_rule_57 ?_
    refine g_putI dX11_rule_58 fl11_126 (fun h => by cases h) sh0 ?_
    refine g_aload_n 1 dX11_rule_61 rfl rfl ?_
    refine g_getI dX11_rule_62 fl11_126 sh0 ?_
    refine g_iconst (v := 1) dX11_rule_65 (by decide) ?_
    refine g_isub dX11_rule_66 ?_
    exact g_iret dX11_rule_67 rfl enSH (h1 q1)
  · refine g_bipush (v := -2) dX11_rule_40 (by decide) ?_
    refine g_aload_n 1 dX11_rule_42 rfl rfl ?_
    refine g_getR dX11_rule_43 fl11_10 rfl sh0 (w11_0 hW sh0) ?_
    refine g_getI dX11_rule_46 fl11_114 sh1 ?_
    refine g_isub dX11_rule_49 ?_
    exact g_iret dX11_rule_50 rfl enSH (h2 q1)
theorem bX12_value_0 {X : pX} {Q : Option Value → pMem → Prop} {m : pMem} (hW : Wf m)
    (h1 : Cl X 1 mX12_blanks [.ref 535] m (fun v m2 => Go X 6 mX12_value Q 4 [(0, .ref 535)] (v.toList ++ []) m2)) :
    Go X 6 mX12_value Q 0 [(0, .ref 535)] [] m := by
  refine g_aload_n 0 dX12_value_0 rfl rfl ?_
  exact g_callV (As := []) (st := []) dX12_value_1 clX12_183 sh535 rfl rfl (Nat.le_of_ble_eq_true rfl) (rmSH (by decide) (by decide)) h1
theorem bX12_value_4 {X : pX} {Q : Option Value → pMem → Prop} {m : pMem} (hW : Wf m)
    (h1 : Cl X 1 mX12_isDigit [.ref 535] m (fun v m2 => Go X 6 mX12_value Q 13 [(0, .ref 535), (1, .int (mI m 535 20))] (v.toList ++ []) m2)) :
    Go X 6 mX12_value Q 4 [(0, .ref 535)] [] m := by
  refine g_aload_n 0 dX12_value_4 rfl rfl ?_
  refine g_getI dX12_value_5 fl12_163 sh535 ?_
  refine g_istore_n (ls2 := [(1, .int (mI m 535 20)), (0, .ref 535)]) dX12_value_8 rfl (by decide) rfl ?_
  refine g_aload_n 1 dX12_value_9 rfl rfl ?_
  refine g_ls [1, 0] (ls2 := [(0, .ref 535), (1, .int (mI m 535 20))]) rfl ?_
  exact g_callV (As := []) (st := []) dX12_value_10 clX12_203 sh535 rfl rfl (Nat.le_of_ble_eq_true rfl) (rmSH (by decide) (by decide)) h1
theorem bX12_value_13 {X : pX} {Q : Option Value → pMem → Prop} {m : pMem} {x1 : Int32} {xs0 : Int32} (hW : Wf m)
    (h1 : xs0 = 0 → Go X 6 mX12_value Q 37 [(0, .ref 535), (1, .int x1), (2, .int (0 : Int32))] [] m)
    (h2 : ¬ (xs0 = 0) → Cl X 2 mX12_digits [.ref 535, .int (99999 : Int32)] m (fun v m2 => Go X 6 mX12_value Q 22 [(0, .ref 535), (1, .int x1)] (v.toList ++ []) m2)) :
    Go X 6 mX12_value Q 13 [(0, .ref 535), (1, .int x1)] [.int xs0] m := by
  refine g_if_eq 35 dX12_value_13 (by decide) (fun q1 => ?_) (fun q1 => ?_)
  · refine g_iconst (v := 0) dX12_value_35 (by decide) ?_
    refine g_istore_n (ls2 := [(2, .int (0 : Int32)), (0, .ref 535), (1, .int x1)]) dX12_value_36 rfl (by decide) rfl ?_
    exact g_ls [1, 2, 0] rfl (h1 q1)
  · refine g_aload_n 0 dX12_value_16 rfl rfl ?_
    refine g_ldc (v := 99999) dX12_value_17 ciX12_207 ?_
    exact g_callV (As := [.int (99999 : Int32)]) (st := []) dX12_value_19 clX12_208 sh535 rfl rfl (Nat.le_of_ble_eq_true rfl) (rmSH (by decide) (by decide)) (h2 q1)
theorem bX12_value_37 {X : pX} {Q : Option Value → pMem → Prop} {m : pMem} {x1 : Int32} {x2 : Int32} (hW : Wf m)
    (h1 : (mI m 535 28) ≤ x2 → Go X 6 mX12_value Q 62 [(0, .ref 535), (1, .int x1), (2, .int x2)] [] m)
    (h2 : ¬ ((mI m 535 28) ≤ x2) → Cl X 0 mX12_wordOf [.int x2] m (fun v m2 => Go X 6 mX12_value Q 50 [(0, .ref 535), (1, .int x1), (2, .int x2)] (v.toList ++ [.ref 535]) m2)) :
    Go X 6 mX12_value Q 37 [(0, .ref 535), (1, .int x1), (2, .int x2)] [] m := by
  refine g_iload_n 2 dX12_value_37 rfl rfl ?_
  refine g_aload_n 0 dX12_value_38 rfl rfl ?_
  refine g_getI dX12_value_39 fl12_64 sh535 ?_
  refine g_icmp_ge 62 dX12_value_42 (by decide) (fun q1 => ?_) (fun q1 => ?_)
  · exact g_ls [0, 1, 2] rfl (h1 q1)
  · refine g_aload_n 0 dX12_value_45 rfl rfl ?_
    refine g_iload_n 2 dX12_value_46 rfl rfl ?_
    exact g_callS (As := [.int x2]) (st := [.ref 535]) dX12_value_47 clX12_218 rfl rfl (Nat.le_of_ble_eq_true rfl) (rmSH (by decide) (by decide)) (h2 q1)
theorem bX12_value_22 {X : pX} {Q : Option Value → pMem → Prop} {m : pMem} {x1 : Int32} {xs0 : Int32} (hW : Wf m)
    (h1 : Cl X 1 mX12_isCounted [.ref 535, .int x1] m (fun v m2 => Go X 6 mX12_value Q 28 [(0, .ref 535), (1, .int x1), (2, .int xs0)] (v.toList ++ []) m2)) :
    Go X 6 mX12_value Q 22 [(0, .ref 535), (1, .int x1)] [.int xs0] m := by
  refine g_istore_n (ls2 := [(2, .int xs0), (0, .ref 535), (1, .int x1)]) dX12_value_22 rfl (by decide) rfl ?_
  refine g_aload_n 1 dX12_value_23 rfl rfl ?_
  refine g_iload_n 2 dX12_value_24 rfl rfl ?_
  refine g_ls [1, 2, 0] (ls2 := [(0, .ref 535), (1, .int x1), (2, .int xs0)]) rfl ?_
  exact g_callV (As := [.int x1]) (st := []) dX12_value_25 clX12_212 sh535 rfl rfl (Nat.le_of_ble_eq_true rfl) (rmSH (by decide) (by decide)) h1
theorem bX12_value_62 {X : pX} {Q : Option Value → pMem → Prop} {m : pMem} {x1 : Int32} {x2 : Int32} (hW : Wf m)
    (h1 : ¬ x2 = (mI m 535 28) → Cl X 1 mX12_isCounted [.ref 535, .int x1] m (fun v m2 => Go X 6 mX12_value Q 82 [(0, .ref 535), (1, .int x1), (2, .int x2)] (v.toList ++ []) m2))
    (h2 : x2 = (mI m 535 28) → Cl X 0 mX12_fails [.ref 535, .int (0 : Int32), .int x1] m (fun v m2 => Go X 6 mX12_value Q 76 [(0, .ref 535), (1, .int x1), (2, .int x2)] (v.toList ++ []) m2)) :
    Go X 6 mX12_value Q 62 [(0, .ref 535), (1, .int x1), (2, .int x2)] [] m := by
  refine g_iload_n 2 dX12_value_62 rfl rfl ?_
  refine g_aload_n 0 dX12_value_63 rfl rfl ?_
  refine g_getI dX12_value_64 fl12_64 sh535 ?_
  refine g_icmp_ne 77 dX12_value_67 (by decide) (fun q1 => ?_) (fun q1 => ?_)
  · refine g_aload_n 0 dX12_value_77 rfl rfl ?_
    refine g_iload_n 1 dX12_value_78 rfl rfl ?_
    exact g_callV (As := [.int x1]) (st := []) dX12_value_79 clX12_212 sh535 rfl rfl (Nat.le_of_ble_eq_true rfl) (rmSH (by decide) (by decide)) (h1 q1)
  · refine g_aload_n 0 dX12_value_70 rfl rfl ?_
    refine g_iconst (v := 0) dX12_value_71 (by decide) ?_
    refine g_iload_n 1 dX12_value_72 rfl rfl ?_
    exact g_callV (As := [.int (0 : Int32), .int x1]) (st := []) dX12_value_73 clX12_199 sh535 rfl rfl (Nat.le_of_ble_eq_true rfl) (rmSH (by decide) (by decide)) (h2 q1)
theorem bX12_value_50 {X : pX} {Q : Option Value → pMem → Prop} {m : pMem} {x1 : Int32} {x2 : Int32} {ks0 : Nat} (hW : Wf m)
    (h1 : Cl X 5 mX12_stood [.ref 535, .retAddr ks0] m (fun v m2 => Go X 6 mX12_value Q 53 [(0, .ref 535), (1, .int x1), (2, .int x2)] (v.toList ++ []) m2)) :
    Go X 6 mX12_value Q 50 [(0, .ref 535), (1, .int x1), (2, .int x2)] [.retAddr ks0, .ref 535] m := by
  exact g_callV (As := [.retAddr ks0]) (st := []) dX12_value_50 clX12_186 sh535 rfl rfl (Nat.le_of_ble_eq_true rfl) (rmSH (by decide) (by decide)) h1
theorem bX12_value_28 {X : pX} {Q : Option Value → pMem → Prop} {m : pMem} {x1 : Int32} {x2 : Int32} (hW : Wf m)
    (h1 : Cl X 0 mX12_entry [.ref 535, .int (0 : Int32), .int x2] m (fun v m2 => Go X 6 mX12_value Q 34 [(0, .ref 535), (1, .int x1), (2, .int x2)] (v.toList ++ []) m2)) :
    Go X 6 mX12_value Q 28 [(0, .ref 535), (1, .int x1), (2, .int x2)] [] m := by
  refine g_aload_n 0 dX12_value_28 rfl rfl ?_
  refine g_iconst (v := 0) dX12_value_29 (by decide) ?_
  refine g_iload_n 2 dX12_value_30 rfl rfl ?_
  exact g_callV (As := [.int (0 : Int32), .int x2]) (st := []) dX12_value_31 clX12_215 sh535 rfl rfl (Nat.le_of_ble_eq_true rfl) (rmSH (by decide) (by decide)) h1
theorem bX12_value_82 {X : pX} {Q : Option Value → pMem → Prop} {m : pMem} {x1 : Int32} {x2 : Int32} (hW : Wf m)
    (h1 : Cl X 0 mX12_wordOf [.int x2] m (fun v m2 => Go X 6 mX12_value Q 91 [(0, .ref 535), (1, .int x1), (2, .int x2)] (v.toList ++ [.int (mI m 535 20), .ref 535]) m2)) :
    Go X 6 mX12_value Q 82 [(0, .ref 535), (1, .int x1), (2, .int x2)] [] m := by
  refine g_aload_n 0 dX12_value_82 rfl rfl ?_
  refine g_dup dX12_value_83 rfl ?_
  refine g_getI dX12_value_84 fl12_163 sh535 ?_
  refine g_iload_n 2 dX12_value_87 rfl rfl ?_
  exact g_callS (As := [.int x2]) (st := [.int (mI m 535 20), .ref 535]) dX12_value_88 clX12_218 rfl rfl (Nat.le_of_ble_eq_true rfl) (rmSH (by decide) (by decide)) h1
theorem bX12_value_76 {X : pX} {Q : Option Value → pMem → Prop} {m : pMem} {x1 : Int32} {x2 : Int32} (hW : Wf m)
    (h1 : Q none m) :
    Go X 6 mX12_value Q 76 [(0, .ref 535), (1, .int x1), (2, .int x2)] [] m := by
  exact g_vret dX12_value_76 rfl enSH h1
theorem bX12_value_53 {X : pX} {Q : Option Value → pMem → Prop} {m : pMem} {x1 : Int32} {x2 : Int32} {xs0 : Int32} (hW : Wf m)
    (h1 : ¬ xs0 = 0 → Go X 6 mX12_value Q 62 [(0, .ref 535), (1, .int x1), (2, .int x2)] [] m)
    (h2 : xs0 = 0 → Go X 6 mX12_value Q 37 [(0, .ref 535), (1, .int x1), (2, .int (x2 + (1 : Int32)))] [] m) :
    Go X 6 mX12_value Q 53 [(0, .ref 535), (1, .int x1), (2, .int x2)] [.int xs0] m := by
  refine g_if_ne 62 dX12_value_53 (by decide) (fun q1 => ?_) (fun q1 => ?_)
  · exact g_ls [0, 1, 2] rfl (h1 q1)
  · refine g_iinc (v := x2 + (1 : Int32)) (ls2 := [(2, .int (x2 + (1 : Int32))), (0, .ref 535), (1, .int x1)]) 2 dX12_value_56 rfl rfl (by decide) rfl ?_
    refine g_goto 37 dX12_value_59 (by decide) ?_
    exact g_ls [1, 2, 0] rfl (h2 q1)
theorem bX12_value_34 {X : pX} {Q : Option Value → pMem → Prop} {m : pMem} {x1 : Int32} {x2 : Int32} (hW : Wf m)
    (h1 : Q none m) :
    Go X 6 mX12_value Q 34 [(0, .ref 535), (1, .int x1), (2, .int x2)] [] m := by
  exact g_vret dX12_value_34 rfl enSH h1
theorem bX12_value_91 {X : pX} {Q : Option Value → pMem → Prop} {m : pMem} {x1 : Int32} {x2 : Int32} {ks0 : Nat} {xs1 : Int32} (hW : Wf m)
    (h1 : 1 ≤ ks0 ∧ ks0 ≤ 25)
    (h2 : Cl X 1 mJ0_length_8abf5 [.retAddr ks0] m (fun v m2 => Go X 6 mX12_value Q 94 [(0, .ref 535), (1, .int x1), (2, .int x2)] (v.toList ++ [.int xs1, .ref 535]) m2)) :
    Go X 6 mX12_value Q 91 [(0, .ref 535), (1, .int x1), (2, .int x2)] [.retAddr ks0, .int xs1, .ref 535] m := by
  exact g_callVO (As := []) (st := [.int xs1, .ref 535]) dX12_value_91 coX12_174 rfl h1 rfl rfl (Nat.le_of_ble_eq_true rfl) (rmSH (by decide) (by decide)) h2
theorem bX12_value_94 {X : pX} {Q : Option Value → pMem → Prop} {m : pMem} {x1 : Int32} {x2 : Int32} {xs0 : Int32} {xs1 : Int32} (hW : Wf m)
    (h1 : Cl X 0 mX12_entry [.ref 535, .int (1 : Int32), .int x2] (uI m 535 20 (xs1 + xs0)) (fun v m2 => Go X 6 mX12_value Q 104 [(0, .ref 535), (1, .int x1), (2, .int x2)] (v.toList ++ []) m2)) :
    Go X 6 mX12_value Q 94 [(0, .ref 535), (1, .int x1), (2, .int x2)] [.int xs0, .int xs1, .ref 535] m := by
  refine g_iadd dX12_value_94 ?_
  refine g_putI dX12_value_95 fl12_163 (fun h => by cases h) sh535 ?_
  refine g_aload_n 0 dX12_value_98 rfl rfl ?_
  refine g_iconst (v := 1) dX12_value_99 (by decide) ?_
  refine g_iload_n 2 dX12_value_100 rfl rfl ?_
  exact g_callV (As := [.int (1 : Int32), .int x2]) (st := []) dX12_value_101 clX12_215 sh535 rfl rfl (Nat.le_of_ble_eq_true rfl) (rmSH (by decide) (by decide)) h1
theorem bX12_value_104 {X : pX} {Q : Option Value → pMem → Prop} {m : pMem} {x1 : Int32} {x2 : Int32} (hW : Wf m)
    (h1 : Q none m) :
    Go X 6 mX12_value Q 104 [(0, .ref 535), (1, .int x1), (2, .int x2)] [] m := by
  exact g_vret dX12_value_104 rfl enSH h1
theorem bX12_term_0 {X : pX} {Q : Option Value → pMem → Prop} {m : pMem} (hW : Wf m)
    (h1 : Cl X 6 mX12_value [.ref 535] m (fun v m2 => Go X 7 mX12_term Q 4 [(0, .ref 535)] (v.toList ++ []) m2)) :
    Go X 7 mX12_term Q 0 [(0, .ref 535)] [] m := by
  refine g_aload_n 0 dX12_term_0 rfl rfl ?_
  exact g_callV (As := []) (st := []) dX12_term_1 clX12_222 sh535 rfl rfl (Nat.le_of_ble_eq_true rfl) (rmSH (by decide) (by decide)) h1
theorem bX12_term_4 {X : pX} {Q : Option Value → pMem → Prop} {m : pMem} (hW : Wf m)
    (h1 : Cl X 1 mX12_blanks [.ref 535] m (fun v m2 => Go X 7 mX12_term Q 8 [(0, .ref 535)] (v.toList ++ []) m2)) :
    Go X 7 mX12_term Q 4 [(0, .ref 535)] [] m := by
  refine g_aload_n 0 dX12_term_4 rfl rfl ?_
  exact g_callV (As := []) (st := []) dX12_term_5 clX12_183 sh535 rfl rfl (Nat.le_of_ble_eq_true rfl) (rmSH (by decide) (by decide)) h1
theorem bX12_term_8 {X : pX} {Q : Option Value → pMem → Prop} {m : pMem} (hW : Wf m)
    (h1 : ¬ (mI m 535 21) = 0 → Q none m)
    (h2 : (mI m 535 21) = 0 → Cl X 0 mX12_sign [.ref 535] m (fun v m2 => Go X 7 mX12_term Q 19 [(0, .ref 535)] (v.toList ++ []) m2)) :
    Go X 7 mX12_term Q 8 [(0, .ref 535)] [] m := by
  refine g_aload_n 0 dX12_term_8 rfl rfl ?_
  refine g_getI dX12_term_9 fl12_160 sh535 ?_
  refine g_if_ne 100 dX12_term_12 (by decide) (fun q1 => ?_) (fun q1 => ?_)
  · exact g_vret dX12_term_100 rfl enSH (h1 q1)
  · refine g_aload_n 0 dX12_term_15 rfl rfl ?_
    exact g_callV (As := []) (st := []) dX12_term_16 clX12_166 sh535 rfl rfl (Nat.le_of_ble_eq_true rfl) (rmSH (by decide) (by decide)) (h2 q1)
theorem bX12_term_19 {X : pX} {Q : Option Value → pMem → Prop} {m : pMem} {xs0 : Int32} (hW : Wf m)
    (h1 : xs0 = (42 : Int32) → Cl X 0 mX12_sign [.ref 535] m (fun v m2 => Go X 7 mX12_term Q 46 [(0, .ref 535)] (v.toList ++ []) m2))
    (h2 : ¬ (xs0 = (42 : Int32)) → Cl X 0 mX12_sign [.ref 535] m (fun v m2 => Go X 7 mX12_term Q 28 [(0, .ref 535)] (v.toList ++ []) m2)) :
    Go X 7 mX12_term Q 19 [(0, .ref 535)] [.int xs0] m := by
  refine g_bipush (v := 42) dX12_term_19 (by decide) ?_
  refine g_icmp_eq 42 dX12_term_21 (by decide) (fun q1 => ?_) (fun q1 => ?_)
  · refine g_aload_n 0 dX12_term_42 rfl rfl ?_
    exact g_callV (As := []) (st := []) dX12_term_43 clX12_166 sh535 rfl rfl (Nat.le_of_ble_eq_true rfl) (rmSH (by decide) (by decide)) (h1 q1)
  · refine g_aload_n 0 dX12_term_24 rfl rfl ?_
    exact g_callV (As := []) (st := []) dX12_term_25 clX12_166 sh535 rfl rfl (Nat.le_of_ble_eq_true rfl) (rmSH (by decide) (by decide)) (h2 q1)
theorem bX12_term_46 {X : pX} {Q : Option Value → pMem → Prop} {m : pMem} {xs0 : Int32} (hW : Wf m)
    (h1 : ¬ xs0 = (42 : Int32) → Cl X 0 mX12_sign [.ref 535] m (fun v m2 => Go X 7 mX12_term Q 60 [(0, .ref 535)] (v.toList ++ []) m2))
    (h2 : xs0 = (42 : Int32) → Cl X 6 mX12_value [.ref 535] (uI m 535 20 ((mI m 535 20) + (1 : Int32))) (fun v m2 => Go X 7 mX12_term Q 87 [(0, .ref 535), (1, .int (13 : Int32))] (v.toList ++ []) m2)) :
    Go X 7 mX12_term Q 46 [(0, .ref 535)] [.int xs0] m := by
  refine g_bipush (v := 42) dX12_term_46 (by decide) ?_
  refine g_icmp_ne 56 dX12_term_48 (by decide) (fun q1 => ?_) (fun q1 => ?_)
  · refine g_aload_n 0 dX12_term_56 rfl rfl ?_
    exact g_callV (As := []) (st := []) dX12_term_57 clX12_166 sh535 rfl rfl (Nat.le_of_ble_eq_true rfl) (rmSH (by decide) (by decide)) (h1 q1)
  · refine g_bipush (v := 13) dX12_term_51 (by decide) ?_
    refine g_goto 72 dX12_term_53 (by decide) ?_
    refine g_istore_n (ls2 := [(1, .int (13 : Int32)), (0, .ref 535)]) dX12_term_72 rfl (by decide) rfl ?_
    refine g_aload_n 1 dX12_term_73 rfl rfl ?_
    refine g_dup dX12_term_74 rfl ?_
    refine g_getI dX12_term_75 fl12_163 sh535 ?_
    refine g_iconst (v := 1) dX12_term_78 (by decide) ?_
    refine g_iadd dX12_term_79 ?_
    refine g_putI dX12_term_80 fl12_163 (fun h => by cases h) sh535 ?_
    refine g_aload_n 1 dX12_term_83 rfl rfl ?_
    refine g_ls [1, 0] (ls2 := [(0, .ref 535), (1, .int (13 : Int32))]) rfl ?_
    exact g_callV (As := []) (st := []) dX12_term_84 clX12_222 sh535 rfl rfl (Nat.le_of_ble_eq_true rfl) (rmSH (by decide) (by decide)) (h2 q1)
theorem bX12_term_28 {X : pX} {Q : Option Value → pMem → Prop} {m : pMem} {xs0 : Int32} (hW : Wf m)
    (h1 : xs0 = (47 : Int32) → Cl X 0 mX12_sign [.ref 535] m (fun v m2 => Go X 7 mX12_term Q 46 [(0, .ref 535)] (v.toList ++ []) m2))
    (h2 : ¬ (xs0 = (47 : Int32)) → Cl X 0 mX12_sign [.ref 535] m (fun v m2 => Go X 7 mX12_term Q 37 [(0, .ref 535)] (v.toList ++ []) m2)) :
    Go X 7 mX12_term Q 28 [(0, .ref 535)] [.int xs0] m := by
  refine g_bipush (v := 47) dX12_term_28 (by decide) ?_
  refine g_icmp_eq 42 dX12_term_30 (by decide) (fun q1 => ?_) (fun q1 => ?_)
  · refine g_aload_n 0 dX12_term_42 rfl rfl ?_
    exact g_callV (As := []) (st := []) dX12_term_43 clX12_166 sh535 rfl rfl (Nat.le_of_ble_eq_true rfl) (rmSH (by decide) (by decide)) (h1 q1)
  · refine g_aload_n 0 dX12_term_33 rfl rfl ?_
    exact g_callV (As := []) (st := []) dX12_term_34 clX12_166 sh535 rfl rfl (Nat.le_of_ble_eq_true rfl) (rmSH (by decide) (by decide)) (h2 q1)
theorem bX12_term_60 {X : pX} {Q : Option Value → pMem → Prop} {m : pMem} {xs0 : Int32} (hW : Wf m)
    (h1 : ¬ xs0 = (47 : Int32) → Cl X 6 mX12_value [.ref 535] (uI m 535 20 ((mI m 535 20) + (1 : Int32))) (fun v m2 => Go X 7 mX12_term Q 87 [(0, .ref 535), (1, .int (15 : Int32))] (v.toList ++ []) m2))
    (h2 : xs0 = (47 : Int32) → Cl X 6 mX12_value [.ref 535] (uI m 535 20 ((mI m 535 20) + (1 : Int32))) (fun v m2 => Go X 7 mX12_term Q 87 [(0, .ref 535), (1, .int (14 : Int32))] (v.toList ++ []) m2)) :
    Go X 7 mX12_term Q 60 [(0, .ref 535)] [.int xs0] m := by
  refine g_bipush (v := 47) dX12_term_60 (by decide) ?_
  refine g_icmp_ne 70 dX12_term_62 (by decide) (fun q1 => ?_) (fun q1 => ?_)
  · refine g_bipush (v := 15) dX12_term_70 (by decide) ?_
    refine g_istore_n (ls2 := [(1, .int (15 : Int32)), (0, .ref 535)]) dX12_term_72 rfl (by decide) rfl ?_
    refine g_aload_n 1 dX12_term_73 rfl rfl ?_
    refine g_dup dX12_term_74 rfl ?_
    refine g_getI dX12_term_75 fl12_163 sh535 ?_
    refine g_iconst (v := 1) dX12_term_78 (by decide) ?_
    refine g_iadd dX12_term_79 ?_
    refine g_putI dX12_term_80 fl12_163 (fun h => by cases h) sh535 ?_
    refine g_aload_n 1 dX12_term_83 rfl rfl ?_
    refine g_ls [1, 0] (ls2 := [(0, .ref 535), (1, .int (15 : Int32))]) rfl ?_
    exact g_callV (As := []) (st := []) dX12_term_84 clX12_222 sh535 rfl rfl (Nat.le_of_ble_eq_true rfl) (rmSH (by decide) (by decide)) (h1 q1)
  · refine g_bipush (v := 14) dX12_term_65 (by decide) ?_
    refine g_goto 72 dX12_term_67 (by decide) ?_
    refine g_istore_n (ls2 := [(1, .int (14 : Int32)), (0, .ref 535)]) dX12_term_72 rfl (by decide) rfl ?_
    refine g_aload_n 1 dX12_term_73 rfl rfl ?_
    refine g_dup dX12_term_74 rfl ?_
    refine g_getI dX12_term_75 fl12_163 sh535 ?_
    refine g_iconst (v := 1) dX12_term_78 (by decide) ?_
    refine g_iadd dX12_term_79 ?_
    refine g_putI dX12_term_80 fl12_163 (fun h => by cases h) sh535 ?_
    refine g_aload_n 1 dX12_term_83 rfl rfl ?_
    refine g_ls [1, 0] (ls2 := [(0, .ref 535), (1, .int (14 : Int32))]) rfl ?_
    exact g_callV (As := []) (st := []) dX12_term_84 clX12_222 sh535 rfl rfl (Nat.le_of_ble_eq_true rfl) (rmSH (by decide) (by decide)) (h2 q1)
theorem bX12_term_87 {X : pX} {Q : Option Value → pMem → Prop} {m : pMem} {x1 : Int32} (hW : Wf m)
    (h1 : Cl X 0 mX12_entry [.ref 535, .int x1, .int (0 : Int32)] m (fun v m2 => Go X 7 mX12_term Q 93 [(0, .ref 535), (1, .int x1)] (v.toList ++ []) m2)) :
    Go X 7 mX12_term Q 87 [(0, .ref 535), (1, .int x1)] [] m := by
  refine g_aload_n 0 dX12_term_87 rfl rfl ?_
  refine g_iload_n 1 dX12_term_88 rfl rfl ?_
  refine g_iconst (v := 0) dX12_term_89 (by decide) ?_
  exact g_callV (As := [.int x1, .int (0 : Int32)]) (st := []) dX12_term_90 clX12_215 sh535 rfl rfl (Nat.le_of_ble_eq_true rfl) (rmSH (by decide) (by decide)) h1
theorem bX12_term_37 {X : pX} {Q : Option Value → pMem → Prop} {m : pMem} {xs0 : Int32} (hW : Wf m)
    (h1 : ¬ xs0 = (37 : Int32) → Q none m)
    (h2 : xs0 = (37 : Int32) → Cl X 0 mX12_sign [.ref 535] m (fun v m2 => Go X 7 mX12_term Q 46 [(0, .ref 535)] (v.toList ++ []) m2)) :
    Go X 7 mX12_term Q 37 [(0, .ref 535)] [.int xs0] m := by
  refine g_bipush (v := 37) dX12_term_37 (by decide) ?_
  refine g_icmp_ne 100 dX12_term_39 (by decide) (fun q1 => ?_) (fun q1 => ?_)
  · exact g_vret dX12_term_100 rfl enSH (h1 q1)
  · refine g_aload_n 0 dX12_term_42 rfl rfl ?_
    exact g_callV (As := []) (st := []) dX12_term_43 clX12_166 sh535 rfl rfl (Nat.le_of_ble_eq_true rfl) (rmSH (by decide) (by decide)) (h2 q1)
theorem bX12_term_93 {X : pX} {Q : Option Value → pMem → Prop} {m : pMem} {x1 : Int32} (hW : Wf m)
    (h1 : Cl X 1 mX12_blanks [.ref 535] m (fun v m2 => Go X 7 mX12_term Q 97 [(0, .ref 535), (1, .int x1)] (v.toList ++ []) m2)) :
    Go X 7 mX12_term Q 93 [(0, .ref 535), (1, .int x1)] [] m := by
  refine g_aload_n 0 dX12_term_93 rfl rfl ?_
  exact g_callV (As := []) (st := []) dX12_term_94 clX12_183 sh535 rfl rfl (Nat.le_of_ble_eq_true rfl) (rmSH (by decide) (by decide)) h1
theorem bX12_term_97 {X : pX} {Q : Option Value → pMem → Prop} {m : pMem} {x1 : Int32} (hW : Wf m)
    (h1 : Go X 7 mX12_term Q 8 [(0, .ref 535)] [] m) :
    Go X 7 mX12_term Q 97 [(0, .ref 535), (1, .int x1)] [] m := by
  refine g_goto 8 dX12_term_97 (by decide) ?_
  exact g_ls [0] rfl h1
theorem bX12_sum_0 {X : pX} {Q : Option Value → pMem → Prop} {m : pMem} (hW : Wf m)
    (h1 : Cl X 7 mX12_term [.ref 535] m (fun v m2 => Go X 8 mX12_sum Q 4 [(0, .ref 535)] (v.toList ++ []) m2)) :
    Go X 8 mX12_sum Q 0 [(0, .ref 535)] [] m := by
  refine g_aload_n 0 dX12_sum_0 rfl rfl ?_
  exact g_callV (As := []) (st := []) dX12_sum_1 clX12_225 sh535 rfl rfl (Nat.le_of_ble_eq_true rfl) (rmSH (by decide) (by decide)) h1
theorem bX12_sum_4 {X : pX} {Q : Option Value → pMem → Prop} {m : pMem} (hW : Wf m)
    (h1 : ¬ (mI m 535 21) = 0 → Q none m)
    (h2 : (mI m 535 21) = 0 → Cl X 0 mX12_sign [.ref 535] m (fun v m2 => Go X 8 mX12_sum Q 15 [(0, .ref 535)] (v.toList ++ []) m2)) :
    Go X 8 mX12_sum Q 4 [(0, .ref 535)] [] m := by
  refine g_aload_n 0 dX12_sum_4 rfl rfl ?_
  refine g_getI dX12_sum_5 fl12_160 sh535 ?_
  refine g_if_ne 67 dX12_sum_8 (by decide) (fun q1 => ?_) (fun q1 => ?_)
  · exact g_vret dX12_sum_67 rfl enSH (h1 q1)
  · refine g_aload_n 0 dX12_sum_11 rfl rfl ?_
    exact g_callV (As := []) (st := []) dX12_sum_12 clX12_166 sh535 rfl rfl (Nat.le_of_ble_eq_true rfl) (rmSH (by decide) (by decide)) (h2 q1)
theorem bX12_sum_15 {X : pX} {Q : Option Value → pMem → Prop} {m : pMem} {xs0 : Int32} (hW : Wf m)
    (h1 : xs0 = (43 : Int32) → Cl X 0 mX12_sign [.ref 535] m (fun v m2 => Go X 8 mX12_sum Q 33 [(0, .ref 535)] (v.toList ++ []) m2))
    (h2 : ¬ (xs0 = (43 : Int32)) → Cl X 0 mX12_sign [.ref 535] m (fun v m2 => Go X 8 mX12_sum Q 24 [(0, .ref 535)] (v.toList ++ []) m2)) :
    Go X 8 mX12_sum Q 15 [(0, .ref 535)] [.int xs0] m := by
  refine g_bipush (v := 43) dX12_sum_15 (by decide) ?_
  refine g_icmp_eq 29 dX12_sum_17 (by decide) (fun q1 => ?_) (fun q1 => ?_)
  · refine g_aload_n 0 dX12_sum_29 rfl rfl ?_
    exact g_callV (As := []) (st := []) dX12_sum_30 clX12_166 sh535 rfl rfl (Nat.le_of_ble_eq_true rfl) (rmSH (by decide) (by decide)) (h1 q1)
  · refine g_aload_n 0 dX12_sum_20 rfl rfl ?_
    exact g_callV (As := []) (st := []) dX12_sum_21 clX12_166 sh535 rfl rfl (Nat.le_of_ble_eq_true rfl) (rmSH (by decide) (by decide)) (h2 q1)
theorem bX12_sum_33 {X : pX} {Q : Option Value → pMem → Prop} {m : pMem} {xs0 : Int32} (hW : Wf m)
    (h1 : ¬ xs0 = (43 : Int32) → Cl X 7 mX12_term [.ref 535] (uI m 535 20 ((mI m 535 20) + (1 : Int32))) (fun v m2 => Go X 8 mX12_sum Q 58 [(0, .ref 535), (1, .int (3 : Int32))] (v.toList ++ []) m2))
    (h2 : xs0 = (43 : Int32) → Cl X 7 mX12_term [.ref 535] (uI m 535 20 ((mI m 535 20) + (1 : Int32))) (fun v m2 => Go X 8 mX12_sum Q 58 [(0, .ref 535), (1, .int (2 : Int32))] (v.toList ++ []) m2)) :
    Go X 8 mX12_sum Q 33 [(0, .ref 535)] [.int xs0] m := by
  refine g_bipush (v := 43) dX12_sum_33 (by decide) ?_
  refine g_icmp_ne 42 dX12_sum_35 (by decide) (fun q1 => ?_) (fun q1 => ?_)
  · refine g_iconst (v := 3) dX12_sum_42 (by decide) ?_
    refine g_istore_n (ls2 := [(1, .int (3 : Int32)), (0, .ref 535)]) dX12_sum_43 rfl (by decide) rfl ?_
    refine g_aload_n 1 dX12_sum_44 rfl rfl ?_
    refine g_dup dX12_sum_45 rfl ?_
    refine g_getI dX12_sum_46 fl12_163 sh535 ?_
    refine g_iconst (v := 1) dX12_sum_49 (by decide) ?_
    refine g_iadd dX12_sum_50 ?_
    refine g_putI dX12_sum_51 fl12_163 (fun h => by cases h) sh535 ?_
    refine g_aload_n 1 dX12_sum_54 rfl rfl ?_
    refine g_ls [1, 0] (ls2 := [(0, .ref 535), (1, .int (3 : Int32))]) rfl ?_
    exact g_callV (As := []) (st := []) dX12_sum_55 clX12_225 sh535 rfl rfl (Nat.le_of_ble_eq_true rfl) (rmSH (by decide) (by decide)) (h1 q1)
  · refine g_iconst (v := 2) dX12_sum_38 (by decide) ?_
    refine g_goto 43 dX12_sum_39 (by decide) ?_
    refine g_istore_n (ls2 := [(1, .int (2 : Int32)), (0, .ref 535)]) dX12_sum_43 rfl (by decide) rfl ?_
    refine g_aload_n 1 dX12_sum_44 rfl rfl ?_
    refine g_dup dX12_sum_45 rfl ?_
    refine g_getI dX12_sum_46 fl12_163 sh535 ?_
    refine g_iconst (v := 1) dX12_sum_49 (by decide) ?_
    refine g_iadd dX12_sum_50 ?_
    refine g_putI dX12_sum_51 fl12_163 (fun h => by cases h) sh535 ?_
    refine g_aload_n 1 dX12_sum_54 rfl rfl ?_
    refine g_ls [1, 0] (ls2 := [(0, .ref 535), (1, .int (2 : Int32))]) rfl ?_
    exact g_callV (As := []) (st := []) dX12_sum_55 clX12_225 sh535 rfl rfl (Nat.le_of_ble_eq_true rfl) (rmSH (by decide) (by decide)) (h2 q1)
theorem bX12_sum_24 {X : pX} {Q : Option Value → pMem → Prop} {m : pMem} {xs0 : Int32} (hW : Wf m)
    (h1 : ¬ xs0 = (45 : Int32) → Q none m)
    (h2 : xs0 = (45 : Int32) → Cl X 0 mX12_sign [.ref 535] m (fun v m2 => Go X 8 mX12_sum Q 33 [(0, .ref 535)] (v.toList ++ []) m2)) :
    Go X 8 mX12_sum Q 24 [(0, .ref 535)] [.int xs0] m := by
  refine g_bipush (v := 45) dX12_sum_24 (by decide) ?_
  refine g_icmp_ne 67 dX12_sum_26 (by decide) (fun q1 => ?_) (fun q1 => ?_)
  · exact g_vret dX12_sum_67 rfl enSH (h1 q1)
  · refine g_aload_n 0 dX12_sum_29 rfl rfl ?_
    exact g_callV (As := []) (st := []) dX12_sum_30 clX12_166 sh535 rfl rfl (Nat.le_of_ble_eq_true rfl) (rmSH (by decide) (by decide)) (h2 q1)
theorem bX12_sum_58 {X : pX} {Q : Option Value → pMem → Prop} {m : pMem} {x1 : Int32} (hW : Wf m)
    (h1 : Cl X 0 mX12_entry [.ref 535, .int x1, .int (0 : Int32)] m (fun v m2 => Go X 8 mX12_sum Q 64 [(0, .ref 535), (1, .int x1)] (v.toList ++ []) m2)) :
    Go X 8 mX12_sum Q 58 [(0, .ref 535), (1, .int x1)] [] m := by
  refine g_aload_n 0 dX12_sum_58 rfl rfl ?_
  refine g_iload_n 1 dX12_sum_59 rfl rfl ?_
  refine g_iconst (v := 0) dX12_sum_60 (by decide) ?_
  exact g_callV (As := [.int x1, .int (0 : Int32)]) (st := []) dX12_sum_61 clX12_215 sh535 rfl rfl (Nat.le_of_ble_eq_true rfl) (rmSH (by decide) (by decide)) h1
theorem bX12_sum_64 {X : pX} {Q : Option Value → pMem → Prop} {m : pMem} {x1 : Int32} (hW : Wf m)
    (h1 : Go X 8 mX12_sum Q 4 [(0, .ref 535)] [] m) :
    Go X 8 mX12_sum Q 64 [(0, .ref 535), (1, .int x1)] [] m := by
  refine g_goto 4 dX12_sum_64 (by decide) ?_
  exact g_ls [0] rfl h1
theorem bX12_compared_0 {X : pX} {Q : Option Value → pMem → Prop} {m : pMem} (hW : Wf m)
    (h1 : Cl X 8 mX12_sum [.ref 535] m (fun v m2 => Go X 9 mX12_compared Q 4 [(0, .ref 535)] (v.toList ++ []) m2)) :
    Go X 9 mX12_compared Q 0 [(0, .ref 535)] [] m := by
  refine g_aload_n 0 dX12_compared_0 rfl rfl ?_
  exact g_callV (As := []) (st := []) dX12_compared_1 clX12_228 sh535 rfl rfl (Nat.le_of_ble_eq_true rfl) (rmSH (by decide) (by decide)) h1
theorem bX12_compared_4 {X : pX} {Q : Option Value → pMem → Prop} {m : pMem} (hW : Wf m)
    (h1 : Cl X 0 mX12_sign [.ref 535] m (fun v m2 => Go X 9 mX12_compared Q 8 [(0, .ref 535)] (v.toList ++ []) m2)) :
    Go X 9 mX12_compared Q 4 [(0, .ref 535)] [] m := by
  refine g_aload_n 0 dX12_compared_4 rfl rfl ?_
  exact g_callV (As := []) (st := []) dX12_compared_5 clX12_166 sh535 rfl rfl (Nat.le_of_ble_eq_true rfl) (rmSH (by decide) (by decide)) h1
theorem bX12_compared_8 {X : pX} {Q : Option Value → pMem → Prop} {m : pMem} {xs0 : Int32} (hW : Wf m)
    (h1 : xs0 = (60 : Int32) → Cl X 1 mX12_isCounted [.ref 535, .int (mI m 535 20)] m (fun v m2 => Go X 9 mX12_compared Q 45 [(0, .ref 535), (1, .int xs0)] (v.toList ++ []) m2))
    (h2 : ¬ (xs0 = (60 : Int32)) → xs0 = (61 : Int32) → Cl X 1 mX12_isCounted [.ref 535, .int (mI m 535 20)] m (fun v m2 => Go X 9 mX12_compared Q 45 [(0, .ref 535), (1, .int xs0)] (v.toList ++ []) m2))
    (h3 : ¬ (xs0 = (60 : Int32)) → ¬ (xs0 = (61 : Int32)) → xs0 = (62 : Int32) → Cl X 1 mX12_isCounted [.ref 535, .int (mI m 535 20)] m (fun v m2 => Go X 9 mX12_compared Q 45 [(0, .ref 535), (1, .int xs0)] (v.toList ++ []) m2))
    (h4 : ¬ (xs0 = (60 : Int32)) → ¬ (xs0 = (61 : Int32)) → ¬ (xs0 = (62 : Int32)) → Cl X 0 mX12_fails [.ref 535, .int (0 : Int32), .int (mI m 535 20)] m (fun v m2 => Go X 9 mX12_compared Q 36 [(0, .ref 535), (1, .int xs0)] (v.toList ++ []) m2)) :
    Go X 9 mX12_compared Q 8 [(0, .ref 535)] [.int xs0] m := by
  refine g_istore_n (ls2 := [(1, .int xs0), (0, .ref 535)]) dX12_compared_8 rfl (by decide) rfl ?_
  refine g_iload_n 0 dX12_compared_9 rfl rfl ?_
  refine g_bipush (v := 60) dX12_compared_10 (by decide) ?_
  refine g_icmp_eq 37 dX12_compared_12 (by decide) (fun q1 => ?_) (fun q1 => ?_)
  · refine g_aload_n 1 dX12_compared_37 rfl rfl ?_
    refine g_aload_n 1 dX12_compared_38 rfl rfl ?_
    refine g_getI dX12_compared_39 fl12_163 sh535 ?_
    refine g_ls [1, 0] (ls2 := [(0, .ref 535), (1, .int xs0)]) rfl ?_
    exact g_callV (As := [.int (mI m 535 20)]) (st := []) dX12_compared_42 clX12_212 sh535 rfl rfl (Nat.le_of_ble_eq_true rfl) (rmSH (by decide) (by decide)) (h1 q1)
  · refine g_iload_n 0 dX12_compared_15 rfl rfl ?_
    refine g_bipush (v := 61) dX12_compared_16 (by decide) ?_
    refine g_icmp_eq 37 dX12_compared_18 (by decide) (fun q2 => ?_) (fun q2 => ?_)
    · refine g_aload_n 1 dX12_compared_37 rfl rfl ?_
      refine g_aload_n 1 dX12_compared_38 rfl rfl ?_
      refine g_getI dX12_compared_39 fl12_163 sh535 ?_
      refine g_ls [1, 0] (ls2 := [(0, .ref 535), (1, .int xs0)]) rfl ?_
      exact g_callV (As := [.int (mI m 535 20)]) (st := []) dX12_compared_42 clX12_212 sh535 rfl rfl (Nat.le_of_ble_eq_true rfl) (rmSH (by decide) (by decide)) (h2 q1 q2)
    · refine g_iload_n 0 dX12_compared_21 rfl rfl ?_
      refine g_bipush (v := 62) dX12_compared_22 (by decide) ?_
      refine g_icmp_eq 37 dX12_compared_24 (by decide) (fun q3 => ?_) (fun q3 => ?_)
      · refine g_aload_n 1 dX12_compared_37 rfl rfl ?_
        refine g_aload_n 1 dX12_compared_38 rfl rfl ?_
        refine g_getI dX12_compared_39 fl12_163 sh535 ?_
        refine g_ls [1, 0] (ls2 := [(0, .ref 535), (1, .int xs0)]) rfl ?_
        exact g_callV (As := [.int (mI m 535 20)]) (st := []) dX12_compared_42 clX12_212 sh535 rfl rfl (Nat.le_of_ble_eq_true rfl) (rmSH (by decide) (by decide)) (h3 q1 q2 q3)
      · refine g_aload_n 1 dX12_compared_27 rfl rfl ?_
        refine g_iconst (v := 0) dX12_compared_28 (by decide) ?_
        refine g_aload_n 1 dX12_compared_29 rfl rfl ?_
        refine g_getI dX12_compared_30 fl12_163 sh535 ?_
        refine g_ls [1, 0] (ls2 := [(0, .ref 535), (1, .int xs0)]) rfl ?_
        exact g_callV (As := [.int (0 : Int32), .int (mI m 535 20)]) (st := []) dX12_compared_33 clX12_199 sh535 rfl rfl (Nat.le_of_ble_eq_true rfl) (rmSH (by decide) (by decide)) (h4 q1 q2 q3)
theorem bX12_compared_45 {X : pX} {Q : Option Value → pMem → Prop} {m : pMem} {x1 : Int32} (hW : Wf m)
    (h1 : x1 = (61 : Int32) → Go X 9 mX12_compared Q 74 [(0, .ref 535), (1, .int x1)] [] (uI m 535 20 ((mI m 535 20) + (1 : Int32))))
    (h2 : ¬ (x1 = (61 : Int32)) → Cl X 0 mX12_sign [.ref 535] (uI m 535 20 ((mI m 535 20) + (1 : Int32))) (fun v m2 => Go X 9 mX12_compared Q 65 [(0, .ref 535), (1, .int x1)] (v.toList ++ []) m2)) :
    Go X 9 mX12_compared Q 45 [(0, .ref 535), (1, .int x1)] [] m := by
  refine g_aload_n 0 dX12_compared_45 rfl rfl ?_
  refine g_dup dX12_compared_46 rfl ?_
  refine g_getI dX12_compared_47 fl12_163 sh535 ?_
  refine g_iconst (v := 1) dX12_compared_50 (by decide) ?_
  refine g_iadd dX12_compared_51 ?_
  refine g_putI dX12_compared_52 fl12_163 (fun h => by cases h) sh535 ?_
  refine g_iload_n 1 dX12_compared_55 rfl rfl ?_
  refine g_bipush (v := 61) dX12_compared_56 (by decide) ?_
  refine g_icmp_eq 74 dX12_compared_58 (by decide) (fun q1 => ?_) (fun q1 => ?_)
  · exact g_ls [0, 1] rfl (h1 q1)
  · refine g_aload_n 0 dX12_compared_61 rfl rfl ?_
    exact g_callV (As := []) (st := []) dX12_compared_62 clX12_166 sh535 rfl rfl (Nat.le_of_ble_eq_true rfl) (rmSH (by decide) (by decide)) (h2 q1)
theorem bX12_compared_36 {X : pX} {Q : Option Value → pMem → Prop} {m : pMem} {x1 : Int32} (hW : Wf m)
    (h1 : Q none m) :
    Go X 9 mX12_compared Q 36 [(0, .ref 535), (1, .int x1)] [] m := by
  exact g_vret dX12_compared_36 rfl enSH h1
theorem bX12_compared_74 {X : pX} {Q : Option Value → pMem → Prop} {m : pMem} {x1 : Int32} (hW : Wf m)
    (h1 : Go X 9 mX12_compared Q 75 [(0, .ref 535), (1, .int x1)] [.int (0 : Int32)] m) :
    Go X 9 mX12_compared Q 74 [(0, .ref 535), (1, .int x1)] [] m := by
  refine g_iconst (v := 0) dX12_compared_74 (by decide) ?_
  exact g_ls [0, 1] rfl h1
theorem bX12_compared_65 {X : pX} {Q : Option Value → pMem → Prop} {m : pMem} {x1 : Int32} {xs0 : Int32} (hW : Wf m)
    (h1 : ¬ xs0 = (61 : Int32) → Go X 9 mX12_compared Q 74 [(0, .ref 535), (1, .int x1)] [] m)
    (h2 : xs0 = (61 : Int32) → Go X 9 mX12_compared Q 75 [(0, .ref 535), (1, .int x1)] [.int (1 : Int32)] m) :
    Go X 9 mX12_compared Q 65 [(0, .ref 535), (1, .int x1)] [.int xs0] m := by
  refine g_bipush (v := 61) dX12_compared_65 (by decide) ?_
  refine g_icmp_ne 74 dX12_compared_67 (by decide) (fun q1 => ?_) (fun q1 => ?_)
  · exact g_ls [0, 1] rfl (h1 q1)
  · refine g_iconst (v := 1) dX12_compared_70 (by decide) ?_
    refine g_goto 75 dX12_compared_71 (by decide) ?_
    exact g_ls [0, 1] rfl (h2 q1)
theorem bX12_compared_75 {X : pX} {Q : Option Value → pMem → Prop} {m : pMem} {x1 : Int32} (hW : Wf m)
    (h1 : Cl X 8 mX12_sum [.ref 535] (uI m 535 20 ((mI m 535 20) + (0 : Int32))) (fun v m2 => Go X 9 mX12_compared Q 98 [(0, .ref 535), (1, .int x1), (2, .int (0 : Int32))] (v.toList ++ []) m2)) :
    Go X 9 mX12_compared Q 75 [(0, .ref 535), (1, .int x1)] [.int (0 : Int32)] m := by
  refine g_istore_n (ls2 := [(2, .int (0 : Int32)), (0, .ref 535), (1, .int x1)]) dX12_compared_75 rfl (by decide) rfl ?_
  refine g_aload_n 1 dX12_compared_76 rfl rfl ?_
  refine g_dup dX12_compared_77 rfl ?_
  refine g_getI dX12_compared_78 fl12_163 sh535 ?_
  refine g_iload_n 0 dX12_compared_81 rfl rfl ?_
  refine g_if_eq 89 dX12_compared_82 (by decide) (fun q1 => ?_) (fun q1 => absurd q1 (by decide))
  refine g_iconst (v := 0) dX12_compared_89 (by decide) ?_
  refine g_iadd dX12_compared_90 ?_
  refine g_putI dX12_compared_91 fl12_163 (fun h => by cases h) sh535 ?_
  refine g_aload_n 1 dX12_compared_94 rfl rfl ?_
  refine g_ls [1, 2, 0] (ls2 := [(0, .ref 535), (1, .int x1), (2, .int (0 : Int32))]) rfl ?_
  exact g_callV (As := []) (st := []) dX12_compared_95 clX12_228 sh535 rfl rfl (Nat.le_of_ble_eq_true rfl) (rmSH (by decide) (by decide)) h1
theorem bX12_compared_75v1 {X : pX} {Q : Option Value → pMem → Prop} {m : pMem} {x1 : Int32} (hW : Wf m)
    (h1 : Cl X 8 mX12_sum [.ref 535] (uI m 535 20 ((mI m 535 20) + (1 : Int32))) (fun v m2 => Go X 9 mX12_compared Q 98 [(0, .ref 535), (1, .int x1), (2, .int (1 : Int32))] (v.toList ++ []) m2)) :
    Go X 9 mX12_compared Q 75 [(0, .ref 535), (1, .int x1)] [.int (1 : Int32)] m := by
  refine g_istore_n (ls2 := [(2, .int (1 : Int32)), (0, .ref 535), (1, .int x1)]) dX12_compared_75 rfl (by decide) rfl ?_
  refine g_aload_n 1 dX12_compared_76 rfl rfl ?_
  refine g_dup dX12_compared_77 rfl ?_
  refine g_getI dX12_compared_78 fl12_163 sh535 ?_
  refine g_iload_n 0 dX12_compared_81 rfl rfl ?_
  refine g_if_eq 89 dX12_compared_82 (by decide) (fun q1 => absurd q1 (by decide)) (fun q1 => ?_)
  refine g_iconst (v := 1) dX12_compared_85 (by decide) ?_
  refine g_goto 90 dX12_compared_86 (by decide) ?_
  refine g_iadd dX12_compared_90 ?_
  refine g_putI dX12_compared_91 fl12_163 (fun h => by cases h) sh535 ?_
  refine g_aload_n 1 dX12_compared_94 rfl rfl ?_
  refine g_ls [1, 2, 0] (ls2 := [(0, .ref 535), (1, .int x1), (2, .int (1 : Int32))]) rfl ?_
  exact g_callV (As := []) (st := []) dX12_compared_95 clX12_228 sh535 rfl rfl (Nat.le_of_ble_eq_true rfl) (rmSH (by decide) (by decide)) h1
theorem bX12_compared_98 {X : pX} {Q : Option Value → pMem → Prop} {m : pMem} {x1 : Int32} {x2 : Int32} (hW : Wf m)
    (h1 : ¬ x1 = (61 : Int32) → ¬ x1 = (60 : Int32) → x2 = 0 → Cl X 0 mX12_entry [.ref 535, .int (8 : Int32), .int (0 : Int32)] m (fun v m2 => Go X 9 mX12_compared Q 143 [(0, .ref 535), (1, .int x1), (2, .int x2)] (v.toList ++ []) m2))
    (h2 : ¬ x1 = (61 : Int32) → ¬ x1 = (60 : Int32) → ¬ (x2 = 0) → Cl X 0 mX12_entry [.ref 535, .int (7 : Int32), .int (0 : Int32)] m (fun v m2 => Go X 9 mX12_compared Q 143 [(0, .ref 535), (1, .int x1), (2, .int x2)] (v.toList ++ []) m2))
    (h3 : ¬ x1 = (61 : Int32) → x1 = (60 : Int32) → x2 = 0 → Cl X 0 mX12_entry [.ref 535, .int (4 : Int32), .int (0 : Int32)] m (fun v m2 => Go X 9 mX12_compared Q 143 [(0, .ref 535), (1, .int x1), (2, .int x2)] (v.toList ++ []) m2))
    (h4 : ¬ x1 = (61 : Int32) → x1 = (60 : Int32) → ¬ (x2 = 0) → Cl X 0 mX12_entry [.ref 535, .int (5 : Int32), .int (0 : Int32)] m (fun v m2 => Go X 9 mX12_compared Q 143 [(0, .ref 535), (1, .int x1), (2, .int x2)] (v.toList ++ []) m2))
    (h5 : x1 = (61 : Int32) → Cl X 0 mX12_entry [.ref 535, .int (6 : Int32), .int (0 : Int32)] m (fun v m2 => Go X 9 mX12_compared Q 143 [(0, .ref 535), (1, .int x1), (2, .int x2)] (v.toList ++ []) m2)) :
    Go X 9 mX12_compared Q 98 [(0, .ref 535), (1, .int x1), (2, .int x2)] [] m := by
  refine g_aload_n 0 dX12_compared_98 rfl rfl ?_
  refine g_iload_n 1 dX12_compared_99 rfl rfl ?_
  refine g_bipush (v := 61) dX12_compared_100 (by decide) ?_
  refine g_icmp_ne 110 dX12_compared_102 (by decide) (fun q1 => ?_) (fun q1 => ?_)
  · refine g_iload_n 1 dX12_compared_110 rfl rfl ?_
    refine g_bipush (v := 60) dX12_compared_111 (by decide) ?_
    refine g_icmp_ne 128 dX12_compared_113 (by decide) (fun q2 => ?_) (fun q2 => ?_)
    · refine g_iload_n 2 dX12_compared_128 rfl rfl ?_
      refine g_if_eq 137 dX12_compared_129 (by decide) (fun q3 => ?_) (fun q3 => ?_)
      · refine g_bipush (v := 8) dX12_compared_137 (by decide) ?_
        refine g_iconst (v := 0) dX12_compared_139 (by decide) ?_
        exact g_callV (As := [.int (8 : Int32), .int (0 : Int32)]) (st := []) dX12_compared_140 clX12_215 sh535 rfl rfl (Nat.le_of_ble_eq_true rfl) (rmSH (by decide) (by decide)) (h1 q1 q2 q3)
      · refine g_bipush (v := 7) dX12_compared_132 (by decide) ?_
        refine g_goto 139 dX12_compared_134 (by decide) ?_
        refine g_iconst (v := 0) dX12_compared_139 (by decide) ?_
        exact g_callV (As := [.int (7 : Int32), .int (0 : Int32)]) (st := []) dX12_compared_140 clX12_215 sh535 rfl rfl (Nat.le_of_ble_eq_true rfl) (rmSH (by decide) (by decide)) (h2 q1 q2 q3)
    · refine g_iload_n 2 dX12_compared_116 rfl rfl ?_
      refine g_if_eq 124 dX12_compared_117 (by decide) (fun q4 => ?_) (fun q4 => ?_)
      · refine g_iconst (v := 4) dX12_compared_124 (by decide) ?_
        refine g_goto 139 dX12_compared_125 (by decide) ?_
        refine g_iconst (v := 0) dX12_compared_139 (by decide) ?_
        exact g_callV (As := [.int (4 : Int32), .int (0 : Int32)]) (st := []) dX12_compared_140 clX12_215 sh535 rfl rfl (Nat.le_of_ble_eq_true rfl) (rmSH (by decide) (by decide)) (h3 q1 q2 q4)
      · refine g_iconst (v := 5) dX12_compared_120 (by decide) ?_
        refine g_goto 139 dX12_compared_121 (by decide) ?_
        refine g_iconst (v := 0) dX12_compared_139 (by decide) ?_
        exact g_callV (As := [.int (5 : Int32), .int (0 : Int32)]) (st := []) dX12_compared_140 clX12_215 sh535 rfl rfl (Nat.le_of_ble_eq_true rfl) (rmSH (by decide) (by decide)) (h4 q1 q2 q4)
  · refine g_bipush (v := 6) dX12_compared_105 (by decide) ?_
    refine g_goto 139 dX12_compared_107 (by decide) ?_
    refine g_iconst (v := 0) dX12_compared_139 (by decide) ?_
    exact g_callV (As := [.int (6 : Int32), .int (0 : Int32)]) (st := []) dX12_compared_140 clX12_215 sh535 rfl rfl (Nat.le_of_ble_eq_true rfl) (rmSH (by decide) (by decide)) (h5 q1)
theorem bX12_compared_143 {X : pX} {Q : Option Value → pMem → Prop} {m : pMem} {x1 : Int32} {x2 : Int32} (hW : Wf m)
    (h1 : Q none m) :
    Go X 9 mX12_compared Q 143 [(0, .ref 535), (1, .int x1), (2, .int x2)] [] m := by
  exact g_vret dX12_compared_143 rfl enSH h1
theorem bX12_opens_0 {X : pX} {Q : Option Value → pMem → Prop} {m : pMem} {x1 : Int32} (hW : Wf m)
    (h1 : x1 = (9 : Int32) → Go X 1 mX12_opens Q 12 [(0, .ref 535), (1, .int x1)] [] m)
    (h2 : ¬ (x1 = (9 : Int32)) → ¬ x1 = (12 : Int32) → Go X 1 mX12_opens Q 40 [(0, .ref 535), (1, .int x1)] [] m)
    (h3 : ¬ (x1 = (9 : Int32)) → x1 = (12 : Int32) → Go X 1 mX12_opens Q 12 [(0, .ref 535), (1, .int x1)] [] m) :
    Go X 1 mX12_opens Q 0 [(0, .ref 535), (1, .int x1)] [] m := by
  refine g_iload_n 1 dX12_opens_0 rfl rfl ?_
  refine g_bipush (v := 9) dX12_opens_1 (by decide) ?_
  refine g_icmp_eq 12 dX12_opens_3 (by decide) (fun q1 => ?_) (fun q1 => ?_)
  · exact g_ls [0, 1] rfl (h1 q1)
  · refine g_iload_n 1 dX12_opens_6 rfl rfl ?_
    refine g_bipush (v := 12) dX12_opens_7 (by decide) ?_
    refine g_icmp_ne 40 dX12_opens_9 (by decide) (fun q2 => ?_) (fun q2 => ?_)
    · exact g_ls [0, 1] rfl (h2 q1 q2)
    · exact g_ls [0, 1] rfl (h3 q1 q2)
theorem bX12_opens_12 {X : pX} {Q : Option Value → pMem → Prop} {m : pMem} {x1 : Int32} (hW : Wf m)
    (h1 : ¬ (mI m 535 25) = (10 : Int32) → Go X 1 mX12_opens Q 40 [(0, .ref 535), (1, .int x1)] [] (uI m 535 25 ((mI m 535 25) + (1 : Int32))))
    (h2 : (mI m 535 25) = (10 : Int32) → Cl X 0 mX12_fails [.ref 535, .int (2 : Int32), .int (mI m 535 20)] m (fun v m2 => Go X 1 mX12_opens Q 30 [(0, .ref 535), (1, .int x1)] (v.toList ++ []) m2)) :
    Go X 1 mX12_opens Q 12 [(0, .ref 535), (1, .int x1)] [] m := by
  refine g_aload_n 0 dX12_opens_12 rfl rfl ?_
  refine g_getI dX12_opens_13 fl12_234 sh535 ?_
  refine g_bipush (v := 10) dX12_opens_16 (by decide) ?_
  refine g_icmp_ne 30 dX12_opens_18 (by decide) (fun q1 => ?_) (fun q1 => ?_)
  · refine g_aload_n 0 dX12_opens_30 rfl rfl ?_
    refine g_dup dX12_opens_31 rfl ?_
    refine g_getI dX12_opens_32 fl12_234 sh535 ?_
    refine g_iconst (v := 1) dX12_opens_35 (by decide) ?_
    refine g_iadd dX12_opens_36 ?_
    refine g_putI dX12_opens_37 fl12_234 (fun h => by cases h) sh535 ?_
    exact g_ls [0, 1] rfl (h1 q1)
  · refine g_aload_n 0 dX12_opens_21 rfl rfl ?_
    refine g_iconst (v := 2) dX12_opens_22 (by decide) ?_
    refine g_aload_n 0 dX12_opens_23 rfl rfl ?_
    refine g_getI dX12_opens_24 fl12_163 sh535 ?_
    exact g_callV (As := [.int (2 : Int32), .int (mI m 535 20)]) (st := []) dX12_opens_27 clX12_199 sh535 rfl rfl (Nat.le_of_ble_eq_true rfl) (rmSH (by decide) (by decide)) (h2 q1)
theorem bX12_opens_40 {X : pX} {Q : Option Value → pMem → Prop} {m : pMem} {x1 : Int32} (hW : Wf m)
    (h1 : vp_in (mI m 535 27) 402)
    (h2 : Q none (uI (uI m 561 ((mI m 535 27).toNatClampNeg) x1) 535 27 ((mI m 535 27) + (1 : Int32)))) :
    Go X 1 mX12_opens Q 40 [(0, .ref 535), (1, .int x1)] [] m := by
  refine g_aload_n 0 dX12_opens_40 rfl rfl ?_
  refine g_getR dX12_opens_41 fl12_90 rfl sh535 (w12_36 hW sh535) ?_
  refine g_aload_n 0 dX12_opens_44 rfl rfl ?_
  refine g_getI dX12_opens_45 fl12_231 sh535 ?_
  refine g_iload_n 1 dX12_opens_48 rfl rfl ?_
  refine g_iast (j := (mI m 535 27).toNatClampNeg) dX12_opens_49 (s12_36 sh535) h1 rfl ?_
  refine g_aload_n 0 dX12_opens_50 rfl rfl ?_
  refine g_dup dX12_opens_51 rfl ?_
  refine g_getI dX12_opens_52 fl12_231 sh535 ?_
  refine g_iconst (v := 1) dX12_opens_55 (by decide) ?_
  refine g_iadd dX12_opens_56 ?_
  refine g_putI dX12_opens_57 fl12_231 (fun h => by cases h) sh535 ?_
  exact g_vret dX12_opens_60 rfl enSH h2
theorem bX12_opens_30 {X : pX} {Q : Option Value → pMem → Prop} {m : pMem} {x1 : Int32} (hW : Wf m)
    (h1 : Go X 1 mX12_opens Q 40 [(0, .ref 535), (1, .int x1)] [] (uI m 535 25 ((mI m 535 25) + (1 : Int32)))) :
    Go X 1 mX12_opens Q 30 [(0, .ref 535), (1, .int x1)] [] m := by
  refine g_aload_n 0 dX12_opens_30 rfl rfl ?_
  refine g_dup dX12_opens_31 rfl ?_
  refine g_getI dX12_opens_32 fl12_234 sh535 ?_
  refine g_iconst (v := 1) dX12_opens_35 (by decide) ?_
  refine g_iadd dX12_opens_36 ?_
  refine g_putI dX12_opens_37 fl12_234 (fun h => by cases h) sh535 ?_
  exact g_ls [0, 1] rfl h1
theorem bX12_answers_0 {X : pX} {Q : Option Value → pMem → Prop} {m : pMem} {x1 : Int32} (hW : Wf m)
    (h1 : Cl X 0 mX12_top [.ref 535] m (fun v m2 => Go X 1 mX12_answers Q 4 [(0, .ref 535), (1, .int x1)] (v.toList ++ []) m2)) :
    Go X 1 mX12_answers Q 0 [(0, .ref 535), (1, .int x1)] [] m := by
  refine g_aload_n 0 dX12_answers_0 rfl rfl ?_
  exact g_callV (As := []) (st := []) dX12_answers_1 clX12_237 sh535 rfl rfl (Nat.le_of_ble_eq_true rfl) (rmSH (by decide) (by decide)) h1
theorem bX12_answers_4 {X : pX} {Q : Option Value → pMem → Prop} {m : pMem} {x1 : Int32} {xs0 : Int32} (hW : Wf m)
    (h1 : ¬ xs0 = x1 → Q none m)
    (h2 : xs0 = x1 → ¬ (mI m 535 21) = 0 → Q none m)
    (h3 : xs0 = x1 → (mI m 535 21) = 0 → Cl X 0 mX12_entry [.ref 535, .int x1, .int (0 : Int32)] m (fun v m2 => Go X 1 mX12_answers Q 21 [(0, .ref 535), (1, .int x1)] (v.toList ++ []) m2)) :
    Go X 1 mX12_answers Q 4 [(0, .ref 535), (1, .int x1)] [.int xs0] m := by
  refine g_iload_n 1 dX12_answers_4 rfl rfl ?_
  refine g_icmp_ne 54 dX12_answers_5 (by decide) (fun q1 => ?_) (fun q1 => ?_)
  · exact g_vret dX12_answers_54 rfl enSH (h1 q1)
  · refine g_aload_n 0 dX12_answers_8 rfl rfl ?_
    refine g_getI dX12_answers_9 fl12_160 sh535 ?_
    refine g_if_ne 54 dX12_answers_12 (by decide) (fun q2 => ?_) (fun q2 => ?_)
    · exact g_vret dX12_answers_54 rfl enSH (h2 q1 q2)
    · refine g_aload_n 0 dX12_answers_15 rfl rfl ?_
      refine g_iload_n 1 dX12_answers_16 rfl rfl ?_
      refine g_iconst (v := 0) dX12_answers_17 (by decide) ?_
      exact g_callV (As := [.int x1, .int (0 : Int32)]) (st := []) dX12_answers_18 clX12_215 sh535 rfl rfl (Nat.le_of_ble_eq_true rfl) (rmSH (by decide) (by decide)) (h3 q1 q2)
theorem bX12_answers_21 {X : pX} {Q : Option Value → pMem → Prop} {m : pMem} {x1 : Int32} (hW : Wf m)
    (h1 : ¬ x1 = (9 : Int32) → Go X 1 mX12_answers Q 0 [(0, .ref 535), (1, .int x1)] [] (uI (uI m 535 27 ((mI m 535 27) - (1 : Int32))) 535 25 ((mI m 535 25) - (0 : Int32))))
    (h2 : x1 = (9 : Int32) → Go X 1 mX12_answers Q 0 [(0, .ref 535), (1, .int x1)] [] (uI (uI m 535 27 ((mI m 535 27) - (1 : Int32))) 535 25 ((mI m 535 25) - (1 : Int32)))) :
    Go X 1 mX12_answers Q 21 [(0, .ref 535), (1, .int x1)] [] m := by
  refine g_aload_n 0 dX12_answers_21 rfl rfl ?_
  refine g_dup dX12_answers_22 rfl ?_
  refine g_getI dX12_answers_23 fl12_231 sh535 ?_
  refine g_iconst (v := 1) dX12_answers_26 (by decide) ?_
  refine g_isub dX12_answers_27 ?_
  refine g_putI dX12_answers_28 fl12_231 (fun h => by cases h) sh535 ?_
  refine g_aload_n 0 dX12_answers_31 rfl rfl ?_
  refine g_dup dX12_answers_32 rfl ?_
  refine g_getI dX12_answers_33 fl12_234 sh535 ?_
  refine g_iload_n 1 dX12_answers_36 rfl rfl ?_
  refine g_bipush (v := 9) dX12_answers_37 (by decide) ?_
  refine g_icmp_ne 46 dX12_answers_39 (by decide) (fun q1 => ?_) (fun q1 => ?_)
  · refine g_iconst (v := 0) dX12_answers_46 (by decide) ?_
    refine g_isub dX12_answers_47 ?_
    refine g_putI dX12_answers_48 fl12_234 (fun h => by cases h) sh535 ?_
    refine g_goto 0 dX12_answers_51 (by decide) ?_
    exact g_ls [0, 1] rfl (h1 q1)
  · refine g_iconst (v := 1) dX12_answers_42 (by decide) ?_
    refine g_goto 47 dX12_answers_43 (by decide) ?_
    refine g_isub dX12_answers_47 ?_
    refine g_putI dX12_answers_48 fl12_234 (fun h => by cases h) sh535 ?_
    refine g_goto 0 dX12_answers_51 (by decide) ?_
    exact g_ls [0, 1] rfl (h2 q1)
theorem bX12_fact_0 {X : pX} {Q : Option Value → pMem → Prop} {m : pMem} (hW : Wf m)
    (h1 : Cl X 1 mX12_blanks [.ref 535] m (fun v m2 => Go X 10 mX12_fact Q 4 [(0, .ref 535)] (v.toList ++ []) m2)) :
    Go X 10 mX12_fact Q 0 [(0, .ref 535)] [] m := by
  refine g_aload_n 0 dX12_fact_0 rfl rfl ?_
  exact g_callV (As := []) (st := []) dX12_fact_1 clX12_183 sh535 rfl rfl (Nat.le_of_ble_eq_true rfl) (rmSH (by decide) (by decide)) h1
theorem bX12_fact_4 {X : pX} {Q : Option Value → pMem → Prop} {m : pMem} (hW : Wf m)
    (h1 : Cl X 5 mX12_stood [.ref 535, .retAddr 20] m (fun v m2 => Go X 10 mX12_fact Q 10 [(0, .ref 535)] (v.toList ++ []) m2)) :
    Go X 10 mX12_fact Q 4 [(0, .ref 535)] [] m := by
  refine g_aload_n 0 dX12_fact_4 rfl rfl ?_
  refine g_ldcS 19 (by decide) rfl rfl dX12_fact_5 ?_
  exact g_callV (As := [.retAddr 20]) (st := []) dX12_fact_7 clX12_186 sh535 rfl rfl (Nat.le_of_ble_eq_true rfl) (rmSH (by decide) (by decide)) h1
theorem bX12_fact_10 {X : pX} {Q : Option Value → pMem → Prop} {m : pMem} {xs0 : Int32} (hW : Wf m)
    (h1 : xs0 = 0 → Cl X 0 mX12_sign [.ref 535] m (fun v m2 => Go X 10 mX12_fact Q 35 [(0, .ref 535)] (v.toList ++ []) m2))
    (h2 : ¬ (xs0 = 0) → Cl X 1 mX12_opens [.ref 535, .int (9 : Int32)] m (fun v m2 => Go X 10 mX12_fact Q 19 [(0, .ref 535)] (v.toList ++ []) m2)) :
    Go X 10 mX12_fact Q 10 [(0, .ref 535)] [.int xs0] m := by
  refine g_if_eq 31 dX12_fact_10 (by decide) (fun q1 => ?_) (fun q1 => ?_)
  · refine g_aload_n 0 dX12_fact_31 rfl rfl ?_
    exact g_callV (As := []) (st := []) dX12_fact_32 clX12_166 sh535 rfl rfl (Nat.le_of_ble_eq_true rfl) (rmSH (by decide) (by decide)) (h1 q1)
  · refine g_aload_n 0 dX12_fact_13 rfl rfl ?_
    refine g_bipush (v := 9) dX12_fact_14 (by decide) ?_
    exact g_callV (As := [.int (9 : Int32)]) (st := []) dX12_fact_16 clX12_242 sh535 rfl rfl (Nat.le_of_ble_eq_true rfl) (rmSH (by decide) (by decide)) (h2 q1)
theorem bX12_fact_35 {X : pX} {Q : Option Value → pMem → Prop} {m : pMem} {xs0 : Int32} (hW : Wf m)
    (h1 : ¬ xs0 = (91 : Int32) → Cl X 9 mX12_compared [.ref 535] m (fun v m2 => Go X 10 mX12_fact Q 62 [(0, .ref 535)] (v.toList ++ []) m2))
    (h2 : xs0 = (91 : Int32) → Cl X 1 mX12_opens [.ref 535, .int (12 : Int32)] m (fun v m2 => Go X 10 mX12_fact Q 46 [(0, .ref 535)] (v.toList ++ []) m2)) :
    Go X 10 mX12_fact Q 35 [(0, .ref 535)] [.int xs0] m := by
  refine g_bipush (v := 91) dX12_fact_35 (by decide) ?_
  refine g_icmp_ne 58 dX12_fact_37 (by decide) (fun q1 => ?_) (fun q1 => ?_)
  · refine g_aload_n 0 dX12_fact_58 rfl rfl ?_
    exact g_callV (As := []) (st := []) dX12_fact_59 clX12_245 sh535 rfl rfl (Nat.le_of_ble_eq_true rfl) (rmSH (by decide) (by decide)) (h1 q1)
  · refine g_aload_n 0 dX12_fact_40 rfl rfl ?_
    refine g_bipush (v := 12) dX12_fact_41 (by decide) ?_
    exact g_callV (As := [.int (12 : Int32)]) (st := []) dX12_fact_43 clX12_242 sh535 rfl rfl (Nat.le_of_ble_eq_true rfl) (rmSH (by decide) (by decide)) (h2 q1)
theorem bX12_fact_19 {X : pX} {Q : Option Value → pMem → Prop} {m : pMem} (hW : Wf m)
    (h1 : Q (some (.int (0 : Int32))) (uI m 535 20 ((mI m 535 20) + (3 : Int32)))) :
    Go X 10 mX12_fact Q 19 [(0, .ref 535)] [] m := by
  refine g_aload_n 0 dX12_fact_19 rfl rfl ?_
  refine g_dup dX12_fact_20 rfl ?_
  refine g_getI dX12_fact_21 fl12_163 sh535 ?_
  refine g_iconst (v := 3) dX12_fact_24 (by decide) ?_
  refine g_iadd dX12_fact_25 ?_
  refine g_putI dX12_fact_26 fl12_163 (fun h => by cases h) sh535 ?_
  refine g_iconst (v := 0) dX12_fact_29 (by decide) ?_
  exact g_bret dX12_fact_30 rfl (Or.inl rfl) enSH h1
theorem bX12_fact_62 {X : pX} {Q : Option Value → pMem → Prop} {m : pMem} (hW : Wf m)
    (h1 : Q (some (.int (1 : Int32))) m) :
    Go X 10 mX12_fact Q 62 [(0, .ref 535)] [] m := by
  refine g_iconst (v := 1) dX12_fact_62 (by decide) ?_
  exact g_bret dX12_fact_63 rfl (Or.inr rfl) enSH h1
theorem bX12_fact_46 {X : pX} {Q : Option Value → pMem → Prop} {m : pMem} (hW : Wf m)
    (h1 : Q (some (.int (0 : Int32))) (uI m 535 20 ((mI m 535 20) + (1 : Int32)))) :
    Go X 10 mX12_fact Q 46 [(0, .ref 535)] [] m := by
  refine g_aload_n 0 dX12_fact_46 rfl rfl ?_
  refine g_dup dX12_fact_47 rfl ?_
  refine g_getI dX12_fact_48 fl12_163 sh535 ?_
  refine g_iconst (v := 1) dX12_fact_51 (by decide) ?_
  refine g_iadd dX12_fact_52 ?_
  refine g_putI dX12_fact_53 fl12_163 (fun h => by cases h) sh535 ?_
  refine g_iconst (v := 0) dX12_fact_56 (by decide) ?_
  exact g_bret dX12_fact_57 rfl (Or.inl rfl) enSH h1
theorem bX12_test_0 {X : pX} {Q : Option Value → pMem → Prop} {m : pMem} (hW : Wf m)
    (h1 : Go X 11 mX12_test Q 9 [(0, .ref 535), (1, .int (1 : Int32)), (2, .int (1 : Int32))] [] (uI m 535 27 (0 : Int32))) :
    Go X 11 mX12_test Q 0 [(0, .ref 535)] [] m := by
  refine g_aload_n 0 dX12_test_0 rfl rfl ?_
  refine g_iconst (v := 0) dX12_test_1 (by decide) ?_
  refine g_putI dX12_test_2 fl12_231 (fun h => by cases h) sh535 ?_
  refine g_iconst (v := 1) dX12_test_5 (by decide) ?_
  refine g_istore_n (ls2 := [(1, .int (1 : Int32)), (0, .ref 535)]) dX12_test_6 rfl (by decide) rfl ?_
  refine g_iconst (v := 1) dX12_test_7 (by decide) ?_
  refine g_istore_n (ls2 := [(2, .int (1 : Int32)), (1, .int (1 : Int32)), (0, .ref 535)]) dX12_test_8 rfl (by decide) rfl ?_
  exact g_ls [2, 1, 0] rfl h1
theorem bX12_test_9 {X : pX} {Q : Option Value → pMem → Prop} {m : pMem} {x1 : Int32} {x2 : Int32} (hW : Wf m)
    (h1 : x2 = 0 → Q none m)
    (h2 : ¬ (x2 = 0) → ¬ (mI m 535 21) = 0 → Q none m)
    (h3 : ¬ (x2 = 0) → (mI m 535 21) = 0 → x1 = 0 → Cl X 1 mX12_answers [.ref 535, .int (9 : Int32)] m (fun v m2 => Go X 11 mX12_test Q 46 [(0, .ref 535), (1, .int x1), (2, .int x2)] (v.toList ++ []) m2))
    (h4 : ¬ (x2 = 0) → (mI m 535 21) = 0 → ¬ (x1 = 0) → Cl X 10 mX12_fact [.ref 535] m (fun v m2 => Go X 11 mX12_test Q 28 [(0, .ref 535), (1, .int x1), (2, .int x2)] (v.toList ++ []) m2)) :
    Go X 11 mX12_test Q 9 [(0, .ref 535), (1, .int x1), (2, .int x2)] [] m := by
  refine g_iload_n 2 dX12_test_9 rfl rfl ?_
  refine g_if_eq 201 dX12_test_10 (by decide) (fun q1 => ?_) (fun q1 => ?_)
  · exact g_vret dX12_test_201 rfl enSH (h1 q1)
  · refine g_aload_n 0 dX12_test_13 rfl rfl ?_
    refine g_getI dX12_test_14 fl12_160 sh535 ?_
    refine g_if_ne 201 dX12_test_17 (by decide) (fun q2 => ?_) (fun q2 => ?_)
    · exact g_vret dX12_test_201 rfl enSH (h2 q1 q2)
    · refine g_iload_n 1 dX12_test_20 rfl rfl ?_
      refine g_if_eq 40 dX12_test_21 (by decide) (fun q3 => ?_) (fun q3 => ?_)
      · refine g_aload_n 0 dX12_test_40 rfl rfl ?_
        refine g_bipush (v := 9) dX12_test_41 (by decide) ?_
        exact g_callV (As := [.int (9 : Int32)]) (st := []) dX12_test_43 clX12_251 sh535 rfl rfl (Nat.le_of_ble_eq_true rfl) (rmSH (by decide) (by decide)) (h3 q1 q2 q3)
      · refine g_aload_n 0 dX12_test_24 rfl rfl ?_
        exact g_callV (As := []) (st := []) dX12_test_25 clX12_248 sh535 rfl rfl (Nat.le_of_ble_eq_true rfl) (rmSH (by decide) (by decide)) (h4 q1 q2 q3)
theorem bX12_test_46 {X : pX} {Q : Option Value → pMem → Prop} {m : pMem} {x1 : Int32} {x2 : Int32} (hW : Wf m)
    (h1 : Cl X 1 mX12_blanks [.ref 535] m (fun v m2 => Go X 11 mX12_test Q 50 [(0, .ref 535), (1, .int x1), (2, .int x2)] (v.toList ++ []) m2)) :
    Go X 11 mX12_test Q 46 [(0, .ref 535), (1, .int x1), (2, .int x2)] [] m := by
  refine g_aload_n 0 dX12_test_46 rfl rfl ?_
  exact g_callV (As := []) (st := []) dX12_test_47 clX12_183 sh535 rfl rfl (Nat.le_of_ble_eq_true rfl) (rmSH (by decide) (by decide)) h1
theorem bX12_test_28 {X : pX} {Q : Option Value → pMem → Prop} {m : pMem} {x1 : Int32} {x2 : Int32} {xs0 : Int32} (hW : Wf m)
    (h1 : ¬ xs0 = 0 → Go X 11 mX12_test Q 9 [(0, .ref 535), (1, .int (0 : Int32)), (2, .int x2)] [] m)
    (h2 : xs0 = 0 → Go X 11 mX12_test Q 9 [(0, .ref 535), (1, .int (1 : Int32)), (2, .int x2)] [] m) :
    Go X 11 mX12_test Q 28 [(0, .ref 535), (1, .int x1), (2, .int x2)] [.int xs0] m := by
  refine g_if_ne 35 dX12_test_28 (by decide) (fun q1 => ?_) (fun q1 => ?_)
  · refine g_iconst (v := 0) dX12_test_35 (by decide) ?_
    refine g_istore_n (ls2 := [(1, .int (0 : Int32)), (0, .ref 535), (2, .int x2)]) dX12_test_36 rfl (by decide) rfl ?_
    refine g_goto 9 dX12_test_37 (by decide) ?_
    exact g_ls [1, 0, 2] rfl (h1 q1)
  · refine g_iconst (v := 1) dX12_test_31 (by decide) ?_
    refine g_goto 36 dX12_test_32 (by decide) ?_
    refine g_istore_n (ls2 := [(1, .int (1 : Int32)), (0, .ref 535), (2, .int x2)]) dX12_test_36 rfl (by decide) rfl ?_
    refine g_goto 9 dX12_test_37 (by decide) ?_
    exact g_ls [1, 0, 2] rfl (h2 q1)
theorem bX12_test_50 {X : pX} {Q : Option Value → pMem → Prop} {m : pMem} {x1 : Int32} {x2 : Int32} (hW : Wf m)
    (h1 : Cl X 5 mX12_stood [.ref 535, .retAddr 21] m (fun v m2 => Go X 11 mX12_test Q 56 [(0, .ref 535), (1, .int x1), (2, .int x2)] (v.toList ++ []) m2)) :
    Go X 11 mX12_test Q 50 [(0, .ref 535), (1, .int x1), (2, .int x2)] [] m := by
  refine g_aload_n 0 dX12_test_50 rfl rfl ?_
  refine g_ldcS 20 (by decide) rfl rfl dX12_test_51 ?_
  exact g_callV (As := [.retAddr 21]) (st := []) dX12_test_53 clX12_186 sh535 rfl rfl (Nat.le_of_ble_eq_true rfl) (rmSH (by decide) (by decide)) h1
theorem bX12_test_56 {X : pX} {Q : Option Value → pMem → Prop} {m : pMem} {x1 : Int32} {x2 : Int32} {xs0 : Int32} (hW : Wf m)
    (h1 : Cl X 5 mX12_stood [.ref 535, .retAddr 22] m (fun v m2 => Go X 11 mX12_test Q 64 [(0, .ref 535), (1, .int x1), (2, .int x2), (3, .int xs0)] (v.toList ++ []) m2)) :
    Go X 11 mX12_test Q 56 [(0, .ref 535), (1, .int x1), (2, .int x2)] [.int xs0] m := by
  refine g_istore_n (ls2 := [(3, .int xs0), (0, .ref 535), (1, .int x1), (2, .int x2)]) dX12_test_56 rfl (by decide) rfl ?_
  refine g_aload_n 1 dX12_test_57 rfl rfl ?_
  refine g_ldcwS 21 (by decide) rfl rfl dX12_test_58 ?_
  refine g_ls [1, 2, 3, 0] (ls2 := [(0, .ref 535), (1, .int x1), (2, .int x2), (3, .int xs0)]) rfl ?_
  exact g_callV (As := [.retAddr 22]) (st := []) dX12_test_61 clX12_186 sh535 rfl rfl (Nat.le_of_ble_eq_true rfl) (rmSH (by decide) (by decide)) h1
theorem bX12_test_64 {X : pX} {Q : Option Value → pMem → Prop} {m : pMem} {x1 : Int32} {x2 : Int32} {x3 : Int32} {xs0 : Int32} (hW : Wf m)
    (h1 : Cl X 1 mX12_answers [.ref 535, .int (10 : Int32)] m (fun v m2 => Go X 11 mX12_test Q 72 [(0, .ref 535), (1, .int x1), (2, .int x2), (3, .int x3), (4, .int xs0)] (v.toList ++ []) m2)) :
    Go X 11 mX12_test Q 64 [(0, .ref 535), (1, .int x1), (2, .int x2), (3, .int x3)] [.int xs0] m := by
  refine g_istore (ls2 := [(4, .int xs0), (0, .ref 535), (1, .int x1), (2, .int x2), (3, .int x3)]) dX12_test_64 (by decide) rfl ?_
  refine g_aload_n 1 dX12_test_66 rfl rfl ?_
  refine g_bipush (v := 10) dX12_test_67 (by decide) ?_
  refine g_ls [1, 2, 3, 4, 0] (ls2 := [(0, .ref 535), (1, .int x1), (2, .int x2), (3, .int x3), (4, .int xs0)]) rfl ?_
  exact g_callV (As := [.int (10 : Int32)]) (st := []) dX12_test_69 clX12_251 sh535 rfl rfl (Nat.le_of_ble_eq_true rfl) (rmSH (by decide) (by decide)) h1
theorem bX12_test_72 {X : pX} {Q : Option Value → pMem → Prop} {m : pMem} {x1 : Int32} {x2 : Int32} {x3 : Int32} {x4 : Int32} (hW : Wf m)
    (h1 : ¬ x3 = 0 → Go X 11 mX12_test Q 81 [(0, .ref 535), (2, .int x2), (3, .int x3), (4, .int x4)] [] m)
    (h2 : x3 = 0 → x4 = 0 → Cl X 1 mX12_answers [.ref 535, .int (11 : Int32)] m (fun v m2 => Go X 11 mX12_test Q 136 [(0, .ref 535), (1, .int x1), (2, .int x2), (3, .int x3), (4, .int x4)] (v.toList ++ []) m2))
    (h3 : x3 = 0 → ¬ (x4 = 0) → Go X 11 mX12_test Q 81 [(0, .ref 535), (2, .int x2), (3, .int x3), (4, .int x4)] [] m) :
    Go X 11 mX12_test Q 72 [(0, .ref 535), (1, .int x1), (2, .int x2), (3, .int x3), (4, .int x4)] [] m := by
  refine g_iload_n 3 dX12_test_72 rfl rfl ?_
  refine g_if_ne 81 dX12_test_73 (by decide) (fun q1 => ?_) (fun q1 => ?_)
  · exact g_ls [0, 2, 3, 4] rfl (h1 q1)
  · refine g_iload 4 dX12_test_76 rfl ?_
    refine g_if_eq 130 dX12_test_78 (by decide) (fun q2 => ?_) (fun q2 => ?_)
    · refine g_aload_n 0 dX12_test_130 rfl rfl ?_
      refine g_bipush (v := 11) dX12_test_131 (by decide) ?_
      exact g_callV (As := [.int (11 : Int32)]) (st := []) dX12_test_133 clX12_251 sh535 rfl rfl (Nat.le_of_ble_eq_true rfl) (rmSH (by decide) (by decide)) (h2 q1 q2)
    · exact g_ls [0, 2, 3, 4] rfl (h3 q1 q2)
theorem bX12_test_81 {X : pX} {Q : Option Value → pMem → Prop} {m : pMem} {x2 : Int32} {x3 : Int32} {x4 : Int32} (hW : Wf m)
    (h1 : x4 = 0 → Go X 11 mX12_test Q 92 [(0, .ref 535), (2, .int x2), (3, .int x3)] [] m)
    (h2 : ¬ (x4 = 0) → Cl X 1 mX12_answers [.ref 535, .int (11 : Int32)] m (fun v m2 => Go X 11 mX12_test Q 92 [(0, .ref 535), (2, .int x2), (3, .int x3), (4, .int x4)] (v.toList ++ []) m2)) :
    Go X 11 mX12_test Q 81 [(0, .ref 535), (2, .int x2), (3, .int x3), (4, .int x4)] [] m := by
  refine g_iload 3 dX12_test_81 rfl ?_
  refine g_if_eq 92 dX12_test_83 (by decide) (fun q1 => ?_) (fun q1 => ?_)
  · exact g_ls [0, 1, 2] rfl (h1 q1)
  · refine g_aload_n 0 dX12_test_86 rfl rfl ?_
    refine g_bipush (v := 11) dX12_test_87 (by decide) ?_
    exact g_callV (As := [.int (11 : Int32)]) (st := []) dX12_test_89 clX12_251 sh535 rfl rfl (Nat.le_of_ble_eq_true rfl) (rmSH (by decide) (by decide)) (h2 q1)
theorem bX12_test_136 {X : pX} {Q : Option Value → pMem → Prop} {m : pMem} {x1 : Int32} {x2 : Int32} {x3 : Int32} {x4 : Int32} (hW : Wf m)
    (h1 : Cl X 0 mX12_top [.ref 535] m (fun v m2 => Go X 11 mX12_test Q 140 [(0, .ref 535), (1, .int x1), (2, .int x2), (3, .int x3), (4, .int x4)] (v.toList ++ []) m2)) :
    Go X 11 mX12_test Q 136 [(0, .ref 535), (1, .int x1), (2, .int x2), (3, .int x3), (4, .int x4)] [] m := by
  refine g_aload_n 0 dX12_test_136 rfl rfl ?_
  exact g_callV (As := []) (st := []) dX12_test_137 clX12_237 sh535 rfl rfl (Nat.le_of_ble_eq_true rfl) (rmSH (by decide) (by decide)) h1
theorem bX12_test_92 {X : pX} {Q : Option Value → pMem → Prop} {m : pMem} {x2 : Int32} {x3 : Int32} (hW : Wf m)
    (h1 : x3 = 0 → Cl X 1 mX12_opens [.ref 535, .int (11 : Int32)] m (fun v m2 => Go X 11 mX12_test Q 107 [(0, .ref 535), (2, .int x2), (3, .int x3)] (v.toList ++ []) m2))
    (h2 : ¬ (x3 = 0) → Cl X 1 mX12_opens [.ref 535, .int (10 : Int32)] m (fun v m2 => Go X 11 mX12_test Q 107 [(0, .ref 535), (2, .int x2), (3, .int x3)] (v.toList ++ []) m2)) :
    Go X 11 mX12_test Q 92 [(0, .ref 535), (2, .int x2), (3, .int x3)] [] m := by
  refine g_aload_n 0 dX12_test_92 rfl rfl ?_
  refine g_iload_n 2 dX12_test_93 rfl rfl ?_
  refine g_if_eq 102 dX12_test_94 (by decide) (fun q1 => ?_) (fun q1 => ?_)
  · refine g_bipush (v := 11) dX12_test_102 (by decide) ?_
    exact g_callV (As := [.int (11 : Int32)]) (st := []) dX12_test_104 clX12_242 sh535 rfl rfl (Nat.le_of_ble_eq_true rfl) (rmSH (by decide) (by decide)) (h1 q1)
  · refine g_bipush (v := 10) dX12_test_97 (by decide) ?_
    refine g_goto 104 dX12_test_99 (by decide) ?_
    exact g_callV (As := [.int (10 : Int32)]) (st := []) dX12_test_104 clX12_242 sh535 rfl rfl (Nat.le_of_ble_eq_true rfl) (rmSH (by decide) (by decide)) (h2 q1)
theorem bX12_test_92v1 {X : pX} {Q : Option Value → pMem → Prop} {m : pMem} {x2 : Int32} {x3 : Int32} {x4 : Int32} (hW : Wf m)
    (h1 : x3 = 0 → Cl X 1 mX12_opens [.ref 535, .int (11 : Int32)] m (fun v m2 => Go X 11 mX12_test Q 107 [(0, .ref 535), (2, .int x2), (3, .int x3), (4, .int x4)] (v.toList ++ []) m2))
    (h2 : ¬ (x3 = 0) → Cl X 1 mX12_opens [.ref 535, .int (10 : Int32)] m (fun v m2 => Go X 11 mX12_test Q 107 [(0, .ref 535), (2, .int x2), (3, .int x3), (4, .int x4)] (v.toList ++ []) m2)) :
    Go X 11 mX12_test Q 92 [(0, .ref 535), (2, .int x2), (3, .int x3), (4, .int x4)] [] m := by
  refine g_aload_n 0 dX12_test_92 rfl rfl ?_
  refine g_iload_n 2 dX12_test_93 rfl rfl ?_
  refine g_if_eq 102 dX12_test_94 (by decide) (fun q1 => ?_) (fun q1 => ?_)
  · refine g_bipush (v := 11) dX12_test_102 (by decide) ?_
    exact g_callV (As := [.int (11 : Int32)]) (st := []) dX12_test_104 clX12_242 sh535 rfl rfl (Nat.le_of_ble_eq_true rfl) (rmSH (by decide) (by decide)) (h1 q1)
  · refine g_bipush (v := 10) dX12_test_97 (by decide) ?_
    refine g_goto 104 dX12_test_99 (by decide) ?_
    exact g_callV (As := [.int (10 : Int32)]) (st := []) dX12_test_104 clX12_242 sh535 rfl rfl (Nat.le_of_ble_eq_true rfl) (rmSH (by decide) (by decide)) (h2 q1)
theorem bX12_test_140 {X : pX} {Q : Option Value → pMem → Prop} {m : pMem} {x1 : Int32} {x2 : Int32} {x3 : Int32} {x4 : Int32} {xs0 : Int32} (hW : Wf m)
    (h1 : ¬ xs0 = (12 : Int32) → Go X 11 mX12_test Q 9 [(0, .ref 535), (1, .int x1), (2, .int (0 : Int32))] [] m)
    (h2 : xs0 = (12 : Int32) → Cl X 0 mX12_sign [.ref 535] m (fun v m2 => Go X 11 mX12_test Q 149 [(0, .ref 535), (1, .int x1), (2, .int x2), (3, .int x3), (4, .int x4)] (v.toList ++ []) m2)) :
    Go X 11 mX12_test Q 140 [(0, .ref 535), (1, .int x1), (2, .int x2), (3, .int x3), (4, .int x4)] [.int xs0] m := by
  refine g_bipush (v := 12) dX12_test_140 (by decide) ?_
  refine g_icmp_ne 196 dX12_test_142 (by decide) (fun q1 => ?_) (fun q1 => ?_)
  · refine g_iconst (v := 0) dX12_test_196 (by decide) ?_
    refine g_istore_n (ls2 := [(2, .int (0 : Int32)), (0, .ref 535), (1, .int x1), (3, .int x3), (4, .int x4)]) dX12_test_197 rfl (by decide) rfl ?_
    refine g_goto 9 dX12_test_198 (by decide) ?_
    exact g_ls [1, 2, 0] rfl (h1 q1)
  · refine g_aload_n 0 dX12_test_145 rfl rfl ?_
    exact g_callV (As := []) (st := []) dX12_test_146 clX12_166 sh535 rfl rfl (Nat.le_of_ble_eq_true rfl) (rmSH (by decide) (by decide)) (h2 q1)
theorem bX12_test_107 {X : pX} {Q : Option Value → pMem → Prop} {m : pMem} {x2 : Int32} {x3 : Int32} (hW : Wf m)
    (h1 : x3 = 0 → Go X 11 mX12_test Q 9 [(0, .ref 535), (1, .int (1 : Int32)), (2, .int x2)] [] (uI m 535 20 ((mI m 535 20) + (2 : Int32))))
    (h2 : ¬ (x3 = 0) → Go X 11 mX12_test Q 9 [(0, .ref 535), (1, .int (1 : Int32)), (2, .int x2)] [] (uI m 535 20 ((mI m 535 20) + (3 : Int32)))) :
    Go X 11 mX12_test Q 107 [(0, .ref 535), (2, .int x2), (3, .int x3)] [] m := by
  refine g_aload_n 0 dX12_test_107 rfl rfl ?_
  refine g_dup dX12_test_108 rfl ?_
  refine g_getI dX12_test_109 fl12_163 sh535 ?_
  refine g_iload_n 2 dX12_test_112 rfl rfl ?_
  refine g_if_eq 120 dX12_test_113 (by decide) (fun q1 => ?_) (fun q1 => ?_)
  · refine g_iconst (v := 2) dX12_test_120 (by decide) ?_
    refine g_iadd dX12_test_121 ?_
    refine g_putI dX12_test_122 fl12_163 (fun h => by cases h) sh535 ?_
    refine g_iconst (v := 1) dX12_test_125 (by decide) ?_
    refine g_istore_n (ls2 := [(1, .int (1 : Int32)), (0, .ref 535), (2, .int x2), (3, .int x3)]) dX12_test_126 rfl (by decide) rfl ?_
    refine g_goto 198 dX12_test_127 (by decide) ?_
    refine g_goto 9 dX12_test_198 (by decide) ?_
    exact g_ls [1, 0, 2] rfl (h1 q1)
  · refine g_iconst (v := 3) dX12_test_116 (by decide) ?_
    refine g_goto 121 dX12_test_117 (by decide) ?_
    refine g_iadd dX12_test_121 ?_
    refine g_putI dX12_test_122 fl12_163 (fun h => by cases h) sh535 ?_
    refine g_iconst (v := 1) dX12_test_125 (by decide) ?_
    refine g_istore_n (ls2 := [(1, .int (1 : Int32)), (0, .ref 535), (2, .int x2), (3, .int x3)]) dX12_test_126 rfl (by decide) rfl ?_
    refine g_goto 198 dX12_test_127 (by decide) ?_
    refine g_goto 9 dX12_test_198 (by decide) ?_
    exact g_ls [1, 0, 2] rfl (h2 q1)
theorem bX12_test_107v1 {X : pX} {Q : Option Value → pMem → Prop} {m : pMem} {x2 : Int32} {x3 : Int32} {x4 : Int32} (hW : Wf m)
    (h1 : x3 = 0 → Go X 11 mX12_test Q 9 [(0, .ref 535), (1, .int (1 : Int32)), (2, .int x2)] [] (uI m 535 20 ((mI m 535 20) + (2 : Int32))))
    (h2 : ¬ (x3 = 0) → Go X 11 mX12_test Q 9 [(0, .ref 535), (1, .int (1 : Int32)), (2, .int x2)] [] (uI m 535 20 ((mI m 535 20) + (3 : Int32)))) :
    Go X 11 mX12_test Q 107 [(0, .ref 535), (2, .int x2), (3, .int x3), (4, .int x4)] [] m := by
  refine g_aload_n 0 dX12_test_107 rfl rfl ?_
  refine g_dup dX12_test_108 rfl ?_
  refine g_getI dX12_test_109 fl12_163 sh535 ?_
  refine g_iload_n 2 dX12_test_112 rfl rfl ?_
  refine g_if_eq 120 dX12_test_113 (by decide) (fun q1 => ?_) (fun q1 => ?_)
  · refine g_iconst (v := 2) dX12_test_120 (by decide) ?_
    refine g_iadd dX12_test_121 ?_
    refine g_putI dX12_test_122 fl12_163 (fun h => by cases h) sh535 ?_
    refine g_iconst (v := 1) dX12_test_125 (by decide) ?_
    refine g_istore_n (ls2 := [(1, .int (1 : Int32)), (0, .ref 535), (2, .int x2), (3, .int x3), (4, .int x4)]) dX12_test_126 rfl (by decide) rfl ?_
    refine g_goto 198 dX12_test_127 (by decide) ?_
    refine g_goto 9 dX12_test_198 (by decide) ?_
    exact g_ls [1, 0, 2] rfl (h1 q1)
  · refine g_iconst (v := 3) dX12_test_116 (by decide) ?_
    refine g_goto 121 dX12_test_117 (by decide) ?_
    refine g_iadd dX12_test_121 ?_
    refine g_putI dX12_test_122 fl12_163 (fun h => by cases h) sh535 ?_
    refine g_iconst (v := 1) dX12_test_125 (by decide) ?_
    refine g_istore_n (ls2 := [(1, .int (1 : Int32)), (0, .ref 535), (2, .int x2), (3, .int x3), (4, .int x4)]) dX12_test_126 rfl (by decide) rfl ?_
    refine g_goto 198 dX12_test_127 (by decide) ?_
    refine g_goto 9 dX12_test_198 (by decide) ?_
    exact g_ls [1, 0, 2] rfl (h2 q1)
theorem bX12_test_149 {X : pX} {Q : Option Value → pMem → Prop} {m : pMem} {x1 : Int32} {x2 : Int32} {x3 : Int32} {x4 : Int32} {xs0 : Int32} (hW : Wf m)
    (h1 : xs0 = (93 : Int32) → Go X 11 mX12_test Q 163 [(0, .ref 535), (1, .int x1), (2, .int x2)] [] m)
    (h2 : ¬ (xs0 = (93 : Int32)) → Cl X 0 mX12_fails [.ref 535, .int (0 : Int32), .int (mI m 535 20)] m (fun v m2 => Go X 11 mX12_test Q 163 [(0, .ref 535), (1, .int x1), (2, .int x2), (3, .int x3), (4, .int x4)] (v.toList ++ []) m2)) :
    Go X 11 mX12_test Q 149 [(0, .ref 535), (1, .int x1), (2, .int x2), (3, .int x3), (4, .int x4)] [.int xs0] m := by
  refine g_bipush (v := 93) dX12_test_149 (by decide) ?_
  refine g_icmp_eq 163 dX12_test_151 (by decide) (fun q1 => ?_) (fun q1 => ?_)
  · exact g_ls [0, 1, 2] rfl (h1 q1)
  · refine g_aload_n 0 dX12_test_154 rfl rfl ?_
    refine g_iconst (v := 0) dX12_test_155 (by decide) ?_
    refine g_aload_n 0 dX12_test_156 rfl rfl ?_
    refine g_getI dX12_test_157 fl12_163 sh535 ?_
    exact g_callV (As := [.int (0 : Int32), .int (mI m 535 20)]) (st := []) dX12_test_160 clX12_199 sh535 rfl rfl (Nat.le_of_ble_eq_true rfl) (rmSH (by decide) (by decide)) (h2 q1)
theorem bX12_test_163 {X : pX} {Q : Option Value → pMem → Prop} {m : pMem} {x1 : Int32} {x2 : Int32} (hW : Wf m)
    (h1 : Go X 11 mX12_test Q 9 [(0, .ref 535), (1, .int x1), (2, .int x2)] [] (uI (uI (uI m 535 20 ((mI m 535 20) + (1 : Int32))) 535 27 ((mI m 535 27) - (1 : Int32))) 535 25 ((mI m 535 25) - (1 : Int32)))) :
    Go X 11 mX12_test Q 163 [(0, .ref 535), (1, .int x1), (2, .int x2)] [] m := by
  refine g_aload_n 0 dX12_test_163 rfl rfl ?_
  refine g_dup dX12_test_164 rfl ?_
  refine g_getI dX12_test_165 fl12_163 sh535 ?_
  refine g_iconst (v := 1) dX12_test_168 (by decide) ?_
  refine g_iadd dX12_test_169 ?_
  refine g_putI dX12_test_170 fl12_163 (fun h => by cases h) sh535 ?_
  refine g_aload_n 0 dX12_test_173 rfl rfl ?_
  refine g_dup dX12_test_174 rfl ?_
  refine g_getI dX12_test_175 fl12_231 sh535 ?_
  refine g_iconst (v := 1) dX12_test_178 (by decide) ?_
  refine g_isub dX12_test_179 ?_
  refine g_putI dX12_test_180 fl12_231 (fun h => by cases h) sh535 ?_
  refine g_aload_n 0 dX12_test_183 rfl rfl ?_
  refine g_dup dX12_test_184 rfl ?_
  refine g_getI dX12_test_185 fl12_234 sh535 ?_
  refine g_iconst (v := 1) dX12_test_188 (by decide) ?_
  refine g_isub dX12_test_189 ?_
  refine g_putI dX12_test_190 fl12_234 (fun h => by cases h) sh535 ?_
  refine g_goto 198 dX12_test_193 (by decide) ?_
  refine g_goto 9 dX12_test_198 (by decide) ?_
  exact g_ls [0, 1, 2] rfl h1
theorem bX12_test_163v1 {X : pX} {Q : Option Value → pMem → Prop} {m : pMem} {x1 : Int32} {x2 : Int32} {x3 : Int32} {x4 : Int32} (hW : Wf m)
    (h1 : Go X 11 mX12_test Q 9 [(0, .ref 535), (1, .int x1), (2, .int x2)] [] (uI (uI (uI m 535 20 ((mI m 535 20) + (1 : Int32))) 535 27 ((mI m 535 27) - (1 : Int32))) 535 25 ((mI m 535 25) - (1 : Int32)))) :
    Go X 11 mX12_test Q 163 [(0, .ref 535), (1, .int x1), (2, .int x2), (3, .int x3), (4, .int x4)] [] m := by
  refine g_aload_n 0 dX12_test_163 rfl rfl ?_
  refine g_dup dX12_test_164 rfl ?_
  refine g_getI dX12_test_165 fl12_163 sh535 ?_
  refine g_iconst (v := 1) dX12_test_168 (by decide) ?_
  refine g_iadd dX12_test_169 ?_
  refine g_putI dX12_test_170 fl12_163 (fun h => by cases h) sh535 ?_
  refine g_aload_n 0 dX12_test_173 rfl rfl ?_
  refine g_dup dX12_test_174 rfl ?_
  refine g_getI dX12_test_175 fl12_231 sh535 ?_
  refine g_iconst (v := 1) dX12_test_178 (by decide) ?_
  refine g_isub dX12_test_179 ?_
  refine g_putI dX12_test_180 fl12_231 (fun h => by cases h) sh535 ?_
  refine g_aload_n 0 dX12_test_183 rfl rfl ?_
  refine g_dup dX12_test_184 rfl ?_
  refine g_getI dX12_test_185 fl12_234 sh535 ?_
  refine g_iconst (v := 1) dX12_test_188 (by decide) ?_
  refine g_isub dX12_test_189 ?_
  refine g_putI dX12_test_190 fl12_234 (fun h => by cases h) sh535 ?_
  refine g_goto 198 dX12_test_193 (by decide) ?_
  refine g_goto 9 dX12_test_198 (by decide) ?_
  exact g_ls [0, 1, 2] rfl h1
theorem bX12_ruleClause_0 {X : pX} {Q : Option Value → pMem → Prop} {m : pMem} {x1 : Int32} (hW : Wf m)
    (h1 : Cl X 1 mX12_blanks [.ref 535] m (fun v m2 => Go X 12 mX12_ruleClause Q 4 [(0, .ref 535), (1, .int x1)] (v.toList ++ []) m2)) :
    Go X 12 mX12_ruleClause Q 0 [(0, .ref 535), (1, .int x1)] [] m := by
  refine g_aload_n 0 dX12_ruleClause_0 rfl rfl ?_
  exact g_callV (As := []) (st := []) dX12_ruleClause_1 clX12_183 sh535 rfl rfl (Nat.le_of_ble_eq_true rfl) (rmSH (by decide) (by decide)) h1
theorem bX12_ruleClause_4 {X : pX} {Q : Option Value → pMem → Prop} {m : pMem} {x1 : Int32} (hW : Wf m)
    (h1 : Cl X 5 mX12_stood [.ref 535, .retAddr 24] m (fun v m2 => Go X 12 mX12_ruleClause Q 16 [(0, .ref 535), (1, .int x1), (2, .int (mI m 535 20))] (v.toList ++ []) m2)) :
    Go X 12 mX12_ruleClause Q 4 [(0, .ref 535), (1, .int x1)] [] m := by
  refine g_aload_n 0 dX12_ruleClause_4 rfl rfl ?_
  refine g_getI dX12_ruleClause_5 fl12_163 sh535 ?_
  refine g_istore_n (ls2 := [(2, .int (mI m 535 20)), (0, .ref 535), (1, .int x1)]) dX12_ruleClause_8 rfl (by decide) rfl ?_
  refine g_aload_n 1 dX12_ruleClause_9 rfl rfl ?_
  refine g_ldcwS 23 (by decide) rfl rfl dX12_ruleClause_10 ?_
  refine g_ls [1, 2, 0] (ls2 := [(0, .ref 535), (1, .int x1), (2, .int (mI m 535 20))]) rfl ?_
  exact g_callV (As := [.retAddr 24]) (st := []) dX12_ruleClause_13 clX12_186 sh535 rfl rfl (Nat.le_of_ble_eq_true rfl) (rmSH (by decide) (by decide)) h1
theorem bX12_ruleClause_16 {X : pX} {Q : Option Value → pMem → Prop} {m : pMem} {x1 : Int32} {x2 : Int32} {xs0 : Int32} (hW : Wf m)
    (h1 : ¬ xs0 = 0 → ¬ x1 = (12 : Int32) → vp_in (((12 : Int32) * (mI m 535 22)) + x1) 72)
    (h2 : ¬ xs0 = 0 → ¬ x1 = (12 : Int32) → Cl X 8 mX12_sum [.ref 535] (uI (uI m 535 20 ((mI m 535 20) + (5 : Int32))) 558 ((((12 : Int32) * (mI m 535 22)) + x1).toNatClampNeg) (mI m 535 24)) (fun v m2 => Go X 12 mX12_ruleClause Q 73 [(0, .ref 535), (1, .int x1), (2, .int x2), (3, .int (((12 : Int32) * (mI m 535 22)) + x1))] (v.toList ++ []) m2))
    (h3 : ¬ xs0 = 0 → x1 = (12 : Int32) → Cl X 0 mX12_fails [.ref 535, .int (4 : Int32), .int x2] m (fun v m2 => Go X 12 mX12_ruleClause Q 38 [(0, .ref 535), (1, .int x1), (2, .int x2)] (v.toList ++ []) m2))
    (h4 : xs0 = 0 → Cl X 0 mX12_fails [.ref 535, .int (0 : Int32), .int x2] m (fun v m2 => Go X 12 mX12_ruleClause Q 25 [(0, .ref 535), (1, .int x1), (2, .int x2)] (v.toList ++ []) m2)) :
    Go X 12 mX12_ruleClause Q 16 [(0, .ref 535), (1, .int x1), (2, .int x2)] [.int xs0] m := by
  refine g_if_ne 26 dX12_ruleClause_16 (by decide) (fun q1 => ?_) (fun q1 => ?_)
  · refine g_iload_n 1 dX12_ruleClause_26 rfl rfl ?_
    refine g_bipush (v := 12) dX12_ruleClause_27 (by decide) ?_
    refine g_icmp_ne 39 dX12_ruleClause_29 (by decide) (fun q2 => ?_) (fun q2 => ?_)
    · refine g_aload_n 0 dX12_ruleClause_39 rfl rfl ?_
      refine g_dup dX12_ruleClause_40 rfl ?_
      refine g_getI dX12_ruleClause_41 fl12_163 sh535 ?_
      refine g_iconst (v := 5) dX12_ruleClause_44 (by decide) ?_
      refine g_iadd dX12_ruleClause_45 ?_
      refine g_putI dX12_ruleClause_46 fl12_163 (fun h => by cases h) sh535 ?_
      refine g_bipush (v := 12) dX12_ruleClause_49 (by decide) ?_
      refine g_aload_n 0 dX12_ruleClause_51 rfl rfl ?_
      refine g_getI dX12_ruleClause_52 fl12_190 sh535 ?_
      refine g_imul dX12_ruleClause_55 ?_
      refine g_iload_n 1 dX12_ruleClause_56 rfl rfl ?_
      refine g_iadd dX12_ruleClause_57 ?_
      refine g_istore_n (ls2 := [(3, .int (((12 : Int32) * (mI m 535 22)) + x1)), (0, .ref 535), (1, .int x1), (2, .int x2)]) dX12_ruleClause_58 rfl (by decide) rfl ?_
      refine g_aload_n 1 dX12_ruleClause_59 rfl rfl ?_
      refine g_getR dX12_ruleClause_60 fl12_81 rfl sh535 (w12_33 hW sh535) ?_
      refine g_iload_n 0 dX12_ruleClause_63 rfl rfl ?_
      refine g_aload_n 1 dX12_ruleClause_64 rfl rfl ?_
      refine g_getI dX12_ruleClause_65 fl12_193 sh535 ?_
      refine g_iast (j := (((12 : Int32) * (mI m 535 22)) + x1).toNatClampNeg) dX12_ruleClause_68 (s12_33 sh535) (h1 q1 q2) rfl ?_
      refine g_aload_n 1 dX12_ruleClause_69 rfl rfl ?_
      refine g_ls [1, 2, 3, 0] (ls2 := [(0, .ref 535), (1, .int x1), (2, .int x2), (3, .int (((12 : Int32) * (mI m 535 22)) + x1))]) rfl ?_
      exact g_callV (As := []) (st := []) dX12_ruleClause_70 clX12_228 sh535 rfl rfl (Nat.le_of_ble_eq_true rfl) (rmSH (by decide) (by decide)) (h2 q1 q2)
    · refine g_aload_n 0 dX12_ruleClause_32 rfl rfl ?_
      refine g_iconst (v := 4) dX12_ruleClause_33 (by decide) ?_
      refine g_iload_n 2 dX12_ruleClause_34 rfl rfl ?_
      exact g_callV (As := [.int (4 : Int32), .int x2]) (st := []) dX12_ruleClause_35 clX12_199 sh535 rfl rfl (Nat.le_of_ble_eq_true rfl) (rmSH (by decide) (by decide)) (h3 q1 q2)
  · refine g_aload_n 0 dX12_ruleClause_19 rfl rfl ?_
    refine g_iconst (v := 0) dX12_ruleClause_20 (by decide) ?_
    refine g_iload_n 2 dX12_ruleClause_21 rfl rfl ?_
    exact g_callV (As := [.int (0 : Int32), .int x2]) (st := []) dX12_ruleClause_22 clX12_199 sh535 rfl rfl (Nat.le_of_ble_eq_true rfl) (rmSH (by decide) (by decide)) (h4 q1)
theorem bX12_ruleClause_73 {X : pX} {Q : Option Value → pMem → Prop} {m : pMem} {x1 : Int32} {x2 : Int32} {x3 : Int32} (hW : Wf m)
    (h1 : vp_in x3 72)
    (h2 : ¬ (mI m 535 21) = 0 → vp_in x3 72)
    (h3 : ¬ (mI m 535 21) = 0 → Q none (uI (uI m 559 x3.toNatClampNeg (mI m 535 24)) 560 x3.toNatClampNeg (mI m 535 24)))
    (h4 : (mI m 535 21) = 0 → Cl X 6 mX12_takes [.ref 535, .retAddr 25] (uI m 559 x3.toNatClampNeg (mI m 535 24)) (fun v m2 => Go X 12 mX12_ruleClause Q 97 [(0, .ref 535), (1, .int x1), (2, .int x2), (3, .int x3)] (v.toList ++ []) m2)) :
    Go X 12 mX12_ruleClause Q 73 [(0, .ref 535), (1, .int x1), (2, .int x2), (3, .int x3)] [] m := by
  refine g_aload_n 0 dX12_ruleClause_73 rfl rfl ?_
  refine g_getR dX12_ruleClause_74 fl12_84 rfl sh535 (w12_34 hW sh535) ?_
  refine g_iload_n 3 dX12_ruleClause_77 rfl rfl ?_
  refine g_aload_n 0 dX12_ruleClause_78 rfl rfl ?_
  refine g_getI dX12_ruleClause_79 fl12_193 sh535 ?_
  refine g_iast (j := x3.toNatClampNeg) dX12_ruleClause_82 (s12_34 sh535) h1 rfl ?_
  refine g_aload_n 0 dX12_ruleClause_83 rfl rfl ?_
  refine g_getI dX12_ruleClause_84 fl12_160 sh535 ?_
  refine g_if_ne 104 dX12_ruleClause_87 (by decide) (fun q1 => ?_) (fun q1 => ?_)
  · refine g_aload_n 0 dX12_ruleClause_104 rfl rfl ?_
    refine g_getR dX12_ruleClause_105 fl12_87 rfl sh535 (w12_35 hW sh535) ?_
    refine g_iload_n 3 dX12_ruleClause_108 rfl rfl ?_
    refine g_aload_n 0 dX12_ruleClause_109 rfl rfl ?_
    refine g_getI dX12_ruleClause_110 fl12_193 sh535 ?_
    refine g_iast (j := x3.toNatClampNeg) dX12_ruleClause_113 (s12_35 sh535) (h2 q1) rfl ?_
    exact g_vret dX12_ruleClause_114 rfl enSH (h3 q1)
  · refine g_aload_n 0 dX12_ruleClause_90 rfl rfl ?_
    refine g_ldcwS 24 (by decide) rfl rfl dX12_ruleClause_91 ?_
    exact g_callV (As := [.retAddr 25]) (st := []) dX12_ruleClause_94 clX12_306 sh535 rfl rfl (Nat.le_of_ble_eq_true rfl) (rmSH (by decide) (by decide)) (h4 q1)
theorem bX12_ruleClause_38 {X : pX} {Q : Option Value → pMem → Prop} {m : pMem} {x1 : Int32} {x2 : Int32} (hW : Wf m)
    (h1 : Q none m) :
    Go X 12 mX12_ruleClause Q 38 [(0, .ref 535), (1, .int x1), (2, .int x2)] [] m := by
  exact g_vret dX12_ruleClause_38 rfl enSH h1
theorem bX12_ruleClause_25 {X : pX} {Q : Option Value → pMem → Prop} {m : pMem} {x1 : Int32} {x2 : Int32} (hW : Wf m)
    (h1 : Q none m) :
    Go X 12 mX12_ruleClause Q 25 [(0, .ref 535), (1, .int x1), (2, .int x2)] [] m := by
  exact g_vret dX12_ruleClause_25 rfl enSH h1
theorem bX12_ruleClause_97 {X : pX} {Q : Option Value → pMem → Prop} {m : pMem} {x1 : Int32} {x2 : Int32} {x3 : Int32} {xs0 : Int32} (hW : Wf m)
    (h1 : xs0 = 0 → vp_in x3 72)
    (h2 : xs0 = 0 → Q none (uI m 560 x3.toNatClampNeg (mI m 535 24)))
    (h3 : ¬ (xs0 = 0) → Cl X 11 mX12_test [.ref 535] m (fun v m2 => Go X 12 mX12_ruleClause Q 104 [(0, .ref 535), (1, .int x1), (2, .int x2), (3, .int x3)] (v.toList ++ []) m2)) :
    Go X 12 mX12_ruleClause Q 97 [(0, .ref 535), (1, .int x1), (2, .int x2), (3, .int x3)] [.int xs0] m := by
  refine g_if_eq 104 dX12_ruleClause_97 (by decide) (fun q1 => ?_) (fun q1 => ?_)
  · refine g_aload_n 0 dX12_ruleClause_104 rfl rfl ?_
    refine g_getR dX12_ruleClause_105 fl12_87 rfl sh535 (w12_35 hW sh535) ?_
    refine g_iload_n 3 dX12_ruleClause_108 rfl rfl ?_
    refine g_aload_n 0 dX12_ruleClause_109 rfl rfl ?_
    refine g_getI dX12_ruleClause_110 fl12_193 sh535 ?_
    refine g_iast (j := x3.toNatClampNeg) dX12_ruleClause_113 (s12_35 sh535) (h1 q1) rfl ?_
    exact g_vret dX12_ruleClause_114 rfl enSH (h2 q1)
  · refine g_aload_n 0 dX12_ruleClause_100 rfl rfl ?_
    exact g_callV (As := []) (st := []) dX12_ruleClause_101 clX12_309 sh535 rfl rfl (Nat.le_of_ble_eq_true rfl) (rmSH (by decide) (by decide)) (h3 q1)
theorem bX12_ruleClause_104 {X : pX} {Q : Option Value → pMem → Prop} {m : pMem} {x1 : Int32} {x2 : Int32} {x3 : Int32} (hW : Wf m)
    (h1 : vp_in x3 72)
    (h2 : Q none (uI m 560 x3.toNatClampNeg (mI m 535 24))) :
    Go X 12 mX12_ruleClause Q 104 [(0, .ref 535), (1, .int x1), (2, .int x2), (3, .int x3)] [] m := by
  refine g_aload_n 0 dX12_ruleClause_104 rfl rfl ?_
  refine g_getR dX12_ruleClause_105 fl12_87 rfl sh535 (w12_35 hW sh535) ?_
  refine g_iload_n 3 dX12_ruleClause_108 rfl rfl ?_
  refine g_aload_n 0 dX12_ruleClause_109 rfl rfl ?_
  refine g_getI dX12_ruleClause_110 fl12_193 sh535 ?_
  refine g_iast (j := x3.toNatClampNeg) dX12_ruleClause_113 (s12_35 sh535) h1 rfl ?_
  exact g_vret dX12_ruleClause_114 rfl enSH h2
theorem bX12_rule_0 {X : pX} {Q : Option Value → pMem → Prop} {m : pMem} (hW : Wf m)
    (h1 : ¬ (mI m 535 23) = (6 : Int32) → Cl X 0 mX12_starts [.ref 535] (uI m 535 22 (mI m 535 23)) (fun v m2 => Go X 13 mX12_rule Q 23 [(0, .ref 535)] (v.toList ++ []) m2))
    (h2 : (mI m 535 23) = (6 : Int32) → Q (some (.int (-1 : Int32))) m) :
    Go X 13 mX12_rule Q 0 [(0, .ref 535)] [] m := by
  refine g_aload_n 0 dX12_rule_0 rfl rfl ?_
  refine g_getI dX12_rule_1 fl12_312 sh535 ?_
  refine g_bipush (v := 6) dX12_rule_4 (by decide) ?_
  refine g_icmp_ne 11 dX12_rule_6 (by decide) (fun q1 => ?_) (fun q1 => ?_)
  · refine g_aload_n 0 dX12_rule_11 rfl rfl ?_
    refine g_aload_n 0 dX12_rule_12 rfl rfl ?_
    refine g_getI dX12_rule_13 fl12_312 sh535 ?_
    refine g_putI dX12_rule_16 fl12_190 (fun h => by cases h) sh535 ?_
    refine g_aload_n 0 dX12_rule_19 rfl rfl ?_
    exact g_callV (As := []) (st := []) dX12_rule_20 clX12_280 sh535 rfl rfl (Nat.le_of_ble_eq_true rfl) (rmSH (by decide) (by decide)) (h1 q1)
  · refine g_iconst (v := -1) dX12_rule_9 (by decide) ?_
    exact g_iret dX12_rule_10 rfl enSH (h2 q1)
theorem bX12_rule_23 {X : pX} {Q : Option Value → pMem → Prop} {m : pMem} (hW : Wf m)
    (h1 : Go X 13 mX12_rule Q 27 [(0, .ref 535), (1, .int (0 : Int32)), (2, .int (1 : Int32))] [] m) :
    Go X 13 mX12_rule Q 23 [(0, .ref 535)] [] m := by
  refine g_iconst (v := 0) dX12_rule_23 (by decide) ?_
  refine g_istore_n (ls2 := [(1, .int (0 : Int32)), (0, .ref 535)]) dX12_rule_24 rfl (by decide) rfl ?_
  refine g_iconst (v := 1) dX12_rule_25 (by decide) ?_
  refine g_istore_n (ls2 := [(2, .int (1 : Int32)), (1, .int (0 : Int32)), (0, .ref 535)]) dX12_rule_26 rfl (by decide) rfl ?_
  exact g_ls [2, 1, 0] rfl h1
theorem bX12_rule_27 {X : pX} {Q : Option Value → pMem → Prop} {m : pMem} {x1 : Int32} {x2 : Int32} (hW : Wf m)
    (h1 : x2 = 0 → vp_in (mI m 535 22) 6)
    (h2 : x2 = 0 → ¬ (mI m 535 21) = 0 → Go X 13 mX12_rule Q 79 [(0, .ref 535)] [.int (0 : Int32), .int (mI m 535 23), .ref 535] (uI (uI m 535 19 (0 : Int32)) 557 ((mI m 535 22).toNatClampNeg) x1))
    (h3 : x2 = 0 → (mI m 535 21) = 0 → Go X 13 mX12_rule Q 79 [(0, .ref 535)] [.int (1 : Int32), .int (mI m 535 23), .ref 535] (uI (uI m 535 19 (0 : Int32)) 557 ((mI m 535 22).toNatClampNeg) x1))
    (h4 : ¬ (x2 = 0) → Cl X 12 mX12_ruleClause [.ref 535, .int x1] m (fun v m2 => Go X 13 mX12_rule Q 36 [(0, .ref 535), (1, .int x1), (2, .int x2)] (v.toList ++ []) m2)) :
    Go X 13 mX12_rule Q 27 [(0, .ref 535), (1, .int x1), (2, .int x2)] [] m := by
  refine g_iload_n 2 dX12_rule_27 rfl rfl ?_
  refine g_if_eq 47 dX12_rule_28 (by decide) (fun q1 => ?_) (fun q1 => ?_)
  · refine g_aload_n 0 dX12_rule_47 rfl rfl ?_
    refine g_iconst (v := 0) dX12_rule_48 (by decide) ?_
    refine g_putI dX12_rule_49 fl12_132 (fun h => by cases h) sh535 ?_
    refine g_aload_n 0 dX12_rule_52 rfl rfl ?_
    refine g_getR dX12_rule_53 fl12_78 rfl sh535 (w12_32 hW sh535) ?_
    refine g_aload_n 0 dX12_rule_56 rfl rfl ?_
    refine g_getI dX12_rule_57 fl12_190 sh535 ?_
    refine g_iload_n 1 dX12_rule_60 rfl rfl ?_
    refine g_iast (j := (mI m 535 22).toNatClampNeg) dX12_rule_61 (s12_32 sh535) (h1 q1) rfl ?_
    refine g_aload_n 0 dX12_rule_62 rfl rfl ?_
    refine g_dup dX12_rule_63 rfl ?_
    refine g_getI dX12_rule_64 fl12_312 sh535 ?_
    refine g_aload_n 0 dX12_rule_67 rfl rfl ?_
    refine g_getI dX12_rule_68 fl12_160 sh535 ?_
    refine g_if_ne 78 dX12_rule_71 (by decide) (fun q2 => ?_) (fun q2 => ?_)
    · refine g_iconst (v := 0) dX12_rule_78 (by decide) ?_
      exact g_ls [0] rfl (h2 q1 q2)
    · refine g_iconst (v := 1) dX12_rule_74 (by decide) ?_
      refine g_goto 79 dX12_rule_75 (by decide) ?_
      exact g_ls [0] rfl (h3 q1 q2)
  · refine g_aload_n 0 dX12_rule_31 rfl rfl ?_
    refine g_iload_n 1 dX12_rule_32 rfl rfl ?_
    exact g_callV (As := [.int x1]) (st := []) dX12_rule_33 clX12_315 sh535 rfl rfl (Nat.le_of_ble_eq_true rfl) (rmSH (by decide) (by decide)) (h4 q1)
theorem bX12_rule_79 {X : pX} {Q : Option Value → pMem → Prop} {m : pMem} {xs1 : Int32} (hW : Wf m)
    (h1 : (mI m 535 21) ≤ 0 → Q (some (.int ((xs1 + (0 : Int32)) - (1 : Int32)))) (uI m 535 23 (xs1 + (0 : Int32))))
    (h2 : ¬ ((mI m 535 21) ≤ 0) → Q (some (.int ((-2 : Int32) - (mI m 535 21)))) (uI m 535 23 (xs1 + (0 : Int32)))) :
    Go X 13 mX12_rule Q 79 [(0, .ref 535)] [.int (0 : Int32), .int xs1, .ref 535] m := by
  refine g_iadd dX12_rule_79 ?_
  refine g_putI dX12_rule_80 fl12_312 (fun h => by cases h) sh535 ?_
  refine g_aload_n 0 dX12_rule_83 rfl rfl ?_
  refine g_getI dX12_rule_84 fl12_160 sh535 ?_
  refine g_if_le 100 dX12_rule_87 (by decide) (fun q1 => ?_) (fun q1 => ?_)
  · refine g_aload_n 0 dX12_rule_100 rfl rfl ?_
    refine g_getI dX12_rule_101 fl12_312 sh535 ?_
    refine g_iconst (v := 1) dX12_rule_104 (by decide) ?_
    refine g_isub dX12_rule_105 ?_
    exact g_iret dX12_rule_106 rfl enSH (h1 q1)
  · refine g_bipush (v := -2) dX12_rule_90 (by decide) ?_
    refine g_aload_n 0 dX12_rule_92 rfl rfl ?_
    refine g_getI dX12_rule_93 fl12_160 sh535 ?_
    refine g_isub dX12_rule_96 ?_
    refine g_goto 106 dX12_rule_97 (by decide) ?_
    exact g_iret dX12_rule_106 rfl enSH (h2 q1)
theorem bX12_rule_79v1 {X : pX} {Q : Option Value → pMem → Prop} {m : pMem} {xs1 : Int32} (hW : Wf m)
    (h1 : (mI m 535 21) ≤ 0 → Q (some (.int ((xs1 + (1 : Int32)) - (1 : Int32)))) (uI m 535 23 (xs1 + (1 : Int32))))
    (h2 : ¬ ((mI m 535 21) ≤ 0) → Q (some (.int ((-2 : Int32) - (mI m 535 21)))) (uI m 535 23 (xs1 + (1 : Int32)))) :
    Go X 13 mX12_rule Q 79 [(0, .ref 535)] [.int (1 : Int32), .int xs1, .ref 535] m := by
  refine g_iadd dX12_rule_79 ?_
  refine g_putI dX12_rule_80 fl12_312 (fun h => by cases h) sh535 ?_
  refine g_aload_n 0 dX12_rule_83 rfl rfl ?_
  refine g_getI dX12_rule_84 fl12_160 sh535 ?_
  refine g_if_le 100 dX12_rule_87 (by decide) (fun q1 => ?_) (fun q1 => ?_)
  · refine g_aload_n 0 dX12_rule_100 rfl rfl ?_
    refine g_getI dX12_rule_101 fl12_312 sh535 ?_
    refine g_iconst (v := 1) dX12_rule_104 (by decide) ?_
    refine g_isub dX12_rule_105 ?_
    exact g_iret dX12_rule_106 rfl enSH (h1 q1)
  · refine g_bipush (v := -2) dX12_rule_90 (by decide) ?_
    refine g_aload_n 0 dX12_rule_92 rfl rfl ?_
    refine g_getI dX12_rule_93 fl12_160 sh535 ?_
    refine g_isub dX12_rule_96 ?_
    refine g_goto 106 dX12_rule_97 (by decide) ?_
    exact g_iret dX12_rule_106 rfl enSH (h2 q1)
theorem bX12_rule_36 {X : pX} {Q : Option Value → pMem → Prop} {m : pMem} {x1 : Int32} {x2 : Int32} (hW : Wf m)
    (h1 : Cl X 2 mX12_goesOn [.ref 535] m (fun v m2 => Go X 13 mX12_rule Q 43 [(0, .ref 535), (1, .int (x1 + (1 : Int32))), (2, .int x2)] (v.toList ++ []) m2)) :
    Go X 13 mX12_rule Q 36 [(0, .ref 535), (1, .int x1), (2, .int x2)] [] m := by
  refine g_iinc (v := x1 + (1 : Int32)) (ls2 := [(1, .int (x1 + (1 : Int32))), (0, .ref 535), (2, .int x2)]) 1 dX12_rule_36 rfl rfl (by decide) rfl ?_
  refine g_aload_n 1 dX12_rule_39 rfl rfl ?_
  refine g_ls [1, 0, 2] (ls2 := [(0, .ref 535), (1, .int (x1 + (1 : Int32))), (2, .int x2)]) rfl ?_
  exact g_callV (As := []) (st := []) dX12_rule_40 clX12_286 sh535 rfl rfl (Nat.le_of_ble_eq_true rfl) (rmSH (by decide) (by decide)) h1
theorem bX12_rule_43 {X : pX} {Q : Option Value → pMem → Prop} {m : pMem} {x1 : Int32} {x2 : Int32} {xs0 : Int32} (hW : Wf m)
    (h1 : Go X 13 mX12_rule Q 27 [(0, .ref 535), (1, .int x1), (2, .int xs0)] [] m) :
    Go X 13 mX12_rule Q 43 [(0, .ref 535), (1, .int x1), (2, .int x2)] [.int xs0] m := by
  refine g_istore_n (ls2 := [(2, .int xs0), (0, .ref 535), (1, .int x1)]) dX12_rule_43 rfl (by decide) rfl ?_
  refine g_goto 27 dX12_rule_44 (by decide) ?_
  exact g_ls [1, 2, 0] rfl h1
