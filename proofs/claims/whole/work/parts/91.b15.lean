theorem bX12_keepsAll_0 {X : pX} {Q : Option Value → pMem → Prop} {m : pMem} (hW : Wf m)
    (h1 : Cl X 1 mX12_carriesAll [.ref 535, .int (4 : Int32), .int (0 : Int32)] m (fun v m2 => Go X 2 mX12_keepsAll Q 6 [(0, .ref 535)] (v.toList ++ []) m2)) :
    Go X 2 mX12_keepsAll Q 0 [(0, .ref 535)] [] m := by
  refine g_aload_n 0 dX12_keepsAll_0 rfl rfl ?_
  refine g_iconst (v := 4) dX12_keepsAll_1 (by decide) ?_
  refine g_iconst (v := 0) dX12_keepsAll_2 (by decide) ?_
  exact g_callV (As := [.int (4 : Int32), .int (0 : Int32)]) (st := []) dX12_keepsAll_3 clX12_404 sh535 rfl rfl (Nat.le_of_ble_eq_true rfl) (rmSH (by decide) (by decide)) h1
theorem bX12_keepsAll_6 {X : pX} {Q : Option Value → pMem → Prop} {m : pMem} (hW : Wf m)
    (h1 : Q none m) :
    Go X 2 mX12_keepsAll Q 6 [(0, .ref 535)] [] m := by
  exact g_vret dX12_keepsAll_6 rfl enSH h1
theorem bX12_laysBack_0 {X : pX} {Q : Option Value → pMem → Prop} {m : pMem} (hW : Wf m)
    (h1 : Cl X 1 mX12_carriesAll [.ref 535, .int (4 : Int32), .int (1 : Int32)] m (fun v m2 => Go X 2 mX12_laysBack Q 6 [(0, .ref 535)] (v.toList ++ []) m2)) :
    Go X 2 mX12_laysBack Q 0 [(0, .ref 535)] [] m := by
  refine g_aload_n 0 dX12_laysBack_0 rfl rfl ?_
  refine g_iconst (v := 4) dX12_laysBack_1 (by decide) ?_
  refine g_iconst (v := 1) dX12_laysBack_2 (by decide) ?_
  exact g_callV (As := [.int (4 : Int32), .int (1 : Int32)]) (st := []) dX12_laysBack_3 clX12_404 sh535 rfl rfl (Nat.le_of_ble_eq_true rfl) (rmSH (by decide) (by decide)) h1
theorem bX12_laysBack_6 {X : pX} {Q : Option Value → pMem → Prop} {m : pMem} (hW : Wf m)
    (h1 : Q none m) :
    Go X 2 mX12_laysBack Q 6 [(0, .ref 535)] [] m := by
  exact g_vret dX12_laysBack_6 rfl enSH h1
theorem bX12_ahead_0 {X : pX} {Q : Option Value → pMem → Prop} {m : pMem} {x1 : Int32} {x2 : Int32} {x3 : Int32} (hW : Wf m)
    (h1 : ¬ x3 < (0 : Int32) ∧ ¬ (1 : Int32) < x3 → ¬ x1 < 0 ∧ ¬ (mI m 536 3 - (1 : Int32)) < x1 → Go X 8 mX12_ahead Q 31 [(0, .ref 535), (1, .int x1), (2, .int x2), (3, .int x3)] [] m)
    (h2 : ¬ x3 < (0 : Int32) ∧ ¬ (1 : Int32) < x3 → ¬ (¬ x1 < 0 ∧ ¬ (mI m 536 3 - (1 : Int32)) < x1) → Go X 8 mX12_ahead Q 18 [(0, .ref 535), (1, .int x1), (2, .int x2), (3, .int x3)] [] m)
    (h3 : ¬ (¬ x3 < (0 : Int32) ∧ ¬ (1 : Int32) < x3) → Go X 8 mX12_ahead Q 18 [(0, .ref 535), (1, .int x1), (2, .int x2), (3, .int x3)] [] m) :
    Go X 8 mX12_ahead Q 0 [(0, .ref 535), (1, .int x1), (2, .int x2), (3, .int x3)] [] m := by
  refine g_iload_n 3 dX12_ahead_0 rfl rfl ?_
  refine g_i2l dX12_ahead_1 ?_
  refine g_lconst (v := 0) dX12_ahead_2 (by decide) ?_
  refine g_lconst (v := 1) dX12_ahead_3 (by decide) ?_
  refine g_callS (As := [.long x3.toInt64, .long (0 : Int64), .long (1 : Int64)]) (st := []) dX12_ahead_4 clX12_128 rfl rfl (Nat.le_of_ble_eq_true rfl) (rmSH (by decide) (by decide)) (s_in (x := x3) (lo := (0 : Int32)) (hi := (1 : Int32)) hW (by first | rfl | decide) (by first | rfl | decide) (by first | rfl | decide) (fun q1 => ?_) (fun q1 => ?_))
  · refine g_if_eq 18 dX12_ahead_7 (by decide) (fun q2 => absurd q2 (by decide)) (fun q2 => ?_)
    refine g_aload_n 0 dX12_ahead_10 rfl rfl ?_
    refine g_iload_n 1 dX12_ahead_11 rfl rfl ?_
    refine g_callV (As := [.int x1]) (st := []) dX12_ahead_12 clX12_334 sh535 rfl rfl (Nat.le_of_ble_eq_true rfl) (rmSH (by decide) (by decide)) (s_mPerson hW (fun q3 => ?_) (fun q3 => ?_))
    · refine g_if_ne 31 dX12_ahead_15 (by decide) (fun q4 => ?_) (fun q4 => absurd q4 (by decide))
      exact g_ls [0, 1, 2, 3] rfl (h1 q1 q3)
    · refine g_if_ne 31 dX12_ahead_15 (by decide) (fun q5 => absurd q5 (by decide)) (fun q5 => ?_)
      exact g_ls [0, 1, 2, 3] rfl (h2 q1 q3)
  · refine g_if_eq 18 dX12_ahead_7 (by decide) (fun q6 => ?_) (fun q6 => absurd q6 (by decide))
    exact g_ls [0, 1, 2, 3] rfl (h3 q1)
theorem bX12_ahead_31 {X : pX} {Q : Option Value → pMem → Prop} {m : pMem} {x1 : Int32} {x2 : Int32} {x3 : Int32} (hW : Wf m)
    (h1 : Go X 8 mX12_ahead Q 36 [(0, .ref 535), (1, .int x1), (2, .int x2), (3, .int x3)] [.int (1 : Int32)] m) :
    Go X 8 mX12_ahead Q 31 [(0, .ref 535), (1, .int x1), (2, .int x2), (3, .int x3)] [] m := by
  refine g_iconst (v := 1) dX12_ahead_31 (by decide) ?_
  refine g_goto 36 dX12_ahead_32 (by decide) ?_
  exact g_ls [0, 1, 2, 3] rfl h1
theorem bX12_ahead_18 {X : pX} {Q : Option Value → pMem → Prop} {m : pMem} {x1 : Int32} {x2 : Int32} {x3 : Int32} (hW : Wf m)
    (h1 : ¬ x3 = (2 : Int32) → Go X 8 mX12_ahead Q 35 [(0, .ref 535), (1, .int x1), (2, .int x2), (3, .int x3)] [] m)
    (h2 : x3 = (2 : Int32) → ¬ x1 < 0 ∧ ¬ (mI m 536 4 - (1 : Int32)) < x1 → Go X 8 mX12_ahead Q 31 [(0, .ref 535), (1, .int x1), (2, .int x2), (3, .int x3)] [] m)
    (h3 : x3 = (2 : Int32) → ¬ (¬ x1 < 0 ∧ ¬ (mI m 536 4 - (1 : Int32)) < x1) → Go X 8 mX12_ahead Q 35 [(0, .ref 535), (1, .int x1), (2, .int x2), (3, .int x3)] [] m) :
    Go X 8 mX12_ahead Q 18 [(0, .ref 535), (1, .int x1), (2, .int x2), (3, .int x3)] [] m := by
  refine g_iload_n 3 dX12_ahead_18 rfl rfl ?_
  refine g_iconst (v := 2) dX12_ahead_19 (by decide) ?_
  refine g_icmp_ne 35 dX12_ahead_20 (by decide) (fun q1 => ?_) (fun q1 => ?_)
  · exact g_ls [0, 1, 2, 3] rfl (h1 q1)
  · refine g_aload_n 0 dX12_ahead_23 rfl rfl ?_
    refine g_iload_n 1 dX12_ahead_24 rfl rfl ?_
    refine g_callV (As := [.int x1]) (st := []) dX12_ahead_25 clX12_347 sh535 rfl rfl (Nat.le_of_ble_eq_true rfl) (rmSH (by decide) (by decide)) (s_mThing hW (fun q2 => ?_) (fun q2 => ?_))
    · refine g_if_eq 35 dX12_ahead_28 (by decide) (fun q3 => absurd q3 (by decide)) (fun q3 => ?_)
      exact g_ls [0, 1, 2, 3] rfl (h2 q1 q2)
    · refine g_if_eq 35 dX12_ahead_28 (by decide) (fun q4 => ?_) (fun q4 => absurd q4 (by decide))
      exact g_ls [0, 1, 2, 3] rfl (h3 q1 q2)
theorem bX12_ahead_36 {X : pX} {Q : Option Value → pMem → Prop} {m : pMem} {x1 : Int32} {x2 : Int32} {x3 : Int32} (hW : Wf m)
    (h1 : ¬ x2 < (0 : Int32) ∧ ¬ (100 : Int32) < x2 → Cl X 2 mX12_keepsAll [.ref 535] m (fun v m2 => Go X 8 mX12_ahead Q 62 [(0, .ref 535), (1, .int x1), (2, .int x2), (3, .int x3), (4, .int (1 : Int32))] (v.toList ++ []) m2))
    (h2 : ¬ (¬ x2 < (0 : Int32) ∧ ¬ (100 : Int32) < x2) → Q (some (.int (-2 : Int32))) m) :
    Go X 8 mX12_ahead Q 36 [(0, .ref 535), (1, .int x1), (2, .int x2), (3, .int x3)] [.int (1 : Int32)] m := by
  refine g_istore (ls2 := [(4, .int (1 : Int32)), (0, .ref 535), (1, .int x1), (2, .int x2), (3, .int x3)]) dX12_ahead_36 (by decide) rfl ?_
  refine g_iload 0 dX12_ahead_38 rfl ?_
  refine g_if_eq 55 dX12_ahead_40 (by decide) (fun q1 => absurd q1 (by decide)) (fun q1 => ?_)
  refine g_iload_n 3 dX12_ahead_43 rfl rfl ?_
  refine g_i2l dX12_ahead_44 ?_
  refine g_lconst (v := 0) dX12_ahead_45 (by decide) ?_
  refine g_ldc2 (v := 100) dX12_ahead_46 cjX12_407 ?_
  refine g_callS (As := [.long x2.toInt64, .long (0 : Int64), .long (100 : Int64)]) (st := []) dX12_ahead_49 clX12_128 rfl rfl (Nat.le_of_ble_eq_true rfl) (rmSH (by decide) (by decide)) (s_in (x := x2) (lo := (0 : Int32)) (hi := (100 : Int32)) hW (by first | rfl | decide) (by first | rfl | decide) (by first | rfl | decide) (fun q2 => ?_) (fun q2 => ?_))
  · refine g_if_ne 58 dX12_ahead_52 (by decide) (fun q3 => ?_) (fun q3 => absurd q3 (by decide))
    refine g_aload_n 1 dX12_ahead_58 rfl rfl ?_
    refine g_ls [1, 2, 3, 4, 0] (ls2 := [(0, .ref 535), (1, .int x1), (2, .int x2), (3, .int x3), (4, .int (1 : Int32))]) rfl ?_
    exact g_callV (As := []) (st := []) dX12_ahead_59 clX12_409 sh535 rfl rfl (Nat.le_of_ble_eq_true rfl) (rmSH (by decide) (by decide)) (h1 q2)
  · refine g_if_ne 58 dX12_ahead_52 (by decide) (fun q4 => absurd q4 (by decide)) (fun q4 => ?_)
    refine g_bipush (v := -2) dX12_ahead_55 (by decide) ?_
    exact g_iret dX12_ahead_57 rfl enSH (h2 q2)
theorem bX12_ahead_35 {X : pX} {Q : Option Value → pMem → Prop} {m : pMem} {x1 : Int32} {x2 : Int32} {x3 : Int32} (hW : Wf m)
    (h1 : Go X 8 mX12_ahead Q 36 [(0, .ref 535), (1, .int x1), (2, .int x2), (3, .int x3)] [.int (0 : Int32)] m) :
    Go X 8 mX12_ahead Q 35 [(0, .ref 535), (1, .int x1), (2, .int x2), (3, .int x3)] [] m := by
  refine g_iconst (v := 0) dX12_ahead_35 (by decide) ?_
  exact g_ls [0, 1, 2, 3] rfl h1
theorem bX12_ahead_62 {X : pX} {Q : Option Value → pMem → Prop} {m : pMem} {x1 : Int32} {x2 : Int32} {x3 : Int32} {x4 : Int32} (hW : Wf m)
    (h1 : Cl X 7 mX12_goFor [.ref 535, .int x2] m (fun v m2 => Go X 8 mX12_ahead Q 67 [(0, .ref 535), (1, .int x1), (2, .int x2), (3, .int x3), (4, .int x4)] (v.toList ++ []) m2)) :
    Go X 8 mX12_ahead Q 62 [(0, .ref 535), (1, .int x1), (2, .int x2), (3, .int x3), (4, .int x4)] [] m := by
  refine g_aload_n 0 dX12_ahead_62 rfl rfl ?_
  refine g_iload_n 2 dX12_ahead_63 rfl rfl ?_
  exact g_callV (As := [.int x2]) (st := []) dX12_ahead_64 clX12_412 sh535 rfl rfl (Nat.le_of_ble_eq_true rfl) (rmSH (by decide) (by decide)) h1
theorem bX12_ahead_36v1 {X : pX} {Q : Option Value → pMem → Prop} {m : pMem} {x1 : Int32} {x2 : Int32} {x3 : Int32} (hW : Wf m)
    (h1 : Q (some (.int (-2 : Int32))) m) :
    Go X 8 mX12_ahead Q 36 [(0, .ref 535), (1, .int x1), (2, .int x2), (3, .int x3)] [.int (0 : Int32)] m := by
  refine g_istore (ls2 := [(4, .int (0 : Int32)), (0, .ref 535), (1, .int x1), (2, .int x2), (3, .int x3)]) dX12_ahead_36 (by decide) rfl ?_
  refine g_iload 0 dX12_ahead_38 rfl ?_
  refine g_if_eq 55 dX12_ahead_40 (by decide) (fun q1 => ?_) (fun q1 => absurd q1 (by decide))
  refine g_bipush (v := -2) dX12_ahead_55 (by decide) ?_
  exact g_iret dX12_ahead_57 rfl enSH h1
theorem bX12_ahead_67 {X : pX} {Q : Option Value → pMem → Prop} {m : pMem} {x1 : Int32} {x2 : Int32} {x3 : Int32} {x4 : Int32} (hW : Wf m)
    (h1 : ¬ x3 = 0 → ¬ x3 = (1 : Int32) → vp_in x1 6)
    (h2 : ¬ x3 = 0 → ¬ x3 = (1 : Int32) → Cl X 2 mX12_laysBack [.ref 535] m (fun v m2 => Go X 8 mX12_ahead Q 106 [(0, .ref 535), (1, .int x1), (2, .int x2), (3, .int x3), (4, .int x4), (5, .int (mI m 539 x1.toNatClampNeg))] (v.toList ++ []) m2))
    (h3 : ¬ x3 = 0 → x3 = (1 : Int32) → vp_in x1 4)
    (h4 : ¬ x3 = 0 → x3 = (1 : Int32) → Cl X 2 mX12_laysBack [.ref 535] m (fun v m2 => Go X 8 mX12_ahead Q 106 [(0, .ref 535), (1, .int x1), (2, .int x2), (3, .int x3), (4, .int x4), (5, .int (mI m 538 x1.toNatClampNeg))] (v.toList ++ []) m2))
    (h5 : x3 = 0 → vp_in x1 4)
    (h6 : x3 = 0 → Cl X 2 mX12_laysBack [.ref 535] m (fun v m2 => Go X 8 mX12_ahead Q 106 [(0, .ref 535), (1, .int x1), (2, .int x2), (3, .int x3), (4, .int x4), (5, .int (mI m 537 x1.toNatClampNeg))] (v.toList ++ []) m2)) :
    Go X 8 mX12_ahead Q 67 [(0, .ref 535), (1, .int x1), (2, .int x2), (3, .int x3), (4, .int x4)] [] m := by
  refine g_iload_n 3 dX12_ahead_67 rfl rfl ?_
  refine g_if_ne 80 dX12_ahead_68 (by decide) (fun q1 => ?_) (fun q1 => ?_)
  · refine g_iload_n 3 dX12_ahead_80 rfl rfl ?_
    refine g_iconst (v := 1) dX12_ahead_81 (by decide) ?_
    refine g_icmp_ne 94 dX12_ahead_82 (by decide) (fun q2 => ?_) (fun q2 => ?_)
    · refine g_aload_n 0 dX12_ahead_94 rfl rfl ?_
      refine g_getR dX12_ahead_95 fl12_19 rfl sh535 (w12_4 hW sh535) ?_
      refine g_iload_n 1 dX12_ahead_98 rfl rfl ?_
      refine g_iald (j := x1.toNatClampNeg) dX12_ahead_99 (s12_4 sh535) (h1 q1 q2) rfl ?_
      refine g_istore (ls2 := [(5, .int (mI m 539 x1.toNatClampNeg)), (0, .ref 535), (1, .int x1), (2, .int x2), (3, .int x3), (4, .int x4)]) dX12_ahead_100 (by decide) rfl ?_
      refine g_aload_n 1 dX12_ahead_102 rfl rfl ?_
      refine g_ls [1, 2, 3, 4, 5, 0] (ls2 := [(0, .ref 535), (1, .int x1), (2, .int x2), (3, .int x3), (4, .int x4), (5, .int (mI m 539 x1.toNatClampNeg))]) rfl ?_
      exact g_callV (As := []) (st := []) dX12_ahead_103 clX12_415 sh535 rfl rfl (Nat.le_of_ble_eq_true rfl) (rmSH (by decide) (by decide)) (h2 q1 q2)
    · refine g_aload_n 0 dX12_ahead_85 rfl rfl ?_
      refine g_getR dX12_ahead_86 fl12_16 rfl sh535 (w12_3 hW sh535) ?_
      refine g_iload_n 1 dX12_ahead_89 rfl rfl ?_
      refine g_iald (j := x1.toNatClampNeg) dX12_ahead_90 (s12_3 sh535) (h3 q1 q2) rfl ?_
      refine g_goto 100 dX12_ahead_91 (by decide) ?_
      refine g_istore (ls2 := [(5, .int (mI m 538 x1.toNatClampNeg)), (0, .ref 535), (1, .int x1), (2, .int x2), (3, .int x3), (4, .int x4)]) dX12_ahead_100 (by decide) rfl ?_
      refine g_aload_n 1 dX12_ahead_102 rfl rfl ?_
      refine g_ls [1, 2, 3, 4, 5, 0] (ls2 := [(0, .ref 535), (1, .int x1), (2, .int x2), (3, .int x3), (4, .int x4), (5, .int (mI m 538 x1.toNatClampNeg))]) rfl ?_
      exact g_callV (As := []) (st := []) dX12_ahead_103 clX12_415 sh535 rfl rfl (Nat.le_of_ble_eq_true rfl) (rmSH (by decide) (by decide)) (h4 q1 q2)
  · refine g_aload_n 0 dX12_ahead_71 rfl rfl ?_
    refine g_getR dX12_ahead_72 fl12_13 rfl sh535 (w12_2 hW sh535) ?_
    refine g_iload_n 1 dX12_ahead_75 rfl rfl ?_
    refine g_iald (j := x1.toNatClampNeg) dX12_ahead_76 (s12_2 sh535) (h5 q1) rfl ?_
    refine g_goto 100 dX12_ahead_77 (by decide) ?_
    refine g_istore (ls2 := [(5, .int (mI m 537 x1.toNatClampNeg)), (0, .ref 535), (1, .int x1), (2, .int x2), (3, .int x3), (4, .int x4)]) dX12_ahead_100 (by decide) rfl ?_
    refine g_aload_n 1 dX12_ahead_102 rfl rfl ?_
    refine g_ls [1, 2, 3, 4, 5, 0] (ls2 := [(0, .ref 535), (1, .int x1), (2, .int x2), (3, .int x3), (4, .int x4), (5, .int (mI m 537 x1.toNatClampNeg))]) rfl ?_
    exact g_callV (As := []) (st := []) dX12_ahead_103 clX12_415 sh535 rfl rfl (Nat.le_of_ble_eq_true rfl) (rmSH (by decide) (by decide)) (h6 q1)
theorem bX12_ahead_106 {X : pX} {Q : Option Value → pMem → Prop} {m : pMem} {x1 : Int32} {x2 : Int32} {x3 : Int32} {x4 : Int32} {x5 : Int32} (hW : Wf m)
    (h1 : Q (some (.int x5)) m) :
    Go X 8 mX12_ahead Q 106 [(0, .ref 535), (1, .int x1), (2, .int x2), (3, .int x3), (4, .int x4), (5, .int x5)] [] m := by
  refine g_iload 5 dX12_ahead_106 rfl ?_
  exact g_iret dX12_ahead_108 rfl enSH h1
theorem bX12_comes_0 {X : pX} {Q : Option Value → pMem → Prop} {m : pMem} {x1 : Int32} (hW : Wf m)
    (h1 : ¬ x1 < 0 ∧ ¬ (mI m 536 3 - (1 : Int32)) < x1 → Cl X 2 mX12_keepsAll [.ref 535] m (fun v m2 => Go X 7 mX12_comes Q 14 [(0, .ref 535), (1, .int x1)] (v.toList ++ []) m2))
    (h2 : ¬ (¬ x1 < 0 ∧ ¬ (mI m 536 3 - (1 : Int32)) < x1) → Q (some (.int (-1 : Int32))) m) :
    Go X 7 mX12_comes Q 0 [(0, .ref 535), (1, .int x1)] [] m := by
  refine g_aload_n 0 dX12_comes_0 rfl rfl ?_
  refine g_iload_n 1 dX12_comes_1 rfl rfl ?_
  refine g_callV (As := [.int x1]) (st := []) dX12_comes_2 clX12_334 sh535 rfl rfl (Nat.le_of_ble_eq_true rfl) (rmSH (by decide) (by decide)) (s_mPerson hW (fun q1 => ?_) (fun q1 => ?_))
  · refine g_if_ne 10 dX12_comes_5 (by decide) (fun q2 => ?_) (fun q2 => absurd q2 (by decide))
    refine g_aload_n 0 dX12_comes_10 rfl rfl ?_
    exact g_callV (As := []) (st := []) dX12_comes_11 clX12_409 sh535 rfl rfl (Nat.le_of_ble_eq_true rfl) (rmSH (by decide) (by decide)) (h1 q1)
  · refine g_if_ne 10 dX12_comes_5 (by decide) (fun q3 => absurd q3 (by decide)) (fun q3 => ?_)
    refine g_iconst (v := -1) dX12_comes_8 (by decide) ?_
    exact g_iret dX12_comes_9 rfl enSH (h2 q1)
theorem bX12_comes_14 {X : pX} {Q : Option Value → pMem → Prop} {m : pMem} {x1 : Int32} (hW : Wf m)
    (h1 : Go X 7 mX12_comes Q 19 [(0, .ref 535), (1, .int x1), (2, .int (-2 : Int32)), (3, .int (0 : Int32))] [] m) :
    Go X 7 mX12_comes Q 14 [(0, .ref 535), (1, .int x1)] [] m := by
  refine g_bipush (v := -2) dX12_comes_14 (by decide) ?_
  refine g_istore_n (ls2 := [(2, .int (-2 : Int32)), (0, .ref 535), (1, .int x1)]) dX12_comes_16 rfl (by decide) rfl ?_
  refine g_iconst (v := 0) dX12_comes_17 (by decide) ?_
  refine g_istore_n (ls2 := [(3, .int (0 : Int32)), (2, .int (-2 : Int32)), (0, .ref 535), (1, .int x1)]) dX12_comes_18 rfl (by decide) rfl ?_
  exact g_ls [2, 3, 1, 0] rfl h1
theorem bX12_comes_19 {X : pX} {Q : Option Value → pMem → Prop} {m : pMem} {x1 : Int32} {x2 : Int32} {x3 : Int32} (hW : Wf m)
    (h1 : (200 : Int32) ≤ x3 → Cl X 2 mX12_laysBack [.ref 535] m (fun v m2 => Go X 7 mX12_comes Q 72 [(0, .ref 535), (1, .int x1), (2, .int x2), (3, .int x3)] (v.toList ++ []) m2))
    (h2 : ¬ ((200 : Int32) ≤ x3) → ¬ x2 = (-2 : Int32) → Cl X 2 mX12_laysBack [.ref 535] m (fun v m2 => Go X 7 mX12_comes Q 72 [(0, .ref 535), (1, .int x1), (2, .int x2), (3, .int x3)] (v.toList ++ []) m2))
    (h3 : ¬ ((200 : Int32) ≤ x3) → x2 = (-2 : Int32) → vp_in x1 4)
    (h4 : ¬ ((200 : Int32) ≤ x3) → x2 = (-2 : Int32) → ¬ (mI m 537 x1.toNatClampNeg) = (mI m 536 2) → Cl X 6 mX12_goes [.ref 535] m (fun v m2 => Go X 7 mX12_comes Q 61 [(0, .ref 535), (1, .int x1), (2, .int (-2 : Int32)), (3, .int x3)] (v.toList ++ []) m2))
    (h5 : ¬ ((200 : Int32) ≤ x3) → x2 = (-2 : Int32) → (mI m 537 x1.toNatClampNeg) = (mI m 536 2) → Cl X 6 mX12_goes [.ref 535] m (fun v m2 => Go X 7 mX12_comes Q 61 [(0, .ref 535), (1, .int x1), (2, .int (mI m 536 5)), (3, .int x3)] (v.toList ++ []) m2)) :
    Go X 7 mX12_comes Q 19 [(0, .ref 535), (1, .int x1), (2, .int x2), (3, .int x3)] [] m := by
  refine g_iload_n 3 dX12_comes_19 rfl rfl ?_
  refine g_sipush (v := 200) dX12_comes_20 (by decide) ?_
  refine g_icmp_ge 68 dX12_comes_23 (by decide) (fun q1 => ?_) (fun q1 => ?_)
  · refine g_aload_n 0 dX12_comes_68 rfl rfl ?_
    exact g_callV (As := []) (st := []) dX12_comes_69 clX12_415 sh535 rfl rfl (Nat.le_of_ble_eq_true rfl) (rmSH (by decide) (by decide)) (h1 q1)
  · refine g_iload_n 2 dX12_comes_26 rfl rfl ?_
    refine g_bipush (v := -2) dX12_comes_27 (by decide) ?_
    refine g_icmp_ne 68 dX12_comes_29 (by decide) (fun q2 => ?_) (fun q2 => ?_)
    · refine g_aload_n 0 dX12_comes_68 rfl rfl ?_
      exact g_callV (As := []) (st := []) dX12_comes_69 clX12_415 sh535 rfl rfl (Nat.le_of_ble_eq_true rfl) (rmSH (by decide) (by decide)) (h2 q1 q2)
    · refine g_aload_n 0 dX12_comes_32 rfl rfl ?_
      refine g_getR dX12_comes_33 fl12_13 rfl sh535 (w12_2 hW sh535) ?_
      refine g_iload_n 1 dX12_comes_36 rfl rfl ?_
      refine g_iald (j := x1.toNatClampNeg) dX12_comes_37 (s12_2 sh535) (h3 q1 q2) rfl ?_
      refine g_aload_n 0 dX12_comes_38 rfl rfl ?_
      refine g_callV (As := []) (st := [.int (mI m 537 x1.toNatClampNeg)]) dX12_comes_39 clX12_352 sh535 rfl rfl (Nat.le_of_ble_eq_true rfl) (rmSH (by decide) (by decide)) (s_town hW ?_)
      show Go X 7 mX12_comes Q 42 [(0, .ref 535), (1, .int x1), (2, .int x2), (3, .int x3)] [.int (mI m 536 2), .int (mI m 537 x1.toNatClampNeg)] m
      refine g_icmp_ne 54 dX12_comes_42 (by decide) (fun q3 => ?_) (fun q3 => ?_)
      · refine g_bipush (v := -2) dX12_comes_54 (by decide) ?_
        refine g_istore_n (ls2 := [(2, .int (-2 : Int32)), (0, .ref 535), (1, .int x1), (3, .int x3)]) dX12_comes_56 rfl (by decide) rfl ?_
        refine g_aload_n 1 dX12_comes_57 rfl rfl ?_
        refine g_ls [1, 2, 0, 3] (ls2 := [(0, .ref 535), (1, .int x1), (2, .int (-2 : Int32)), (3, .int x3)]) rfl ?_
        exact g_callV (As := []) (st := []) dX12_comes_58 clX12_368 sh535 rfl rfl (Nat.le_of_ble_eq_true rfl) (rmSH (by decide) (by decide)) (h4 q1 q2 q3)
      · refine g_aload_n 0 dX12_comes_45 rfl rfl ?_
        refine g_getR dX12_comes_46 fl12_9 rfl sh535 (w12_1 hW sh535) ?_
        refine g_iconst (v := 5) dX12_comes_49 (by decide) ?_
        refine g_iald (j := 5) dX12_comes_50 (s12_1 sh535) (by unfold vp_in; decide) (by decide) ?_
        refine g_goto 56 dX12_comes_51 (by decide) ?_
        refine g_istore_n (ls2 := [(2, .int (mI m 536 5)), (0, .ref 535), (1, .int x1), (3, .int x3)]) dX12_comes_56 rfl (by decide) rfl ?_
        refine g_aload_n 1 dX12_comes_57 rfl rfl ?_
        refine g_ls [1, 2, 0, 3] (ls2 := [(0, .ref 535), (1, .int x1), (2, .int (mI m 536 5)), (3, .int x3)]) rfl ?_
        exact g_callV (As := []) (st := []) dX12_comes_58 clX12_368 sh535 rfl rfl (Nat.le_of_ble_eq_true rfl) (rmSH (by decide) (by decide)) (h5 q1 q2 q3)
theorem bX12_comes_72 {X : pX} {Q : Option Value → pMem → Prop} {m : pMem} {x1 : Int32} {x2 : Int32} {x3 : Int32} (hW : Wf m)
    (h1 : Q (some (.int x2)) m) :
    Go X 7 mX12_comes Q 72 [(0, .ref 535), (1, .int x1), (2, .int x2), (3, .int x3)] [] m := by
  refine g_iload_n 2 dX12_comes_72 rfl rfl ?_
  exact g_iret dX12_comes_73 rfl enSH h1
theorem bX12_comes_61 {X : pX} {Q : Option Value → pMem → Prop} {m : pMem} {x1 : Int32} {x2 : Int32} {x3 : Int32} {xs0 : Int32} (hW : Wf m)
    (h1 : Go X 7 mX12_comes Q 19 [(0, .ref 535), (1, .int x1), (2, .int x2), (3, .int (x3 + (1 : Int32)))] [] m) :
    Go X 7 mX12_comes Q 61 [(0, .ref 535), (1, .int x1), (2, .int x2), (3, .int x3)] [.int xs0] m := by
  refine g_pop dX12_comes_61 rfl ?_
  refine g_iinc (v := x3 + (1 : Int32)) (ls2 := [(3, .int (x3 + (1 : Int32))), (0, .ref 535), (1, .int x1), (2, .int x2)]) 3 dX12_comes_62 rfl rfl (by decide) rfl ?_
  refine g_goto 19 dX12_comes_65 (by decide) ?_
  exact g_ls [1, 2, 3, 0] rfl h1
theorem bX12_wealthIn_0 {X : pX} {Q : Option Value → pMem → Prop} {m : pMem} {x1 : Int32} (hW : Wf m)
    (h1 : Cl X 7 mX12_goFor [.ref 535, .int x1] m (fun v m2 => Go X 8 mX12_wealthIn Q 5 [(0, .ref 535), (1, .int x1)] (v.toList ++ []) m2)) :
    Go X 8 mX12_wealthIn Q 0 [(0, .ref 535), (1, .int x1)] [] m := by
  refine g_aload_n 0 dX12_wealthIn_0 rfl rfl ?_
  refine g_iload_n 1 dX12_wealthIn_1 rfl rfl ?_
  exact g_callV (As := [.int x1]) (st := []) dX12_wealthIn_2 clX12_412 sh535 rfl rfl (Nat.le_of_ble_eq_true rfl) (rmSH (by decide) (by decide)) h1
theorem bX12_wealthIn_5 {X : pX} {Q : Option Value → pMem → Prop} {m : pMem} {x1 : Int32} (hW : Wf m)
    (h1 : vp_in (mI m 536 3) 5)
    (h2 : vp_in (mI m 536 4) 7)
    (h3 : Cl X 2 mX12_laysBack [.ref 535] m (fun v m2 => Go X 8 mX12_wealthIn Q 14 [(0, .ref 535), (1, .int x1), (2, .int (wTown (mI m 543) (mI m 537) (mI m 539) (mI m 536 2) (mI m 536 4).toNatClampNeg (mI m 536 3).toNatClampNeg))] (v.toList ++ []) m2)) :
    Go X 8 mX12_wealthIn Q 5 [(0, .ref 535), (1, .int x1)] [] m := by
  refine g_aload_n 0 dX12_wealthIn_5 rfl rfl ?_
  refine g_callV (As := []) (st := []) dX12_wealthIn_6 clX12_418 sh535 rfl rfl (Nat.le_of_ble_eq_true rfl) (rmSH (by decide) (by decide)) (s_wealthNow hW h1 h2 ?_)
  show Go X 8 mX12_wealthIn Q 9 [(0, .ref 535), (1, .int x1)] [.int (wTown (mI m 543) (mI m 537) (mI m 539) (mI m 536 2) (mI m 536 4).toNatClampNeg (mI m 536 3).toNatClampNeg)] m
  refine g_istore_n (ls2 := [(2, .int (wTown (mI m 543) (mI m 537) (mI m 539) (mI m 536 2) (mI m 536 4).toNatClampNeg (mI m 536 3).toNatClampNeg)), (0, .ref 535), (1, .int x1)]) dX12_wealthIn_9 rfl (by decide) rfl ?_
  refine g_aload_n 1 dX12_wealthIn_10 rfl rfl ?_
  refine g_ls [1, 2, 0] (ls2 := [(0, .ref 535), (1, .int x1), (2, .int (wTown (mI m 543) (mI m 537) (mI m 539) (mI m 536 2) (mI m 536 4).toNatClampNeg (mI m 536 3).toNatClampNeg))]) rfl ?_
  exact g_callV (As := []) (st := []) dX12_wealthIn_11 clX12_415 sh535 rfl rfl (Nat.le_of_ble_eq_true rfl) (rmSH (by decide) (by decide)) h3
theorem bX12_wealthIn_14 {X : pX} {Q : Option Value → pMem → Prop} {m : pMem} {x1 : Int32} {x2 : Int32} (hW : Wf m)
    (h1 : Q (some (.int x2)) m) :
    Go X 8 mX12_wealthIn Q 14 [(0, .ref 535), (1, .int x1), (2, .int x2)] [] m := by
  refine g_iload_n 2 dX12_wealthIn_14 rfl rfl ?_
  exact g_iret dX12_wealthIn_15 rfl enSH h1
theorem bX12_wealth_0 {X : pX} {Q : Option Value → pMem → Prop} {m : pMem} {x1 : Int32} (hW : Wf m)
    (h1 : mI m 536 0 = (1 : Int32) → ¬ x1 < (0 : Int32) ∧ ¬ (100 : Int32) < x1 → Cl X 2 mX12_keepsAll [.ref 535] m (fun v m2 => Go X 9 mX12_wealth Q 25 [(0, .ref 535), (1, .int x1)] (v.toList ++ []) m2))
    (h2 : mI m 536 0 = (1 : Int32) → ¬ (¬ x1 < (0 : Int32) ∧ ¬ (100 : Int32) < x1) → Q (some (.int (-1 : Int32))) m)
    (h3 : ¬ (mI m 536 0 = (1 : Int32)) → Q (some (.int (-1 : Int32))) m) :
    Go X 9 mX12_wealth Q 0 [(0, .ref 535), (1, .int x1)] [] m := by
  refine g_aload_n 0 dX12_wealth_0 rfl rfl ?_
  refine g_callV (As := []) (st := []) dX12_wealth_1 clX12_389 sh535 rfl rfl (Nat.le_of_ble_eq_true rfl) (rmSH (by decide) (by decide)) (s_isRoad hW (fun q1 => ?_) (fun q1 => ?_))
  · refine g_if_eq 19 dX12_wealth_4 (by decide) (fun q2 => absurd q2 (by decide)) (fun q2 => ?_)
    refine g_iload_n 1 dX12_wealth_7 rfl rfl ?_
    refine g_i2l dX12_wealth_8 ?_
    refine g_lconst (v := 0) dX12_wealth_9 (by decide) ?_
    refine g_ldc2 (v := 100) dX12_wealth_10 cjX12_407 ?_
    refine g_callS (As := [.long x1.toInt64, .long (0 : Int64), .long (100 : Int64)]) (st := []) dX12_wealth_13 clX12_128 rfl rfl (Nat.le_of_ble_eq_true rfl) (rmSH (by decide) (by decide)) (s_in (x := x1) (lo := (0 : Int32)) (hi := (100 : Int32)) hW (by first | rfl | decide) (by first | rfl | decide) (by first | rfl | decide) (fun q3 => ?_) (fun q3 => ?_))
    · refine g_if_ne 21 dX12_wealth_16 (by decide) (fun q4 => ?_) (fun q4 => absurd q4 (by decide))
      refine g_aload_n 0 dX12_wealth_21 rfl rfl ?_
      exact g_callV (As := []) (st := []) dX12_wealth_22 clX12_409 sh535 rfl rfl (Nat.le_of_ble_eq_true rfl) (rmSH (by decide) (by decide)) (h1 q1 q3)
    · refine g_if_ne 21 dX12_wealth_16 (by decide) (fun q5 => absurd q5 (by decide)) (fun q5 => ?_)
      refine g_iconst (v := -1) dX12_wealth_19 (by decide) ?_
      exact g_iret dX12_wealth_20 rfl enSH (h2 q1 q3)
  · refine g_if_eq 19 dX12_wealth_4 (by decide) (fun q6 => ?_) (fun q6 => absurd q6 (by decide))
    refine g_iconst (v := -1) dX12_wealth_19 (by decide) ?_
    exact g_iret dX12_wealth_20 rfl enSH (h3 q1)
theorem bX12_wealth_25 {X : pX} {Q : Option Value → pMem → Prop} {m : pMem} {x1 : Int32} (hW : Wf m)
    (h1 : Cl X 8 mX12_wealthIn [.ref 535, .int x1] m (fun v m2 => Go X 9 mX12_wealth Q 30 [(0, .ref 535), (1, .int x1)] (v.toList ++ []) m2)) :
    Go X 9 mX12_wealth Q 25 [(0, .ref 535), (1, .int x1)] [] m := by
  refine g_aload_n 0 dX12_wealth_25 rfl rfl ?_
  refine g_iload_n 1 dX12_wealth_26 rfl rfl ?_
  exact g_callV (As := [.int x1]) (st := []) dX12_wealth_27 clX12_421 sh535 rfl rfl (Nat.le_of_ble_eq_true rfl) (rmSH (by decide) (by decide)) h1
theorem bX12_wealth_30 {X : pX} {Q : Option Value → pMem → Prop} {m : pMem} {x1 : Int32} {xs0 : Int32} (hW : Wf m)
    (h1 : Q (some (.int xs0)) m) :
    Go X 9 mX12_wealth Q 30 [(0, .ref 535), (1, .int x1)] [.int xs0] m := by
  exact g_iret dX12_wealth_30 rfl enSH h1
theorem bX12_note_0 {X : pX} {Q : Option Value → pMem → Prop} {m : pMem} {x1 : Int32} {x2 : Int32} {x3 : Int32} (hW : Wf m)
    (h1 : ¬ x1 = (-1 : Int32) → ¬ x1 < (0 : Int32) ∧ ¬ (60 : Int32) < x1 → ¬ x2 < 0 ∧ ¬ (mI m 536 3 - (1 : Int32)) < x2 → ¬ x3 < (0 : Int32) ∧ ¬ (mI m 536 2) < x3 → ¬ (mI m 536 6) = (10 : Int32) → vp_in (mI m 536 6) 10)
    (h2 : ¬ x1 = (-1 : Int32) → ¬ x1 < (0 : Int32) ∧ ¬ (60 : Int32) < x1 → ¬ x2 < 0 ∧ ¬ (mI m 536 3 - (1 : Int32)) < x2 → ¬ x3 < (0 : Int32) ∧ ¬ (mI m 536 2) < x3 → ¬ (mI m 536 6) = (10 : Int32) → Q (some (.int ((mI m 536 6) + (1 : Int32)))) (uI (uI (uI (uI m 544 ((mI m 536 6).toNatClampNeg) x1) 545 ((mI m 536 6).toNatClampNeg) x2) 546 ((mI m 536 6).toNatClampNeg) x3) 536 6 ((mI m 536 6) + (1 : Int32))))
    (h3 : ¬ x1 = (-1 : Int32) → ¬ x1 < (0 : Int32) ∧ ¬ (60 : Int32) < x1 → ¬ x2 < 0 ∧ ¬ (mI m 536 3 - (1 : Int32)) < x2 → ¬ x3 < (0 : Int32) ∧ ¬ (mI m 536 2) < x3 → (mI m 536 6) = (10 : Int32) → Q (some (.int (-2 : Int32))) m)
    (h4 : ¬ x1 = (-1 : Int32) → ¬ x1 < (0 : Int32) ∧ ¬ (60 : Int32) < x1 → ¬ x2 < 0 ∧ ¬ (mI m 536 3 - (1 : Int32)) < x2 → ¬ (¬ x3 < (0 : Int32) ∧ ¬ (mI m 536 2) < x3) → Q (some (.int (-2 : Int32))) m)
    (h5 : ¬ x1 = (-1 : Int32) → ¬ x1 < (0 : Int32) ∧ ¬ (60 : Int32) < x1 → ¬ (¬ x2 < 0 ∧ ¬ (mI m 536 3 - (1 : Int32)) < x2) → Q (some (.int (-2 : Int32))) m)
    (h6 : ¬ x1 = (-1 : Int32) → ¬ (¬ x1 < (0 : Int32) ∧ ¬ (60 : Int32) < x1) → Q (some (.int (-2 : Int32))) m)
    (h7 : x1 = (-1 : Int32) → Q (some (.int (0 : Int32))) (uI m 536 6 (0 : Int32))) :
    Go X 2 mX12_note Q 0 [(0, .ref 535), (1, .int x1), (2, .int x2), (3, .int x3)] [] m := by
  refine g_iload_n 1 dX12_note_0 rfl rfl ?_
  refine g_iconst (v := -1) dX12_note_1 (by decide) ?_
  refine g_icmp_ne 15 dX12_note_2 (by decide) (fun q1 => ?_) (fun q1 => ?_)
  · refine g_aload_n 0 dX12_note_15 rfl rfl ?_
    refine g_getR dX12_note_16 fl12_9 rfl sh535 (w12_1 hW sh535) ?_
    refine g_bipush (v := 6) dX12_note_19 (by decide) ?_
    refine g_iald (j := 6) dX12_note_21 (s12_1 sh535) (by unfold vp_in; decide) (by decide) ?_
    refine g_istore (ls2 := [(4, .int (mI m 536 6)), (0, .ref 535), (1, .int x1), (2, .int x2), (3, .int x3)]) dX12_note_22 (by decide) rfl ?_
    refine g_iload_n 2 dX12_note_24 rfl rfl ?_
    refine g_i2l dX12_note_25 ?_
    refine g_lconst (v := 0) dX12_note_26 (by decide) ?_
    refine g_ldc2 (v := 60) dX12_note_27 cjX12_431 ?_
    refine g_callS (As := [.long x1.toInt64, .long (0 : Int64), .long (60 : Int64)]) (st := []) dX12_note_30 clX12_128 rfl rfl (Nat.le_of_ble_eq_true rfl) (rmSH (by decide) (by decide)) (s_in (x := x1) (lo := (0 : Int32)) (hi := (60 : Int32)) hW (by first | rfl | decide) (by first | rfl | decide) (by first | rfl | decide) (fun q2 => ?_) (fun q2 => ?_))
    · refine g_if_eq 65 dX12_note_33 (by decide) (fun q3 => absurd q3 (by decide)) (fun q3 => ?_)
      refine g_aload_n 1 dX12_note_36 rfl rfl ?_
      refine g_iload_n 3 dX12_note_37 rfl rfl ?_
      refine g_callV (As := [.int x2]) (st := []) dX12_note_38 clX12_334 sh535 rfl rfl (Nat.le_of_ble_eq_true rfl) (rmSH (by decide) (by decide)) (s_mPerson hW (fun q4 => ?_) (fun q4 => ?_))
      · refine g_if_eq 65 dX12_note_41 (by decide) (fun q5 => absurd q5 (by decide)) (fun q5 => ?_)
        refine g_iload_n 4 dX12_note_44 rfl rfl ?_
        refine g_i2l dX12_note_45 ?_
        refine g_lconst (v := 0) dX12_note_46 (by decide) ?_
        refine g_aload_n 1 dX12_note_47 rfl rfl ?_
        refine g_callV (As := []) (st := [.long (0 : Int64), .long x3.toInt64]) dX12_note_48 clX12_352 sh535 rfl rfl (Nat.le_of_ble_eq_true rfl) (rmSH (by decide) (by decide)) (s_town hW ?_)
        show Go X 2 mX12_note Q 51 [(4, .int (mI m 536 6)), (0, .ref 535), (1, .int x1), (2, .int x2), (3, .int x3)] [.int (mI m 536 2), .long (0 : Int64), .long x3.toInt64] m
        refine g_i2l dX12_note_51 ?_
        refine g_callS (As := [.long x3.toInt64, .long (0 : Int64), .long ((mI m 536 2).toInt64)]) (st := []) dX12_note_52 clX12_128 rfl rfl (Nat.le_of_ble_eq_true rfl) (rmSH (by decide) (by decide)) (s_in (x := x3) (lo := (0 : Int32)) (hi := (mI m 536 2)) hW (by first | rfl | decide) (by first | rfl | decide) (by first | rfl | decide) (fun q6 => ?_) (fun q6 => ?_))
        · refine g_if_eq 65 dX12_note_55 (by decide) (fun q7 => absurd q7 (by decide)) (fun q7 => ?_)
          refine g_iload 0 dX12_note_58 rfl ?_
          refine g_bipush (v := 10) dX12_note_60 (by decide) ?_
          refine g_icmp_ne 68 dX12_note_62 (by decide) (fun q8 => ?_) (fun q8 => ?_)
          · refine g_aload_n 1 dX12_note_68 rfl rfl ?_
            refine g_getR dX12_note_69 fl12_34 rfl sh535 (w12_9 hW sh535) ?_
            refine g_iload 0 dX12_note_72 rfl ?_
            refine g_iload_n 2 dX12_note_74 rfl rfl ?_
            refine g_iast (j := (mI m 536 6).toNatClampNeg) dX12_note_75 (s12_9 sh535) (h1 q1 q2 q4 q6 q8) rfl ?_
            refine g_aload_n 1 dX12_note_76 rfl rfl ?_
            refine g_getR dX12_note_77 fl12_37 rfl sh535 (w12_10 hW sh535) ?_
            refine g_iload 0 dX12_note_80 rfl ?_
            refine g_iload_n 3 dX12_note_82 rfl rfl ?_
            refine g_iast (j := (mI m 536 6).toNatClampNeg) dX12_note_83 (s12_10 sh535) (h1 q1 q2 q4 q6 q8) rfl ?_
            refine g_aload_n 1 dX12_note_84 rfl rfl ?_
            refine g_getR dX12_note_85 fl12_40 rfl sh535 (w12_11 hW sh535) ?_
            refine g_iload 0 dX12_note_88 rfl ?_
            refine g_iload_n 4 dX12_note_90 rfl rfl ?_
            refine g_iast (j := (mI m 536 6).toNatClampNeg) dX12_note_91 (s12_11 sh535) (h1 q1 q2 q4 q6 q8) rfl ?_
            refine g_aload_n 1 dX12_note_92 rfl rfl ?_
            refine g_getR dX12_note_93 fl12_9 rfl sh535 (w12_1 hW sh535) ?_
            refine g_bipush (v := 6) dX12_note_96 (by decide) ?_
            refine g_dup2 dX12_note_98 rfl rfl ?_
            refine g_iald (j := 6) dX12_note_99 (s12_1 sh535) (by unfold vp_in; decide) (by decide) ?_
            refine g_iconst (v := 1) dX12_note_100 (by decide) ?_
            refine g_iadd dX12_note_101 ?_
            refine g_iast (j := 6) dX12_note_102 (s12_1 sh535) (by unfold vp_in; decide) (by decide) ?_
            refine g_iload 0 dX12_note_103 rfl ?_
            refine g_iconst (v := 1) dX12_note_105 (by decide) ?_
            refine g_iadd dX12_note_106 ?_
            exact g_iret dX12_note_107 rfl enSH (h2 q1 q2 q4 q6 q8)
          · refine g_bipush (v := -2) dX12_note_65 (by decide) ?_
            exact g_iret dX12_note_67 rfl enSH (h3 q1 q2 q4 q6 q8)
        · refine g_if_eq 65 dX12_note_55 (by decide) (fun q9 => ?_) (fun q9 => absurd q9 (by decide))
          refine g_bipush (v := -2) dX12_note_65 (by decide) ?_
          exact g_iret dX12_note_67 rfl enSH (h4 q1 q2 q4 q6)
      · refine g_if_eq 65 dX12_note_41 (by decide) (fun q10 => ?_) (fun q10 => absurd q10 (by decide))
        refine g_bipush (v := -2) dX12_note_65 (by decide) ?_
        exact g_iret dX12_note_67 rfl enSH (h5 q1 q2 q4)
    · refine g_if_eq 65 dX12_note_33 (by decide) (fun q11 => ?_) (fun q11 => absurd q11 (by decide))
      refine g_bipush (v := -2) dX12_note_65 (by decide) ?_
      exact g_iret dX12_note_67 rfl enSH (h6 q1 q2)
  · refine g_aload_n 0 dX12_note_5 rfl rfl ?_
    refine g_getR dX12_note_6 fl12_9 rfl sh535 (w12_1 hW sh535) ?_
    refine g_bipush (v := 6) dX12_note_9 (by decide) ?_
    refine g_iconst (v := 0) dX12_note_11 (by decide) ?_
    refine g_iast (j := 6) dX12_note_12 (s12_1 sh535) (by unfold vp_in; decide) (by decide) ?_
    refine g_iconst (v := 0) dX12_note_13 (by decide) ?_
    exact g_iret dX12_note_14 rfl enSH (h7 q1)
theorem bX10_addNote_0 {X : pX} {Q : Option Value → pMem → Prop} {m : pMem} {a0 : Nat} {x1 : Int32} {x2 : Int32} {x3 : Int32} (hW : Wf m) (c0 : SH[a0]? = some (.inl 10))
    (h1 : Cl X 0 mX10_canNote [.ref a0] m (fun v m2 => Go X 1 mX10_addNote Q 4 [(0, .ref a0), (1, .int x1), (2, .int x2), (3, .int x3)] (v.toList ++ []) m2)) :
    Go X 1 mX10_addNote Q 0 [(0, .ref a0), (1, .int x1), (2, .int x2), (3, .int x3)] [] m := by
  refine g_aload_n 0 dX10_addNote_0 rfl rfl ?_
  exact g_callV (As := []) (st := []) dX10_addNote_1 clX10_75 c0 rfl rfl (Nat.le_of_ble_eq_true rfl) (rmSH (by decide) (by decide)) h1
theorem bX10_addNote_4 {X : pX} {Q : Option Value → pMem → Prop} {m : pMem} {a0 : Nat} {x1 : Int32} {x2 : Int32} {x3 : Int32} {xs0 : Int32} (hW : Wf m) (c0 : SH[a0]? = some (.inl 10))
    (h1 : xs0 = 0 → Q none m)
    (h2 : ¬ (xs0 = 0) → vp_in (mI m a0 5) 10)
    (h3 : ¬ (xs0 = 0) → vp_in (mI (uI m (a0 + 93) ((mI m a0 5).toNatClampNeg) x1) a0 5) 10)
    (h4 : ¬ (xs0 = 0) → vp_in (mI (uI (uI m (a0 + 93) ((mI m a0 5).toNatClampNeg) x1) (a0 + 94) ((mI (uI m (a0 + 93) ((mI m a0 5).toNatClampNeg) x1) a0 5).toNatClampNeg) x2) a0 5) 10)
    (h5 : ¬ (xs0 = 0) → Q none (uI (uI (uI (uI m (a0 + 93) ((mI m a0 5).toNatClampNeg) x1) (a0 + 94) ((mI (uI m (a0 + 93) ((mI m a0 5).toNatClampNeg) x1) a0 5).toNatClampNeg) x2) (a0 + 95) ((mI (uI (uI m (a0 + 93) ((mI m a0 5).toNatClampNeg) x1) (a0 + 94) ((mI (uI m (a0 + 93) ((mI m a0 5).toNatClampNeg) x1) a0 5).toNatClampNeg) x2) a0 5).toNatClampNeg) x3) a0 5 ((mI (uI (uI (uI m (a0 + 93) ((mI m a0 5).toNatClampNeg) x1) (a0 + 94) ((mI (uI m (a0 + 93) ((mI m a0 5).toNatClampNeg) x1) a0 5).toNatClampNeg) x2) (a0 + 95) ((mI (uI (uI m (a0 + 93) ((mI m a0 5).toNatClampNeg) x1) (a0 + 94) ((mI (uI m (a0 + 93) ((mI m a0 5).toNatClampNeg) x1) a0 5).toNatClampNeg) x2) a0 5).toNatClampNeg) x3) a0 5) + (1 : Int32)))) :
    Go X 1 mX10_addNote Q 4 [(0, .ref a0), (1, .int x1), (2, .int x2), (3, .int x3)] [.int xs0] m := by
  refine g_if_eq 47 dX10_addNote_4 (by decide) (fun q1 => ?_) (fun q1 => ?_)
  · exact g_vret dX10_addNote_47 rfl enSH (h1 q1)
  · refine g_aload_n 0 dX10_addNote_7 rfl rfl ?_
    refine g_getR dX10_addNote_8 fl10_36 rfl c0 (w10_6 hW c0) ?_
    refine g_aload_n 0 dX10_addNote_11 rfl rfl ?_
    refine g_getI dX10_addNote_12 fl10_58 c0 ?_
    refine g_iload_n 1 dX10_addNote_15 rfl rfl ?_
    refine g_iast (j := (mI m a0 5).toNatClampNeg) dX10_addNote_16 (s10_6 c0) (h2 q1) rfl ?_
    refine g_aload_n 0 dX10_addNote_17 rfl rfl ?_
    refine g_getR dX10_addNote_18 fl10_40 rfl c0 (w10_7 hW c0) ?_
    refine g_aload_n 0 dX10_addNote_21 rfl rfl ?_
    refine g_getI dX10_addNote_22 fl10_58 c0 ?_
    refine g_iload_n 2 dX10_addNote_25 rfl rfl ?_
    refine g_iast (j := (mI (uI m (a0 + 93) ((mI m a0 5).toNatClampNeg) x1) a0 5).toNatClampNeg) dX10_addNote_26 (s10_7 c0) (h3 q1) rfl ?_
    refine g_aload_n 0 dX10_addNote_27 rfl rfl ?_
    refine g_getR dX10_addNote_28 fl10_43 rfl c0 (w10_8 hW c0) ?_
    refine g_aload_n 0 dX10_addNote_31 rfl rfl ?_
    refine g_getI dX10_addNote_32 fl10_58 c0 ?_
    refine g_iload_n 3 dX10_addNote_35 rfl rfl ?_
    refine g_iast (j := (mI (uI (uI m (a0 + 93) ((mI m a0 5).toNatClampNeg) x1) (a0 + 94) ((mI (uI m (a0 + 93) ((mI m a0 5).toNatClampNeg) x1) a0 5).toNatClampNeg) x2) a0 5).toNatClampNeg) dX10_addNote_36 (s10_8 c0) (h4 q1) rfl ?_
    refine g_aload_n 0 dX10_addNote_37 rfl rfl ?_
    refine g_dup dX10_addNote_38 rfl ?_
    refine g_getI dX10_addNote_39 fl10_58 c0 ?_
    refine g_iconst (v := 1) dX10_addNote_42 (by decide) ?_
    refine g_iadd dX10_addNote_43 ?_
    refine g_putI dX10_addNote_44 fl10_58 (fun h => by cases h) c0 ?_
    exact g_vret dX10_addNote_47 rfl enSH (h5 q1)
theorem bX11_goOnFromNow_0 {X : pX} {Q : Option Value → pMem → Prop} {m : pMem} {x1 : Int32} (hW : Wf m)
    (h1 : Cl X 1 mX11_inForce [.ref 0] (cpS m 523 37) (fun v m2 => Go X 6 mX11_goOnFromNow Q 26 [(0, .ref 0), (1, .int x1)] (v.toList ++ [.ref 523, .ref 512]) m2)) :
    Go X 6 mX11_goOnFromNow Q 0 [(0, .ref 0), (1, .int x1)] [] m := by
  refine g_aload_n 0 dX11_goOnFromNow_0 rfl rfl ?_
  refine g_getR dX11_goOnFromNow_1 fl11_90 rfl sh0 (w11_11 hW sh0) ?_
  refine g_aload_n 0 dX11_goOnFromNow_4 rfl rfl ?_
  refine g_getR dX11_goOnFromNow_5 fl11_42 rfl sh0 (w11_5 hW sh0) ?_
  refine g_getR dX11_goOnFromNow_8 fl11_69 rfl sh30 (w10_1 hW sh30) ?_
  refine g_callV (As := [.ref 37]) (st := []) dX11_goOnFromNow_11 clX11_252 sh523 rfl rfl (Nat.le_of_ble_eq_true rfl) (rmSH (by decide) (by decide)) (s_copyS hW sh523 (s10_1 sh30) ?_)
  show Go X 6 mX11_goOnFromNow Q 14 [(0, .ref 0), (1, .int x1)] [] (cpS m 523 37)
  refine g_aload_n 0 dX11_goOnFromNow_14 rfl rfl ?_
  refine g_getR dX11_goOnFromNow_15 fl11_63 rfl sh0 (w11_8 hW sh0) ?_
  refine g_aload_n 0 dX11_goOnFromNow_18 rfl rfl ?_
  refine g_getR dX11_goOnFromNow_19 fl11_90 rfl sh0 (w11_11 hW sh0) ?_
  refine g_aload_n 0 dX11_goOnFromNow_22 rfl rfl ?_
  exact g_callV (As := []) (st := [.ref 523, .ref 512]) dX11_goOnFromNow_23 clX11_225 sh0 rfl rfl (Nat.le_of_ble_eq_true rfl) (rmSH (by decide) (by decide)) h1
theorem bX11_goOnFromNow_26 {X : pX} {Q : Option Value → pMem → Prop} {m : pMem} {x1 : Int32} {as0 : Nat} {as1 : Nat} (hW : Wf m) (cs0 : SH[as0]? = some (.inl 6)) (cs1 : SH[as1]? = some (.inl 8))
    (h1 : Cl X 5 mX0_goOn [.ref 512, .ref as1, .ref as0, .int x1] m (fun v m2 => Go X 6 mX11_goOnFromNow Q 30 [(0, .ref 0), (1, .int x1)] (v.toList ++ []) m2)) :
    Go X 6 mX11_goOnFromNow Q 26 [(0, .ref 0), (1, .int x1)] [.ref as0, .ref as1, .ref 512] m := by
  refine g_iload_n 1 dX11_goOnFromNow_26 rfl rfl ?_
  exact g_callV (As := [.ref as1, .ref as0, .int x1]) (st := []) dX11_goOnFromNow_27 clX11_259 sh512 rfl rfl (Nat.le_of_ble_eq_true rfl) (rmSH (by decide) (by decide)) h1
theorem bX11_goOnFromNow_26v1 {X : pX} {Q : Option Value → pMem → Prop} {m : pMem} {x1 : Int32} {as1 : Nat} (hW : Wf m) (cs1 : SH[as1]? = some (.inl 8))
    (h1 : Cl X 5 mX0_goOn [.ref 512, .ref as1, .null, .int x1] m (fun v m2 => Go X 6 mX11_goOnFromNow Q 30 [(0, .ref 0), (1, .int x1)] (v.toList ++ []) m2)) :
    Go X 6 mX11_goOnFromNow Q 26 [(0, .ref 0), (1, .int x1)] [.null, .ref as1, .ref 512] m := by
  refine g_iload_n 1 dX11_goOnFromNow_26 rfl rfl ?_
  exact g_callV (As := [.ref as1, .null, .int x1]) (st := []) dX11_goOnFromNow_27 clX11_259 sh512 rfl rfl (Nat.le_of_ble_eq_true rfl) (rmSH (by decide) (by decide)) h1
theorem bX11_goOnFromNow_30 {X : pX} {Q : Option Value → pMem → Prop} {m : pMem} {x1 : Int32} (hW : Wf m)
    (h1 : Q none m) :
    Go X 6 mX11_goOnFromNow Q 30 [(0, .ref 0), (1, .int x1)] [] m := by
  exact g_vret dX11_goOnFromNow_30 rfl enSH h1
theorem bX11_ahead_0 {X : pX} {Q : Option Value → pMem → Prop} {m : pMem} {x1 : Int32} {x2 : Int32} {x3 : Int32} (hW : Wf m)
    (h1 : ¬ x3 = (2 : Int32) → Go X 7 mX11_ahead Q 10 [(0, .ref 0), (1, .int x1), (2, .int x2), (3, .int x3)] [.int (0 : Int32)] m)
    (h2 : x3 = (2 : Int32) → Go X 7 mX11_ahead Q 10 [(0, .ref 0), (1, .int x1), (2, .int x2), (3, .int x3)] [.int (1 : Int32)] m) :
    Go X 7 mX11_ahead Q 0 [(0, .ref 0), (1, .int x1), (2, .int x2), (3, .int x3)] [] m := by
  refine g_iload_n 3 dX11_ahead_0 rfl rfl ?_
  refine g_iconst (v := 2) dX11_ahead_1 (by decide) ?_
  refine g_icmp_ne 9 dX11_ahead_2 (by decide) (fun q1 => ?_) (fun q1 => ?_)
  · refine g_iconst (v := 0) dX11_ahead_9 (by decide) ?_
    exact g_ls [0, 1, 2, 3] rfl (h1 q1)
  · refine g_iconst (v := 1) dX11_ahead_5 (by decide) ?_
    refine g_goto 10 dX11_ahead_6 (by decide) ?_
    exact g_ls [0, 1, 2, 3] rfl (h2 q1)
theorem bX11_ahead_10 {X : pX} {Q : Option Value → pMem → Prop} {m : pMem} {x1 : Int32} {x2 : Int32} {x3 : Int32} (hW : Wf m)
    (h1 : ¬ x1 < 0 ∧ ¬ mI m 31 3 ≤ x1 ∧ ¬ (4 : Int32) ≤ x1 → Go X 7 mX11_ahead Q 42 [(0, .ref 0), (1, .int x1), (2, .int x2), (3, .int x3), (4, .int (0 : Int32))] [.int (1 : Int32)] m)
    (h2 : ¬ (¬ x1 < 0 ∧ ¬ mI m 31 3 ≤ x1 ∧ ¬ (4 : Int32) ≤ x1) → Go X 7 mX11_ahead Q 42 [(0, .ref 0), (1, .int x1), (2, .int x2), (3, .int x3), (4, .int (0 : Int32))] [.int (0 : Int32)] m) :
    Go X 7 mX11_ahead Q 10 [(0, .ref 0), (1, .int x1), (2, .int x2), (3, .int x3)] [.int (0 : Int32)] m := by
  refine g_istore (ls2 := [(4, .int (0 : Int32)), (0, .ref 0), (1, .int x1), (2, .int x2), (3, .int x3)]) dX11_ahead_10 (by decide) rfl ?_
  refine g_iload 0 dX11_ahead_12 rfl ?_
  refine g_if_eq 31 dX11_ahead_14 (by decide) (fun q1 => ?_) (fun q1 => absurd q1 (by decide))
  refine g_aload_n 1 dX11_ahead_31 rfl rfl ?_
  refine g_getR dX11_ahead_32 fl11_42 rfl sh0 (w11_5 hW sh0) ?_
  refine g_getR dX11_ahead_35 fl11_56 rfl sh30 (w10_0 hW sh30) ?_
  refine g_iload_n 2 dX11_ahead_38 rfl rfl ?_
  refine g_callV (As := [.int x1]) (st := []) dX11_ahead_39 clX11_135 (s10_0 sh30) rfl rfl (Nat.le_of_ble_eq_true rfl) (rmSH (by decide) (by decide)) (s_isPerson hW (s10_0 sh30) (fun q2 => ?_) (fun q2 => ?_))
  · exact g_ls [1, 2, 3, 4, 0] rfl (h1 q2)
  · exact g_ls [1, 2, 3, 4, 0] rfl (h2 q2)
theorem bX11_ahead_10v1 {X : pX} {Q : Option Value → pMem → Prop} {m : pMem} {x1 : Int32} {x2 : Int32} {x3 : Int32} (hW : Wf m)
    (h1 : ¬ x1 < 0 ∧ ¬ mI m 31 4 ≤ x1 ∧ ¬ (6 : Int32) ≤ x1 → Go X 7 mX11_ahead Q 42 [(0, .ref 0), (1, .int x1), (2, .int x2), (3, .int x3), (4, .int (1 : Int32))] [.int (1 : Int32)] m)
    (h2 : ¬ (¬ x1 < 0 ∧ ¬ mI m 31 4 ≤ x1 ∧ ¬ (6 : Int32) ≤ x1) → Go X 7 mX11_ahead Q 42 [(0, .ref 0), (1, .int x1), (2, .int x2), (3, .int x3), (4, .int (1 : Int32))] [.int (0 : Int32)] m) :
    Go X 7 mX11_ahead Q 10 [(0, .ref 0), (1, .int x1), (2, .int x2), (3, .int x3)] [.int (1 : Int32)] m := by
  refine g_istore (ls2 := [(4, .int (1 : Int32)), (0, .ref 0), (1, .int x1), (2, .int x2), (3, .int x3)]) dX11_ahead_10 (by decide) rfl ?_
  refine g_iload 0 dX11_ahead_12 rfl ?_
  refine g_if_eq 31 dX11_ahead_14 (by decide) (fun q1 => absurd q1 (by decide)) (fun q1 => ?_)
  refine g_aload_n 1 dX11_ahead_17 rfl rfl ?_
  refine g_getR dX11_ahead_18 fl11_42 rfl sh0 (w11_5 hW sh0) ?_
  refine g_getR dX11_ahead_21 fl11_56 rfl sh30 (w10_0 hW sh30) ?_
  refine g_iload_n 2 dX11_ahead_24 rfl rfl ?_
  refine g_callV (As := [.int x1]) (st := []) dX11_ahead_25 clX11_158 (s10_0 sh30) rfl rfl (Nat.le_of_ble_eq_true rfl) (rmSH (by decide) (by decide)) (s_isThing hW (s10_0 sh30) (fun q2 => ?_) (fun q2 => ?_))
  · refine g_goto 42 dX11_ahead_28 (by decide) ?_
    exact g_ls [1, 2, 3, 4, 0] rfl (h1 q2)
  · refine g_goto 42 dX11_ahead_28 (by decide) ?_
    exact g_ls [1, 2, 3, 4, 0] rfl (h2 q2)
theorem bX11_ahead_42 {X : pX} {Q : Option Value → pMem → Prop} {m : pMem} {x1 : Int32} {x2 : Int32} {x3 : Int32} {x4 : Int32} (hW : Wf m)
    (h1 : x3 < 0 → Q (some (.int (-2 : Int32))) m)
    (h2 : ¬ (x3 < 0) → (2 : Int32) < x3 → Q (some (.int (-2 : Int32))) m)
    (h3 : ¬ (x3 < 0) → ¬ ((2 : Int32) < x3) → x2 < 0 → Q (some (.int (-2 : Int32))) m)
    (h4 : ¬ (x3 < 0) → ¬ ((2 : Int32) < x3) → ¬ (x2 < 0) → x2 ≤ (100 : Int32) → Cl X 6 mX11_goOnFromNow [.ref 0, .int x2] m (fun v m2 => Go X 7 mX11_ahead Q 76 [(0, .ref 0), (1, .int x1), (2, .int x2), (3, .int x3), (4, .int x4), (5, .int (1 : Int32))] (v.toList ++ []) m2))
    (h5 : ¬ (x3 < 0) → ¬ ((2 : Int32) < x3) → ¬ (x2 < 0) → ¬ (x2 ≤ (100 : Int32)) → Q (some (.int (-2 : Int32))) m) :
    Go X 7 mX11_ahead Q 42 [(0, .ref 0), (1, .int x1), (2, .int x2), (3, .int x3), (4, .int x4)] [.int (1 : Int32)] m := by
  refine g_istore (ls2 := [(5, .int (1 : Int32)), (0, .ref 0), (1, .int x1), (2, .int x2), (3, .int x3), (4, .int x4)]) dX11_ahead_42 (by decide) rfl ?_
  refine g_iload 0 dX11_ahead_44 rfl ?_
  refine g_if_eq 68 dX11_ahead_46 (by decide) (fun q1 => absurd q1 (by decide)) (fun q1 => ?_)
  refine g_iload_n 4 dX11_ahead_49 rfl rfl ?_
  refine g_if_lt 68 dX11_ahead_50 (by decide) (fun q2 => ?_) (fun q2 => ?_)
  · refine g_bipush (v := -2) dX11_ahead_68 (by decide) ?_
    exact g_iret dX11_ahead_70 rfl enSH (h1 q2)
  · refine g_iload_n 4 dX11_ahead_53 rfl rfl ?_
    refine g_iconst (v := 2) dX11_ahead_54 (by decide) ?_
    refine g_icmp_gt 68 dX11_ahead_55 (by decide) (fun q3 => ?_) (fun q3 => ?_)
    · refine g_bipush (v := -2) dX11_ahead_68 (by decide) ?_
      exact g_iret dX11_ahead_70 rfl enSH (h2 q2 q3)
    · refine g_iload_n 3 dX11_ahead_58 rfl rfl ?_
      refine g_if_lt 68 dX11_ahead_59 (by decide) (fun q4 => ?_) (fun q4 => ?_)
      · refine g_bipush (v := -2) dX11_ahead_68 (by decide) ?_
        exact g_iret dX11_ahead_70 rfl enSH (h3 q2 q3 q4)
      · refine g_iload_n 3 dX11_ahead_62 rfl rfl ?_
        refine g_bipush (v := 100) dX11_ahead_63 (by decide) ?_
        refine g_icmp_le 71 dX11_ahead_65 (by decide) (fun q5 => ?_) (fun q5 => ?_)
        · refine g_aload_n 1 dX11_ahead_71 rfl rfl ?_
          refine g_iload_n 3 dX11_ahead_72 rfl rfl ?_
          refine g_ls [1, 2, 3, 4, 5, 0] (ls2 := [(0, .ref 0), (1, .int x1), (2, .int x2), (3, .int x3), (4, .int x4), (5, .int (1 : Int32))]) rfl ?_
          exact g_callV (As := [.int x2]) (st := []) dX11_ahead_73 clX11_249 sh0 rfl rfl (Nat.le_of_ble_eq_true rfl) (rmSH (by decide) (by decide)) (h4 q2 q3 q4 q5)
        · refine g_bipush (v := -2) dX11_ahead_68 (by decide) ?_
          exact g_iret dX11_ahead_70 rfl enSH (h5 q2 q3 q4 q5)
theorem bX11_ahead_42v1 {X : pX} {Q : Option Value → pMem → Prop} {m : pMem} {x1 : Int32} {x2 : Int32} {x3 : Int32} {x4 : Int32} (hW : Wf m)
    (h1 : Q (some (.int (-2 : Int32))) m) :
    Go X 7 mX11_ahead Q 42 [(0, .ref 0), (1, .int x1), (2, .int x2), (3, .int x3), (4, .int x4)] [.int (0 : Int32)] m := by
  refine g_istore (ls2 := [(5, .int (0 : Int32)), (0, .ref 0), (1, .int x1), (2, .int x2), (3, .int x3), (4, .int x4)]) dX11_ahead_42 (by decide) rfl ?_
  refine g_iload 0 dX11_ahead_44 rfl ?_
  refine g_if_eq 68 dX11_ahead_46 (by decide) (fun q1 => ?_) (fun q1 => absurd q1 (by decide))
  refine g_bipush (v := -2) dX11_ahead_68 (by decide) ?_
  exact g_iret dX11_ahead_70 rfl enSH h1
theorem bX11_ahead_76 {X : pX} {Q : Option Value → pMem → Prop} {m : pMem} {x1 : Int32} {x2 : Int32} {x3 : Int32} {x4 : Int32} {x5 : Int32} (hW : Wf m)
    (h1 : x4 = 0 → ¬ x3 = 0 → vp_in x1 4)
    (h2 : x4 = 0 → ¬ x3 = 0 → Q (some (.int (mI m 525 x1.toNatClampNeg))) m)
    (h3 : x4 = 0 → x3 = 0 → vp_in x1 4)
    (h4 : x4 = 0 → x3 = 0 → Q (some (.int (mI m 524 x1.toNatClampNeg))) m)
    (h5 : ¬ (x4 = 0) → vp_in x1 6)
    (h6 : ¬ (x4 = 0) → Q (some (.int (mI m 526 x1.toNatClampNeg))) m) :
    Go X 7 mX11_ahead Q 76 [(0, .ref 0), (1, .int x1), (2, .int x2), (3, .int x3), (4, .int x4), (5, .int x5)] [] m := by
  refine g_iload 4 dX11_ahead_76 rfl ?_
  refine g_if_eq 91 dX11_ahead_78 (by decide) (fun q1 => ?_) (fun q1 => ?_)
  · refine g_iload_n 3 dX11_ahead_91 rfl rfl ?_
    refine g_if_ne 107 dX11_ahead_92 (by decide) (fun q2 => ?_) (fun q2 => ?_)
    · refine g_aload_n 0 dX11_ahead_107 rfl rfl ?_
      refine g_getR dX11_ahead_108 fl11_90 rfl sh0 (w11_11 hW sh0) ?_
      refine g_getR dX11_ahead_111 fl11_149 rfl sh523 (w8_2 hW sh523) ?_
      refine g_iload_n 1 dX11_ahead_114 rfl rfl ?_
      refine g_iald (j := x1.toNatClampNeg) dX11_ahead_115 (s8_2 sh523) (h1 q1 q2) rfl ?_
      exact g_iret dX11_ahead_116 rfl enSH (h2 q1 q2)
    · refine g_aload_n 0 dX11_ahead_95 rfl rfl ?_
      refine g_getR dX11_ahead_96 fl11_90 rfl sh0 (w11_11 hW sh0) ?_
      refine g_getR dX11_ahead_99 fl11_146 rfl sh523 (w8_1 hW sh523) ?_
      refine g_iload_n 1 dX11_ahead_102 rfl rfl ?_
      refine g_iald (j := x1.toNatClampNeg) dX11_ahead_103 (s8_1 sh523) (h3 q1 q2) rfl ?_
      refine g_goto 116 dX11_ahead_104 (by decide) ?_
      exact g_iret dX11_ahead_116 rfl enSH (h4 q1 q2)
  · refine g_aload_n 0 dX11_ahead_81 rfl rfl ?_
    refine g_getR dX11_ahead_82 fl11_90 rfl sh0 (w11_11 hW sh0) ?_
    refine g_getR dX11_ahead_85 fl11_167 rfl sh523 (w8_3 hW sh523) ?_
    refine g_iload_n 1 dX11_ahead_88 rfl rfl ?_
    refine g_iald (j := x1.toNatClampNeg) dX11_ahead_89 (s8_3 sh523) (h5 q1) rfl ?_
    exact g_iret dX11_ahead_90 rfl enSH (h6 q1)
theorem bX11_comes_0 {X : pX} {Q : Option Value → pMem → Prop} {m : pMem} {x1 : Int32} (hW : Wf m)
    (h1 : ¬ x1 < 0 ∧ ¬ mI m 31 3 ≤ x1 ∧ ¬ (4 : Int32) ≤ x1 → Go X 5 mX11_comes Q 32 [(0, .ref 0), (1, .int x1), (2, .int (0 : Int32))] [] (cpS m 523 37))
    (h2 : ¬ (¬ x1 < 0 ∧ ¬ mI m 31 3 ≤ x1 ∧ ¬ (4 : Int32) ≤ x1) → Q (some (.int (-1 : Int32))) m) :
    Go X 5 mX11_comes Q 0 [(0, .ref 0), (1, .int x1)] [] m := by
  refine g_aload_n 0 dX11_comes_0 rfl rfl ?_
  refine g_getR dX11_comes_1 fl11_42 rfl sh0 (w11_5 hW sh0) ?_
  refine g_getR dX11_comes_4 fl11_56 rfl sh30 (w10_0 hW sh30) ?_
  refine g_iload_n 1 dX11_comes_7 rfl rfl ?_
  refine g_callV (As := [.int x1]) (st := []) dX11_comes_8 clX11_135 (s10_0 sh30) rfl rfl (Nat.le_of_ble_eq_true rfl) (rmSH (by decide) (by decide)) (s_isPerson hW (s10_0 sh30) (fun q1 => ?_) (fun q1 => ?_))
  · refine g_if_ne 16 dX11_comes_11 (by decide) (fun q2 => ?_) (fun q2 => absurd q2 (by decide))
    refine g_aload_n 0 dX11_comes_16 rfl rfl ?_
    refine g_getR dX11_comes_17 fl11_90 rfl sh0 (w11_11 hW sh0) ?_
    refine g_aload_n 0 dX11_comes_20 rfl rfl ?_
    refine g_getR dX11_comes_21 fl11_42 rfl sh0 (w11_5 hW sh0) ?_
    refine g_getR dX11_comes_24 fl11_69 rfl sh30 (w10_1 hW sh30) ?_
    refine g_callV (As := [.ref 37]) (st := []) dX11_comes_27 clX11_252 sh523 rfl rfl (Nat.le_of_ble_eq_true rfl) (rmSH (by decide) (by decide)) (s_copyS hW sh523 (s10_1 sh30) ?_)
    show Go X 5 mX11_comes Q 30 [(0, .ref 0), (1, .int x1)] [] (cpS m 523 37)
    refine g_iconst (v := 0) dX11_comes_30 (by decide) ?_
    refine g_istore_n (ls2 := [(2, .int (0 : Int32)), (0, .ref 0), (1, .int x1)]) dX11_comes_31 rfl (by decide) rfl ?_
    exact g_ls [1, 2, 0] rfl (h1 q1)
  · refine g_if_ne 16 dX11_comes_11 (by decide) (fun q3 => absurd q3 (by decide)) (fun q3 => ?_)
    refine g_iconst (v := -1) dX11_comes_14 (by decide) ?_
    exact g_iret dX11_comes_15 rfl enSH (h2 q1)
theorem bX11_comes_32 {X : pX} {Q : Option Value → pMem → Prop} {m : pMem} {x1 : Int32} {x2 : Int32} (hW : Wf m)
    (h1 : (200 : Int32) ≤ x2 → Q (some (.int (-2 : Int32))) m)
    (h2 : ¬ ((200 : Int32) ≤ x2) → vp_in x1 4)
    (h3 : ¬ ((200 : Int32) ≤ x2) → ¬ (mI m 524 x1.toNatClampNeg) = (mI m 31 2) → Cl X 1 mX11_inForce [.ref 0] m (fun v m2 => Go X 5 mX11_comes Q 81 [(0, .ref 0), (1, .int x1), (2, .int x2)] (v.toList ++ [.ref 523, .ref 512]) m2))
    (h4 : ¬ ((200 : Int32) ≤ x2) → (mI m 524 x1.toNatClampNeg) = (mI m 31 2) → Q (some (.int (mI m 523 0))) m) :
    Go X 5 mX11_comes Q 32 [(0, .ref 0), (1, .int x1), (2, .int x2)] [] m := by
  refine g_iload_n 2 dX11_comes_32 rfl rfl ?_
  refine g_sipush (v := 200) dX11_comes_33 (by decide) ?_
  refine g_icmp_ge 91 dX11_comes_36 (by decide) (fun q1 => ?_) (fun q1 => ?_)
  · refine g_bipush (v := -2) dX11_comes_91 (by decide) ?_
    exact g_iret dX11_comes_93 rfl enSH (h1 q1)
  · refine g_aload_n 0 dX11_comes_39 rfl rfl ?_
    refine g_getR dX11_comes_40 fl11_90 rfl sh0 (w11_11 hW sh0) ?_
    refine g_getR dX11_comes_43 fl11_146 rfl sh523 (w8_1 hW sh523) ?_
    refine g_iload_n 1 dX11_comes_46 rfl rfl ?_
    refine g_iald (j := x1.toNatClampNeg) dX11_comes_47 (s8_1 sh523) (h2 q1) rfl ?_
    refine g_aload_n 0 dX11_comes_48 rfl rfl ?_
    refine g_getR dX11_comes_49 fl11_42 rfl sh0 (w11_5 hW sh0) ?_
    refine g_getR dX11_comes_52 fl11_56 rfl sh30 (w10_0 hW sh30) ?_
    refine g_getI dX11_comes_55 fl11_179 (s10_0 sh30) ?_
    refine g_icmp_ne 69 dX11_comes_58 (by decide) (fun q2 => ?_) (fun q2 => ?_)
    · refine g_aload_n 0 dX11_comes_69 rfl rfl ?_
      refine g_getR dX11_comes_70 fl11_63 rfl sh0 (w11_8 hW sh0) ?_
      refine g_aload_n 0 dX11_comes_73 rfl rfl ?_
      refine g_getR dX11_comes_74 fl11_90 rfl sh0 (w11_11 hW sh0) ?_
      refine g_aload_n 0 dX11_comes_77 rfl rfl ?_
      exact g_callV (As := []) (st := [.ref 523, .ref 512]) dX11_comes_78 clX11_225 sh0 rfl rfl (Nat.le_of_ble_eq_true rfl) (rmSH (by decide) (by decide)) (h3 q1 q2)
    · refine g_aload_n 0 dX11_comes_61 rfl rfl ?_
      refine g_getR dX11_comes_62 fl11_90 rfl sh0 (w11_11 hW sh0) ?_
      refine g_getI dX11_comes_65 fl11_185 sh523 ?_
      exact g_iret dX11_comes_68 rfl enSH (h4 q1 q2)
theorem bX11_comes_81 {X : pX} {Q : Option Value → pMem → Prop} {m : pMem} {x1 : Int32} {x2 : Int32} {as0 : Nat} {as1 : Nat} (hW : Wf m) (cs0 : SH[as0]? = some (.inl 6)) (cs1 : SH[as1]? = some (.inl 8))
    (h1 : Cl X 4 mX0_oneDay [.ref 512, .ref as1, .ref as0] m (fun v m2 => Go X 5 mX11_comes Q 84 [(0, .ref 0), (1, .int x1), (2, .int x2)] (v.toList ++ []) m2)) :
    Go X 5 mX11_comes Q 81 [(0, .ref 0), (1, .int x1), (2, .int x2)] [.ref as0, .ref as1, .ref 512] m := by
  exact g_callV (As := [.ref as1, .ref as0]) (st := []) dX11_comes_81 clX11_229 sh512 rfl rfl (Nat.le_of_ble_eq_true rfl) (rmSH (by decide) (by decide)) h1
theorem bX11_comes_81v1 {X : pX} {Q : Option Value → pMem → Prop} {m : pMem} {x1 : Int32} {x2 : Int32} {as1 : Nat} (hW : Wf m) (cs1 : SH[as1]? = some (.inl 8))
    (h1 : Cl X 4 mX0_oneDay [.ref 512, .ref as1, .null] m (fun v m2 => Go X 5 mX11_comes Q 84 [(0, .ref 0), (1, .int x1), (2, .int x2)] (v.toList ++ []) m2)) :
    Go X 5 mX11_comes Q 81 [(0, .ref 0), (1, .int x1), (2, .int x2)] [.null, .ref as1, .ref 512] m := by
  exact g_callV (As := [.ref as1, .null]) (st := []) dX11_comes_81 clX11_229 sh512 rfl rfl (Nat.le_of_ble_eq_true rfl) (rmSH (by decide) (by decide)) h1
theorem bX11_comes_84 {X : pX} {Q : Option Value → pMem → Prop} {m : pMem} {x1 : Int32} {x2 : Int32} {xs0 : Int32} (hW : Wf m)
    (h1 : Go X 5 mX11_comes Q 32 [(0, .ref 0), (1, .int x1), (2, .int (x2 + (1 : Int32)))] [] m) :
    Go X 5 mX11_comes Q 84 [(0, .ref 0), (1, .int x1), (2, .int x2)] [.int xs0] m := by
  refine g_pop dX11_comes_84 rfl ?_
  refine g_iinc (v := x2 + (1 : Int32)) (ls2 := [(2, .int (x2 + (1 : Int32))), (0, .ref 0), (1, .int x1)]) 2 dX11_comes_85 rfl rfl (by decide) rfl ?_
  refine g_goto 32 dX11_comes_88 (by decide) ?_
  exact g_ls [1, 2, 0] rfl h1
theorem bX11_wealth_0 {X : pX} {Q : Option Value → pMem → Prop} {m : pMem} {x1 : Int32} (hW : Wf m)
    (h1 : (mI m 31 0) = 0 → Q (some (.int (-1 : Int32))) m)
    (h2 : ¬ ((mI m 31 0) = 0) → x1 < 0 → Q (some (.int (-1 : Int32))) m)
    (h3 : ¬ ((mI m 31 0) = 0) → ¬ (x1 < 0) → x1 ≤ (100 : Int32) → Cl X 6 mX11_goOnFromNow [.ref 0, .int x1] m (fun v m2 => Go X 7 mX11_wealth Q 30 [(0, .ref 0), (1, .int x1)] (v.toList ++ []) m2))
    (h4 : ¬ ((mI m 31 0) = 0) → ¬ (x1 < 0) → ¬ (x1 ≤ (100 : Int32)) → Q (some (.int (-1 : Int32))) m) :
    Go X 7 mX11_wealth Q 0 [(0, .ref 0), (1, .int x1)] [] m := by
  refine g_aload_n 0 dX11_wealth_0 rfl rfl ?_
  refine g_getR dX11_wealth_1 fl11_42 rfl sh0 (w11_5 hW sh0) ?_
  refine g_getR dX11_wealth_4 fl11_56 rfl sh30 (w10_0 hW sh30) ?_
  refine g_getZ dX11_wealth_7 fl11_217 (s10_0 sh30) ?_
  refine g_if_eq 23 dX11_wealth_10 (by decide) (fun q1 => ?_) (fun q1 => ?_)
  · refine g_iconst (v := -1) dX11_wealth_23 (by decide) ?_
    exact g_iret dX11_wealth_24 rfl enSH (h1 q1)
  · refine g_iload_n 1 dX11_wealth_13 rfl rfl ?_
    refine g_if_lt 23 dX11_wealth_14 (by decide) (fun q2 => ?_) (fun q2 => ?_)
    · refine g_iconst (v := -1) dX11_wealth_23 (by decide) ?_
      exact g_iret dX11_wealth_24 rfl enSH (h2 q1 q2)
    · refine g_iload_n 1 dX11_wealth_17 rfl rfl ?_
      refine g_bipush (v := 100) dX11_wealth_18 (by decide) ?_
      refine g_icmp_le 25 dX11_wealth_20 (by decide) (fun q3 => ?_) (fun q3 => ?_)
      · refine g_aload_n 0 dX11_wealth_25 rfl rfl ?_
        refine g_iload_n 1 dX11_wealth_26 rfl rfl ?_
        exact g_callV (As := [.int x1]) (st := []) dX11_wealth_27 clX11_249 sh0 rfl rfl (Nat.le_of_ble_eq_true rfl) (rmSH (by decide) (by decide)) (h3 q1 q2 q3)
      · refine g_iconst (v := -1) dX11_wealth_23 (by decide) ?_
        exact g_iret dX11_wealth_24 rfl enSH (h4 q1 q2 q3)
theorem bX11_wealth_30 {X : pX} {Q : Option Value → pMem → Prop} {m : pMem} {x1 : Int32} (hW : Wf m)
    (h1 : vp_in (mI m 31 3) 5)
    (h2 : Q (some (.int (wSum (mI m 35) (tTown (mI m 524) (mI m 526) (mI m 31 2) 6 (mI m 31 3).toNatClampNeg) 6))) m) :
    Go X 7 mX11_wealth Q 30 [(0, .ref 0), (1, .int x1)] [] m := by
  refine g_aload_n 0 dX11_wealth_30 rfl rfl ?_
  refine g_getR dX11_wealth_31 fl11_63 rfl sh0 (w11_8 hW sh0) ?_
  refine g_aload_n 0 dX11_wealth_34 rfl rfl ?_
  refine g_getR dX11_wealth_35 fl11_90 rfl sh0 (w11_11 hW sh0) ?_
  refine g_callV (As := [.ref 523]) (st := []) dX11_wealth_38 clX11_192 sh512 rfl rfl (Nat.le_of_ble_eq_true rfl) (rmSH (by decide) (by decide)) (s_cWorth523 hW h1 ?_)
  show Go X 7 mX11_wealth Q 41 [(0, .ref 0), (1, .int x1)] [.int (wSum (mI m 35) (tTown (mI m 524) (mI m 526) (mI m 31 2) 6 (mI m 31 3).toNatClampNeg) 6)] m
  exact g_iret dX11_wealth_41 rfl enSH h2
theorem bX11_wealthWithout_0 {X : pX} {Q : Option Value → pMem → Prop} {m : pMem} {x1 : Int32} {x2 : Int32} (hW : Wf m)
    (h1 : ¬ x1 < 0 ∧ ¬ mI (cpS m 523 37) 31 4 ≤ x1 ∧ ¬ (6 : Int32) ≤ x1 → vp_in x1 6)
    (h2 : ¬ x1 < 0 ∧ ¬ mI (cpS m 523 37) 31 4 ≤ x1 ∧ ¬ (6 : Int32) ≤ x1 → Cl X 1 mX11_inForce [.ref 0] (uI (cpS m 523 37) 526 x1.toNatClampNeg (-1 : Int32)) (fun v m2 => Go X 6 mX11_wealthWithout Q 50 [(0, .ref 0), (1, .int x1), (2, .int x2)] (v.toList ++ [.ref 523, .ref 512]) m2))
    (h3 : ¬ (¬ x1 < 0 ∧ ¬ mI (cpS m 523 37) 31 4 ≤ x1 ∧ ¬ (6 : Int32) ≤ x1) → Cl X 1 mX11_inForce [.ref 0] (cpS m 523 37) (fun v m2 => Go X 6 mX11_wealthWithout Q 50 [(0, .ref 0), (1, .int x1), (2, .int x2)] (v.toList ++ [.ref 523, .ref 512]) m2)) :
    Go X 6 mX11_wealthWithout Q 0 [(0, .ref 0), (1, .int x1), (2, .int x2)] [] m := by
  refine g_aload_n 0 dX11_wealthWithout_0 rfl rfl ?_
  refine g_getR dX11_wealthWithout_1 fl11_90 rfl sh0 (w11_11 hW sh0) ?_
  refine g_aload_n 0 dX11_wealthWithout_4 rfl rfl ?_
  refine g_getR dX11_wealthWithout_5 fl11_42 rfl sh0 (w11_5 hW sh0) ?_
  refine g_getR dX11_wealthWithout_8 fl11_69 rfl sh30 (w10_1 hW sh30) ?_
  refine g_callV (As := [.ref 37]) (st := []) dX11_wealthWithout_11 clX11_252 sh523 rfl rfl (Nat.le_of_ble_eq_true rfl) (rmSH (by decide) (by decide)) (s_copyS hW sh523 (s10_1 sh30) ?_)
  show Go X 6 mX11_wealthWithout Q 14 [(0, .ref 0), (1, .int x1), (2, .int x2)] [] (cpS m 523 37)
  refine g_aload_n 0 dX11_wealthWithout_14 rfl rfl ?_
  refine g_getR dX11_wealthWithout_15 fl11_42 rfl sh0 (w11_5 hW sh0) ?_
  refine g_getR dX11_wealthWithout_18 fl11_56 rfl sh30 (w10_0 hW sh30) ?_
  refine g_iload_n 1 dX11_wealthWithout_21 rfl rfl ?_
  refine g_callV (As := [.int x1]) (st := []) dX11_wealthWithout_22 clX11_158 (s10_0 sh30) rfl rfl (Nat.le_of_ble_eq_true rfl) (rmSH (by decide) (by decide)) (s_isThing hW (s10_0 sh30) (fun q1 => ?_) (fun q1 => ?_))
  · refine g_if_eq 38 dX11_wealthWithout_25 (by decide) (fun q2 => absurd q2 (by decide)) (fun q2 => ?_)
    refine g_aload_n 0 dX11_wealthWithout_28 rfl rfl ?_
    refine g_getR dX11_wealthWithout_29 fl11_90 rfl sh0 (w11_11 hW sh0) ?_
    refine g_getR dX11_wealthWithout_32 fl11_167 rfl sh523 (w8_3 hW sh523) ?_
    refine g_iload_n 1 dX11_wealthWithout_35 rfl rfl ?_
    refine g_iconst (v := -1) dX11_wealthWithout_36 (by decide) ?_
    refine g_iast (j := x1.toNatClampNeg) dX11_wealthWithout_37 (s8_3 sh523) (h1 q1) rfl ?_
    refine g_aload_n 0 dX11_wealthWithout_38 rfl rfl ?_
    refine g_getR dX11_wealthWithout_39 fl11_63 rfl sh0 (w11_8 hW sh0) ?_
    refine g_aload_n 0 dX11_wealthWithout_42 rfl rfl ?_
    refine g_getR dX11_wealthWithout_43 fl11_90 rfl sh0 (w11_11 hW sh0) ?_
    refine g_aload_n 0 dX11_wealthWithout_46 rfl rfl ?_
    exact g_callV (As := []) (st := [.ref 523, .ref 512]) dX11_wealthWithout_47 clX11_225 sh0 rfl rfl (Nat.le_of_ble_eq_true rfl) (rmSH (by decide) (by decide)) (h2 q1)
  · refine g_if_eq 38 dX11_wealthWithout_25 (by decide) (fun q3 => ?_) (fun q3 => absurd q3 (by decide))
    refine g_aload_n 0 dX11_wealthWithout_38 rfl rfl ?_
    refine g_getR dX11_wealthWithout_39 fl11_63 rfl sh0 (w11_8 hW sh0) ?_
    refine g_aload_n 0 dX11_wealthWithout_42 rfl rfl ?_
    refine g_getR dX11_wealthWithout_43 fl11_90 rfl sh0 (w11_11 hW sh0) ?_
    refine g_aload_n 0 dX11_wealthWithout_46 rfl rfl ?_
    exact g_callV (As := []) (st := [.ref 523, .ref 512]) dX11_wealthWithout_47 clX11_225 sh0 rfl rfl (Nat.le_of_ble_eq_true rfl) (rmSH (by decide) (by decide)) (h3 q1)
theorem bX11_wealthWithout_50 {X : pX} {Q : Option Value → pMem → Prop} {m : pMem} {x1 : Int32} {x2 : Int32} {as0 : Nat} {as1 : Nat} (hW : Wf m) (cs0 : SH[as0]? = some (.inl 6)) (cs1 : SH[as1]? = some (.inl 8))
    (h1 : Cl X 5 mX0_goOn [.ref 512, .ref as1, .ref as0, .int x2] m (fun v m2 => Go X 6 mX11_wealthWithout Q 54 [(0, .ref 0), (1, .int x1), (2, .int x2)] (v.toList ++ []) m2)) :
    Go X 6 mX11_wealthWithout Q 50 [(0, .ref 0), (1, .int x1), (2, .int x2)] [.ref as0, .ref as1, .ref 512] m := by
  refine g_iload_n 2 dX11_wealthWithout_50 rfl rfl ?_
  exact g_callV (As := [.ref as1, .ref as0, .int x2]) (st := []) dX11_wealthWithout_51 clX11_259 sh512 rfl rfl (Nat.le_of_ble_eq_true rfl) (rmSH (by decide) (by decide)) h1
theorem bX11_wealthWithout_50v1 {X : pX} {Q : Option Value → pMem → Prop} {m : pMem} {x1 : Int32} {x2 : Int32} {as1 : Nat} (hW : Wf m) (cs1 : SH[as1]? = some (.inl 8))
    (h1 : Cl X 5 mX0_goOn [.ref 512, .ref as1, .null, .int x2] m (fun v m2 => Go X 6 mX11_wealthWithout Q 54 [(0, .ref 0), (1, .int x1), (2, .int x2)] (v.toList ++ []) m2)) :
    Go X 6 mX11_wealthWithout Q 50 [(0, .ref 0), (1, .int x1), (2, .int x2)] [.null, .ref as1, .ref 512] m := by
  refine g_iload_n 2 dX11_wealthWithout_50 rfl rfl ?_
  exact g_callV (As := [.ref as1, .null, .int x2]) (st := []) dX11_wealthWithout_51 clX11_259 sh512 rfl rfl (Nat.le_of_ble_eq_true rfl) (rmSH (by decide) (by decide)) h1
theorem bX11_wealthWithout_54 {X : pX} {Q : Option Value → pMem → Prop} {m : pMem} {x1 : Int32} {x2 : Int32} (hW : Wf m)
    (h1 : vp_in (mI m 31 3) 5)
    (h2 : Q (some (.int (wSum (mI m 35) (tTown (mI m 524) (mI m 526) (mI m 31 2) 6 (mI m 31 3).toNatClampNeg) 6))) m) :
    Go X 6 mX11_wealthWithout Q 54 [(0, .ref 0), (1, .int x1), (2, .int x2)] [] m := by
  refine g_aload_n 0 dX11_wealthWithout_54 rfl rfl ?_
  refine g_getR dX11_wealthWithout_55 fl11_63 rfl sh0 (w11_8 hW sh0) ?_
  refine g_aload_n 0 dX11_wealthWithout_58 rfl rfl ?_
  refine g_getR dX11_wealthWithout_59 fl11_90 rfl sh0 (w11_11 hW sh0) ?_
  refine g_callV (As := [.ref 523]) (st := []) dX11_wealthWithout_62 clX11_192 sh512 rfl rfl (Nat.le_of_ble_eq_true rfl) (rmSH (by decide) (by decide)) (s_cWorth523 hW h1 ?_)
  show Go X 6 mX11_wealthWithout Q 65 [(0, .ref 0), (1, .int x1), (2, .int x2)] [.int (wSum (mI m 35) (tTown (mI m 524) (mI m 526) (mI m 31 2) 6 (mI m 31 3).toNatClampNeg) 6)] m
  exact g_iret dX11_wealthWithout_65 rfl enSH h2
