theorem bX12_robbed_0 {X : pX} {Q : Option Value → pMem → Prop} {m : pMem} {x1 : Int32} {x2 : Int32} (hW : Wf m)
    (h1 : mI m 536 0 = (1 : Int32) → ¬ x1 < (1 : Int32) ∧ ¬ (60 : Int32) < x1 → ¬ x2 < (0 : Int32) ∧ ¬ (1 : Int32) < x2 → Cl X 2 mX12_keepsAll [.ref 535] m (fun v m2 => Go X 9 mX12_robbed Q 36 [(0, .ref 535), (1, .int x1), (2, .int x2)] (v.toList ++ []) m2))
    (h2 : mI m 536 0 = (1 : Int32) → ¬ x1 < (1 : Int32) ∧ ¬ (60 : Int32) < x1 → ¬ (¬ x2 < (0 : Int32) ∧ ¬ (1 : Int32) < x2) → Q (some (.int (-2 : Int32))) m)
    (h3 : mI m 536 0 = (1 : Int32) → ¬ (¬ x1 < (1 : Int32) ∧ ¬ (60 : Int32) < x1) → Q (some (.int (-2 : Int32))) m)
    (h4 : ¬ (mI m 536 0 = (1 : Int32)) → Q (some (.int (-2 : Int32))) m) :
    Go X 9 mX12_robbed Q 0 [(0, .ref 535), (1, .int x1), (2, .int x2)] [] m := by
  refine g_aload_n 0 dX12_robbed_0 rfl rfl ?_
  refine g_callV (As := []) (st := []) dX12_robbed_1 clX12_389 sh535 rfl rfl (Nat.le_of_ble_eq_true rfl) (rmSH (by decide) (by decide)) (s_isRoad hW (fun q1 => ?_) (fun q1 => ?_))
  · refine g_if_eq 29 dX12_robbed_4 (by decide) (fun q2 => absurd q2 (by decide)) (fun q2 => ?_)
    refine g_iload_n 1 dX12_robbed_7 rfl rfl ?_
    refine g_i2l dX12_robbed_8 ?_
    refine g_lconst (v := 1) dX12_robbed_9 (by decide) ?_
    refine g_ldc2 (v := 60) dX12_robbed_10 cjX12_431 ?_
    refine g_callS (As := [.long x1.toInt64, .long (1 : Int64), .long (60 : Int64)]) (st := []) dX12_robbed_13 clX12_128 rfl rfl (Nat.le_of_ble_eq_true rfl) (rmSH (by decide) (by decide)) (s_in (x := x1) (lo := (1 : Int32)) (hi := (60 : Int32)) hW (by first | rfl | decide) (by first | rfl | decide) (by first | rfl | decide) (fun q3 => ?_) (fun q3 => ?_))
    · refine g_if_eq 29 dX12_robbed_16 (by decide) (fun q4 => absurd q4 (by decide)) (fun q4 => ?_)
      refine g_iload_n 2 dX12_robbed_19 rfl rfl ?_
      refine g_i2l dX12_robbed_20 ?_
      refine g_lconst (v := 0) dX12_robbed_21 (by decide) ?_
      refine g_lconst (v := 1) dX12_robbed_22 (by decide) ?_
      refine g_callS (As := [.long x2.toInt64, .long (0 : Int64), .long (1 : Int64)]) (st := []) dX12_robbed_23 clX12_128 rfl rfl (Nat.le_of_ble_eq_true rfl) (rmSH (by decide) (by decide)) (s_in (x := x2) (lo := (0 : Int32)) (hi := (1 : Int32)) hW (by first | rfl | decide) (by first | rfl | decide) (by first | rfl | decide) (fun q5 => ?_) (fun q5 => ?_))
      · refine g_if_ne 32 dX12_robbed_26 (by decide) (fun q6 => ?_) (fun q6 => absurd q6 (by decide))
        refine g_aload_n 0 dX12_robbed_32 rfl rfl ?_
        exact g_callV (As := []) (st := []) dX12_robbed_33 clX12_409 sh535 rfl rfl (Nat.le_of_ble_eq_true rfl) (rmSH (by decide) (by decide)) (h1 q1 q3 q5)
      · refine g_if_ne 32 dX12_robbed_26 (by decide) (fun q7 => absurd q7 (by decide)) (fun q7 => ?_)
        refine g_bipush (v := -2) dX12_robbed_29 (by decide) ?_
        exact g_iret dX12_robbed_31 rfl enSH (h2 q1 q3 q5)
    · refine g_if_eq 29 dX12_robbed_16 (by decide) (fun q8 => ?_) (fun q8 => absurd q8 (by decide))
      refine g_bipush (v := -2) dX12_robbed_29 (by decide) ?_
      exact g_iret dX12_robbed_31 rfl enSH (h3 q1 q3)
  · refine g_if_eq 29 dX12_robbed_4 (by decide) (fun q9 => ?_) (fun q9 => absurd q9 (by decide))
    refine g_bipush (v := -2) dX12_robbed_29 (by decide) ?_
    exact g_iret dX12_robbed_31 rfl enSH (h4 q1)
theorem bX12_robbed_36 {X : pX} {Q : Option Value → pMem → Prop} {m : pMem} {x1 : Int32} {x2 : Int32} (hW : Wf m)
    (h1 : Cl X 8 mX12_wealthIn [.ref 535, .int x1] m (fun v m2 => Go X 9 mX12_robbed Q 41 [(0, .ref 535), (1, .int x1), (2, .int x2)] (v.toList ++ []) m2)) :
    Go X 9 mX12_robbed Q 36 [(0, .ref 535), (1, .int x1), (2, .int x2)] [] m := by
  refine g_aload_n 0 dX12_robbed_36 rfl rfl ?_
  refine g_iload_n 1 dX12_robbed_37 rfl rfl ?_
  exact g_callV (As := [.int x1]) (st := []) dX12_robbed_38 clX12_421 sh535 rfl rfl (Nat.le_of_ble_eq_true rfl) (rmSH (by decide) (by decide)) h1
theorem bX12_robbed_41 {X : pX} {Q : Option Value → pMem → Prop} {m : pMem} {x1 : Int32} {x2 : Int32} {xs0 : Int32} (hW : Wf m)
    (h1 : Go X 9 mX12_robbed Q 48 [(0, .ref 535), (1, .int x1), (2, .int x2), (3, .int xs0), (4, .int (-1 : Int32)), (5, .int (0 : Int32))] [] m) :
    Go X 9 mX12_robbed Q 41 [(0, .ref 535), (1, .int x1), (2, .int x2)] [.int xs0] m := by
  refine g_istore_n (ls2 := [(3, .int xs0), (0, .ref 535), (1, .int x1), (2, .int x2)]) dX12_robbed_41 rfl (by decide) rfl ?_
  refine g_iconst (v := -1) dX12_robbed_42 (by decide) ?_
  refine g_istore (ls2 := [(4, .int (-1 : Int32)), (3, .int xs0), (0, .ref 535), (1, .int x1), (2, .int x2)]) dX12_robbed_43 (by decide) rfl ?_
  refine g_iconst (v := 0) dX12_robbed_45 (by decide) ?_
  refine g_istore (ls2 := [(5, .int (0 : Int32)), (4, .int (-1 : Int32)), (3, .int xs0), (0, .ref 535), (1, .int x1), (2, .int x2)]) dX12_robbed_46 (by decide) rfl ?_
  exact g_ls [3, 4, 5, 2, 1, 0] rfl h1
theorem bX12_robbed_48 {X : pX} {Q : Option Value → pMem → Prop} {m : pMem} {x1 : Int32} {x2 : Int32} {x3 : Int32} {x4 : Int32} {x5 : Int32} (hW : Wf m)
    (h1 : (mI m 536 4) ≤ x5 → ¬ x2 = 0 → Q (some (.int x3)) m)
    (h2 : (mI m 536 4) ≤ x5 → x2 = 0 → Q (some (.int x4)) m)
    (h3 : ¬ ((mI m 536 4) ≤ x5) → vp_in x5 6)
    (h4 : ¬ ((mI m 536 4) ≤ x5) → (mI m 539 x5.toNatClampNeg) = (-1 : Int32) → Go X 9 mX12_robbed Q 48 [(0, .ref 535), (1, .int x1), (2, .int x2), (3, .int x3), (4, .int x4), (5, .int (x5 + (1 : Int32)))] [] m)
    (h5 : ¬ ((mI m 536 4) ≤ x5) → ¬ ((mI m 539 x5.toNatClampNeg) = (-1 : Int32)) → vp_in x5 6)
    (h6 : ¬ ((mI m 536 4) ≤ x5) → ¬ ((mI m 539 x5.toNatClampNeg) = (-1 : Int32)) → Cl X 8 mX12_wealthIn [.ref 535, .int x1] (uI m 539 x5.toNatClampNeg (-1 : Int32)) (fun v m2 => Go X 9 mX12_robbed Q 83 [(0, .ref 535), (1, .int x1), (2, .int x2), (3, .int x3), (4, .int x4), (5, .int x5)] (v.toList ++ []) m2)) :
    Go X 9 mX12_robbed Q 48 [(0, .ref 535), (1, .int x1), (2, .int x2), (3, .int x3), (4, .int x4), (5, .int x5)] [] m := by
  refine g_iload 5 dX12_robbed_48 rfl ?_
  refine g_aload_n 0 dX12_robbed_50 rfl rfl ?_
  refine g_getR dX12_robbed_51 fl12_9 rfl sh535 (w12_1 hW sh535) ?_
  refine g_iconst (v := 4) dX12_robbed_54 (by decide) ?_
  refine g_iald (j := 4) dX12_robbed_55 (s12_1 sh535) (by unfold vp_in; decide) (by decide) ?_
  refine g_icmp_ge 104 dX12_robbed_56 (by decide) (fun q1 => ?_) (fun q1 => ?_)
  · refine g_iload_n 2 dX12_robbed_104 rfl rfl ?_
    refine g_if_ne 113 dX12_robbed_105 (by decide) (fun q2 => ?_) (fun q2 => ?_)
    · refine g_iload_n 3 dX12_robbed_113 rfl rfl ?_
      exact g_iret dX12_robbed_114 rfl enSH (h1 q1 q2)
    · refine g_iload 4 dX12_robbed_108 rfl ?_
      refine g_goto 114 dX12_robbed_110 (by decide) ?_
      exact g_iret dX12_robbed_114 rfl enSH (h2 q1 q2)
  · refine g_aload_n 0 dX12_robbed_59 rfl rfl ?_
    refine g_getR dX12_robbed_60 fl12_19 rfl sh535 (w12_4 hW sh535) ?_
    refine g_iload 5 dX12_robbed_63 rfl ?_
    refine g_iald (j := x5.toNatClampNeg) dX12_robbed_65 (s12_4 sh535) (h3 q1) rfl ?_
    refine g_iconst (v := -1) dX12_robbed_66 (by decide) ?_
    refine g_icmp_eq 98 dX12_robbed_67 (by decide) (fun q3 => ?_) (fun q3 => ?_)
    · refine g_iinc (v := x5 + (1 : Int32)) (ls2 := [(5, .int (x5 + (1 : Int32))), (0, .ref 535), (1, .int x1), (2, .int x2), (3, .int x3), (4, .int x4)]) 5 dX12_robbed_98 rfl rfl (by decide) rfl ?_
      refine g_goto 48 dX12_robbed_101 (by decide) ?_
      exact g_ls [1, 2, 3, 4, 5, 0] rfl (h4 q1 q3)
    · refine g_aload_n 0 dX12_robbed_70 rfl rfl ?_
      refine g_getR dX12_robbed_71 fl12_19 rfl sh535 (w12_4 hW sh535) ?_
      refine g_iload 5 dX12_robbed_74 rfl ?_
      refine g_iconst (v := -1) dX12_robbed_76 (by decide) ?_
      refine g_iast (j := x5.toNatClampNeg) dX12_robbed_77 (s12_4 sh535) (h5 q1 q3) rfl ?_
      refine g_aload_n 0 dX12_robbed_78 rfl rfl ?_
      refine g_iload_n 1 dX12_robbed_79 rfl rfl ?_
      exact g_callV (As := [.int x1]) (st := []) dX12_robbed_80 clX12_421 sh535 rfl rfl (Nat.le_of_ble_eq_true rfl) (rmSH (by decide) (by decide)) (h6 q1 q3)
theorem bX12_robbed_83 {X : pX} {Q : Option Value → pMem → Prop} {m : pMem} {x1 : Int32} {x2 : Int32} {x3 : Int32} {x4 : Int32} {x5 : Int32} {xs0 : Int32} (hW : Wf m)
    (h1 : xs0 ≤ x3 → Go X 9 mX12_robbed Q 48 [(0, .ref 535), (1, .int x1), (2, .int x2), (3, .int x3), (4, .int x4), (5, .int (x5 + (1 : Int32)))] [] m)
    (h2 : ¬ (xs0 ≤ x3) → Go X 9 mX12_robbed Q 48 [(0, .ref 535), (1, .int x1), (2, .int x2), (3, .int xs0), (4, .int x5), (5, .int (x5 + (1 : Int32)))] [] m) :
    Go X 9 mX12_robbed Q 83 [(0, .ref 535), (1, .int x1), (2, .int x2), (3, .int x3), (4, .int x4), (5, .int x5)] [.int xs0] m := by
  refine g_istore (ls2 := [(6, .int xs0), (0, .ref 535), (1, .int x1), (2, .int x2), (3, .int x3), (4, .int x4), (5, .int x5)]) dX12_robbed_83 (by decide) rfl ?_
  refine g_iload 0 dX12_robbed_85 rfl ?_
  refine g_iload_n 4 dX12_robbed_87 rfl rfl ?_
  refine g_icmp_le 98 dX12_robbed_88 (by decide) (fun q1 => ?_) (fun q1 => ?_)
  · refine g_iinc (v := x5 + (1 : Int32)) (ls2 := [(5, .int (x5 + (1 : Int32))), (6, .int xs0), (0, .ref 535), (1, .int x1), (2, .int x2), (3, .int x3), (4, .int x4)]) 6 dX12_robbed_98 rfl rfl (by decide) rfl ?_
    refine g_goto 48 dX12_robbed_101 (by decide) ?_
    exact g_ls [2, 3, 4, 5, 6, 0] rfl (h1 q1)
  · refine g_iload 0 dX12_robbed_91 rfl ?_
    refine g_istore_n (ls2 := [(3, .int xs0), (6, .int xs0), (0, .ref 535), (1, .int x1), (2, .int x2), (4, .int x4), (5, .int x5)]) dX12_robbed_93 rfl (by decide) rfl ?_
    refine g_iload 6 dX12_robbed_94 rfl ?_
    refine g_istore (ls2 := [(4, .int x5), (3, .int xs0), (6, .int xs0), (0, .ref 535), (1, .int x1), (2, .int x2), (5, .int x5)]) dX12_robbed_96 (by decide) rfl ?_
    refine g_iinc (v := x5 + (1 : Int32)) (ls2 := [(5, .int (x5 + (1 : Int32))), (4, .int x5), (3, .int xs0), (6, .int xs0), (0, .ref 535), (1, .int x1), (2, .int x2)]) 6 dX12_robbed_98 rfl rfl (by decide) rfl ?_
    refine g_goto 48 dX12_robbed_101 (by decide) ?_
    exact g_ls [4, 5, 6, 2, 1, 0] rfl (h2 q1)
theorem bX11_robbed_0 {X : pX} {Q : Option Value → pMem → Prop} {m : pMem} {x1 : Int32} {x2 : Int32} (hW : Wf m)
    (h1 : (mI m 31 0) = 0 → Q (some (.int (-2 : Int32))) m)
    (h2 : ¬ ((mI m 31 0) = 0) → x1 < (1 : Int32) → Q (some (.int (-2 : Int32))) m)
    (h3 : ¬ ((mI m 31 0) = 0) → ¬ (x1 < (1 : Int32)) → (60 : Int32) < x1 → Q (some (.int (-2 : Int32))) m)
    (h4 : ¬ ((mI m 31 0) = 0) → ¬ (x1 < (1 : Int32)) → ¬ ((60 : Int32) < x1) → x2 < 0 → Q (some (.int (-2 : Int32))) m)
    (h5 : ¬ ((mI m 31 0) = 0) → ¬ (x1 < (1 : Int32)) → ¬ ((60 : Int32) < x1) → ¬ (x2 < 0) → x2 ≤ (1 : Int32) → Cl X 6 mX11_wealthWithout [.ref 0, .int (-1 : Int32), .int x1] m (fun v m2 => Go X 7 mX11_robbed Q 44 [(0, .ref 0), (1, .int x1), (2, .int x2), (3, .int (-1 : Int32))] (v.toList ++ []) m2))
    (h6 : ¬ ((mI m 31 0) = 0) → ¬ (x1 < (1 : Int32)) → ¬ ((60 : Int32) < x1) → ¬ (x2 < 0) → ¬ (x2 ≤ (1 : Int32)) → Q (some (.int (-2 : Int32))) m) :
    Go X 7 mX11_robbed Q 0 [(0, .ref 0), (1, .int x1), (2, .int x2)] [] m := by
  refine g_aload_n 0 dX11_robbed_0 rfl rfl ?_
  refine g_getR dX11_robbed_1 fl11_42 rfl sh0 (w11_5 hW sh0) ?_
  refine g_getR dX11_robbed_4 fl11_56 rfl sh30 (w10_0 hW sh30) ?_
  refine g_getZ dX11_robbed_7 fl11_217 (s10_0 sh30) ?_
  refine g_if_eq 33 dX11_robbed_10 (by decide) (fun q1 => ?_) (fun q1 => ?_)
  · refine g_bipush (v := -2) dX11_robbed_33 (by decide) ?_
    exact g_iret dX11_robbed_35 rfl enSH (h1 q1)
  · refine g_iload_n 1 dX11_robbed_13 rfl rfl ?_
    refine g_iconst (v := 1) dX11_robbed_14 (by decide) ?_
    refine g_icmp_lt 33 dX11_robbed_15 (by decide) (fun q2 => ?_) (fun q2 => ?_)
    · refine g_bipush (v := -2) dX11_robbed_33 (by decide) ?_
      exact g_iret dX11_robbed_35 rfl enSH (h2 q1 q2)
    · refine g_iload_n 1 dX11_robbed_18 rfl rfl ?_
      refine g_bipush (v := 60) dX11_robbed_19 (by decide) ?_
      refine g_icmp_gt 33 dX11_robbed_21 (by decide) (fun q3 => ?_) (fun q3 => ?_)
      · refine g_bipush (v := -2) dX11_robbed_33 (by decide) ?_
        exact g_iret dX11_robbed_35 rfl enSH (h3 q1 q2 q3)
      · refine g_iload_n 2 dX11_robbed_24 rfl rfl ?_
        refine g_if_lt 33 dX11_robbed_25 (by decide) (fun q4 => ?_) (fun q4 => ?_)
        · refine g_bipush (v := -2) dX11_robbed_33 (by decide) ?_
          exact g_iret dX11_robbed_35 rfl enSH (h4 q1 q2 q3 q4)
        · refine g_iload_n 2 dX11_robbed_28 rfl rfl ?_
          refine g_iconst (v := 1) dX11_robbed_29 (by decide) ?_
          refine g_icmp_le 36 dX11_robbed_30 (by decide) (fun q5 => ?_) (fun q5 => ?_)
          · refine g_iconst (v := -1) dX11_robbed_36 (by decide) ?_
            refine g_istore_n (ls2 := [(3, .int (-1 : Int32)), (0, .ref 0), (1, .int x1), (2, .int x2)]) dX11_robbed_37 rfl (by decide) rfl ?_
            refine g_aload_n 1 dX11_robbed_38 rfl rfl ?_
            refine g_iconst (v := -1) dX11_robbed_39 (by decide) ?_
            refine g_iload_n 2 dX11_robbed_40 rfl rfl ?_
            refine g_ls [1, 2, 3, 0] (ls2 := [(0, .ref 0), (1, .int x1), (2, .int x2), (3, .int (-1 : Int32))]) rfl ?_
            exact g_callV (As := [.int (-1 : Int32), .int x1]) (st := []) dX11_robbed_41 clX11_255 sh0 rfl rfl (Nat.le_of_ble_eq_true rfl) (rmSH (by decide) (by decide)) (h5 q1 q2 q3 q4 q5)
          · refine g_bipush (v := -2) dX11_robbed_33 (by decide) ?_
            exact g_iret dX11_robbed_35 rfl enSH (h6 q1 q2 q3 q4 q5)
theorem bX11_robbed_44 {X : pX} {Q : Option Value → pMem → Prop} {m : pMem} {x1 : Int32} {x2 : Int32} {x3 : Int32} {xs0 : Int32} (hW : Wf m)
    (h1 : Go X 7 mX11_robbed Q 49 [(0, .ref 0), (1, .int x1), (2, .int x2), (3, .int x3), (4, .int xs0), (5, .int (0 : Int32))] [] m) :
    Go X 7 mX11_robbed Q 44 [(0, .ref 0), (1, .int x1), (2, .int x2), (3, .int x3)] [.int xs0] m := by
  refine g_istore (ls2 := [(4, .int xs0), (0, .ref 0), (1, .int x1), (2, .int x2), (3, .int x3)]) dX11_robbed_44 (by decide) rfl ?_
  refine g_iconst (v := 0) dX11_robbed_46 (by decide) ?_
  refine g_istore (ls2 := [(5, .int (0 : Int32)), (4, .int xs0), (0, .ref 0), (1, .int x1), (2, .int x2), (3, .int x3)]) dX11_robbed_47 (by decide) rfl ?_
  exact g_ls [2, 3, 4, 5, 1, 0] rfl h1
theorem bX11_robbed_49 {X : pX} {Q : Option Value → pMem → Prop} {m : pMem} {x1 : Int32} {x2 : Int32} {x3 : Int32} {x4 : Int32} {x5 : Int32} (hW : Wf m)
    (h1 : (mI m 31 4) ≤ x5 → ¬ x2 = 0 → Q (some (.int x4)) m)
    (h2 : (mI m 31 4) ≤ x5 → x2 = 0 → Q (some (.int x3)) m)
    (h3 : ¬ ((mI m 31 4) ≤ x5) → Cl X 6 mX11_wealthWithout [.ref 0, .int x5, .int x1] m (fun v m2 => Go X 7 mX11_robbed Q 71 [(0, .ref 0), (1, .int x1), (2, .int x2), (3, .int x3), (4, .int x4), (5, .int x5)] (v.toList ++ []) m2)) :
    Go X 7 mX11_robbed Q 49 [(0, .ref 0), (1, .int x1), (2, .int x2), (3, .int x3), (4, .int x4), (5, .int x5)] [] m := by
  refine g_iload 5 dX11_robbed_49 rfl ?_
  refine g_aload_n 0 dX11_robbed_51 rfl rfl ?_
  refine g_getR dX11_robbed_52 fl11_42 rfl sh0 (w11_5 hW sh0) ?_
  refine g_getR dX11_robbed_55 fl11_56 rfl sh30 (w10_0 hW sh30) ?_
  refine g_getI dX11_robbed_58 fl11_182 (s10_0 sh30) ?_
  refine g_icmp_ge 93 dX11_robbed_61 (by decide) (fun q1 => ?_) (fun q1 => ?_)
  · refine g_iload_n 2 dX11_robbed_93 rfl rfl ?_
    refine g_if_ne 101 dX11_robbed_94 (by decide) (fun q2 => ?_) (fun q2 => ?_)
    · refine g_iload 4 dX11_robbed_101 rfl ?_
      exact g_iret dX11_robbed_103 rfl enSH (h1 q1 q2)
    · refine g_iload_n 3 dX11_robbed_97 rfl rfl ?_
      refine g_goto 103 dX11_robbed_98 (by decide) ?_
      exact g_iret dX11_robbed_103 rfl enSH (h2 q1 q2)
  · refine g_aload_n 0 dX11_robbed_64 rfl rfl ?_
    refine g_iload 5 dX11_robbed_65 rfl ?_
    refine g_iload_n 1 dX11_robbed_67 rfl rfl ?_
    exact g_callV (As := [.int x5, .int x1]) (st := []) dX11_robbed_68 clX11_255 sh0 rfl rfl (Nat.le_of_ble_eq_true rfl) (rmSH (by decide) (by decide)) (h3 q1)
theorem bX11_robbed_71 {X : pX} {Q : Option Value → pMem → Prop} {m : pMem} {x1 : Int32} {x2 : Int32} {x3 : Int32} {x4 : Int32} {x5 : Int32} {xs0 : Int32} (hW : Wf m)
    (h1 : xs0 ≤ x4 → Go X 7 mX11_robbed Q 49 [(0, .ref 0), (1, .int x1), (2, .int x2), (3, .int x3), (4, .int x4), (5, .int (x5 + (1 : Int32)))] [] m)
    (h2 : ¬ (xs0 ≤ x4) → Go X 7 mX11_robbed Q 49 [(0, .ref 0), (1, .int x1), (2, .int x2), (3, .int x5), (4, .int xs0), (5, .int (x5 + (1 : Int32)))] [] m) :
    Go X 7 mX11_robbed Q 71 [(0, .ref 0), (1, .int x1), (2, .int x2), (3, .int x3), (4, .int x4), (5, .int x5)] [.int xs0] m := by
  refine g_istore (ls2 := [(6, .int xs0), (0, .ref 0), (1, .int x1), (2, .int x2), (3, .int x3), (4, .int x4), (5, .int x5)]) dX11_robbed_71 (by decide) rfl ?_
  refine g_iload 0 dX11_robbed_73 rfl ?_
  refine g_iload 5 dX11_robbed_75 rfl ?_
  refine g_icmp_le 87 dX11_robbed_77 (by decide) (fun q1 => ?_) (fun q1 => ?_)
  · refine g_iinc (v := x5 + (1 : Int32)) (ls2 := [(5, .int (x5 + (1 : Int32))), (6, .int xs0), (0, .ref 0), (1, .int x1), (2, .int x2), (3, .int x3), (4, .int x4)]) 6 dX11_robbed_87 rfl rfl (by decide) rfl ?_
    refine g_goto 49 dX11_robbed_90 (by decide) ?_
    exact g_ls [2, 3, 4, 5, 6, 0] rfl (h1 q1)
  · refine g_iload 0 dX11_robbed_80 rfl ?_
    refine g_istore (ls2 := [(4, .int xs0), (6, .int xs0), (0, .ref 0), (1, .int x1), (2, .int x2), (3, .int x3), (5, .int x5)]) dX11_robbed_82 (by decide) rfl ?_
    refine g_iload 6 dX11_robbed_84 rfl ?_
    refine g_istore_n (ls2 := [(3, .int x5), (4, .int xs0), (6, .int xs0), (0, .ref 0), (1, .int x1), (2, .int x2), (5, .int x5)]) dX11_robbed_86 rfl (by decide) rfl ?_
    refine g_iinc (v := x5 + (1 : Int32)) (ls2 := [(5, .int (x5 + (1 : Int32))), (3, .int x5), (4, .int xs0), (6, .int xs0), (0, .ref 0), (1, .int x1), (2, .int x2)]) 6 dX11_robbed_87 rfl rfl (by decide) rfl ?_
    refine g_goto 49 dX11_robbed_90 (by decide) ?_
    exact g_ls [4, 5, 6, 1, 2, 0] rfl (h2 q1)
theorem bX11_robByDraw_0 {X : pX} {Q : Option Value → pMem → Prop} {m : pMem} {x1 : Int32} {x2 : Int32} (hW : Wf m)
    (h1 : Cl X 0 mX11_drawnFrom [.int x1] m (fun v m2 => Go X 1 mX11_robByDraw Q 4 [(0, .ref 0), (1, .int x1), (2, .int x2)] (v.toList ++ []) m2)) :
    Go X 1 mX11_robByDraw Q 0 [(0, .ref 0), (1, .int x1), (2, .int x2)] [] m := by
  refine g_iload_n 1 dX11_robByDraw_0 rfl rfl ?_
  exact g_callS (As := [.int x1]) (st := []) dX11_robByDraw_1 clX11_344 rfl rfl (Nat.le_of_ble_eq_true rfl) (rmSH (by decide) (by decide)) h1
theorem bX11_robByDraw_4 {X : pX} {Q : Option Value → pMem → Prop} {m : pMem} {x1 : Int32} {x2 : Int32} {xs0 : Int32} (hW : Wf m)
    (h1 : x2 ≤ ((xs0 / (65536 : Int32)) - (xs0 / (65536 : Int32)) / (100 : Int32) * (100 : Int32)) → Q (some (.int xs0)) m)
    (h2 : ¬ (x2 ≤ ((xs0 / (65536 : Int32)) - (xs0 / (65536 : Int32)) / (100 : Int32) * (100 : Int32))) → (1 : Int32) ≤ (mI m 31 4) → Cl X 0 mX11_drawnFrom [.int xs0] m (fun v m2 => Go X 1 mX11_robByDraw Q 41 [(0, .ref 0), (1, .int x1), (2, .int x2), (3, .int xs0), (4, .int (mI m 31 4))] (v.toList ++ []) m2))
    (h3 : ¬ (x2 ≤ ((xs0 / (65536 : Int32)) - (xs0 / (65536 : Int32)) / (100 : Int32) * (100 : Int32))) → ¬ ((1 : Int32) ≤ (mI m 31 4)) → Q (some (.int xs0)) m) :
    Go X 1 mX11_robByDraw Q 4 [(0, .ref 0), (1, .int x1), (2, .int x2)] [.int xs0] m := by
  refine g_istore_n (ls2 := [(3, .int xs0), (0, .ref 0), (1, .int x1), (2, .int x2)]) dX11_robByDraw_4 rfl (by decide) rfl ?_
  refine g_aload_n 1 dX11_robByDraw_5 rfl rfl ?_
  refine g_getR dX11_robByDraw_6 fl11_42 rfl sh0 (w11_5 hW sh0) ?_
  refine g_getR dX11_robByDraw_9 fl11_56 rfl sh30 (w10_0 hW sh30) ?_
  refine g_getI dX11_robByDraw_12 fl11_182 (s10_0 sh30) ?_
  refine g_istore (ls2 := [(4, .int (mI m 31 4)), (3, .int xs0), (0, .ref 0), (1, .int x1), (2, .int x2)]) dX11_robByDraw_15 (by decide) rfl ?_
  refine g_iload_n 1 dX11_robByDraw_17 rfl rfl ?_
  refine g_ldcw (v := 65536) dX11_robByDraw_18 ciX11_347 ?_
  refine g_idiv dX11_robByDraw_21 (by decide) ?_
  refine g_bipush (v := 100) dX11_robByDraw_22 (by decide) ?_
  refine g_irem dX11_robByDraw_24 (by decide) ?_
  refine g_iload_n 4 dX11_robByDraw_25 rfl rfl ?_
  refine g_icmp_ge 35 dX11_robByDraw_26 (by decide) (fun q1 => ?_) (fun q1 => ?_)
  · refine g_iload_n 1 dX11_robByDraw_35 rfl rfl ?_
    exact g_iret dX11_robByDraw_36 rfl enSH (h1 q1)
  · refine g_iload 0 dX11_robByDraw_29 rfl ?_
    refine g_iconst (v := 1) dX11_robByDraw_31 (by decide) ?_
    refine g_icmp_ge 37 dX11_robByDraw_32 (by decide) (fun q2 => ?_) (fun q2 => ?_)
    · refine g_iload_n 1 dX11_robByDraw_37 rfl rfl ?_
      refine g_ls [2, 3, 4, 1, 0] (ls2 := [(0, .ref 0), (1, .int x1), (2, .int x2), (3, .int xs0), (4, .int (mI m 31 4))]) rfl ?_
      exact g_callS (As := [.int xs0]) (st := []) dX11_robByDraw_38 clX11_344 rfl rfl (Nat.le_of_ble_eq_true rfl) (rmSH (by decide) (by decide)) (h2 q1 q2)
    · refine g_iload_n 1 dX11_robByDraw_35 rfl rfl ?_
      exact g_iret dX11_robByDraw_36 rfl enSH (h3 q1 q2)
theorem bX11_robByDraw_41 {X : pX} {Q : Option Value → pMem → Prop} {m : pMem} {x1 : Int32} {x2 : Int32} {x3 : Int32} {x4 : Int32} {xs0 : Int32} (hW : Wf m)
    (h1 : ¬ x4 = 0)
    (h2 : ¬ ((xs0 / (65536 : Int32)) - (xs0 / (65536 : Int32)) / x4 * x4) < 0 ∧ ¬ mI m 31 4 ≤ ((xs0 / (65536 : Int32)) - (xs0 / (65536 : Int32)) / x4 * x4) ∧ ¬ (6 : Int32) ≤ ((xs0 / (65536 : Int32)) - (xs0 / (65536 : Int32)) / x4 * x4) → vp_in ((xs0 / (65536 : Int32)) - (xs0 / (65536 : Int32)) / x4 * x4) 6)
    (h3 : ¬ ((xs0 / (65536 : Int32)) - (xs0 / (65536 : Int32)) / x4 * x4) < 0 ∧ ¬ mI m 31 4 ≤ ((xs0 / (65536 : Int32)) - (xs0 / (65536 : Int32)) / x4 * x4) ∧ ¬ (6 : Int32) ≤ ((xs0 / (65536 : Int32)) - (xs0 / (65536 : Int32)) / x4 * x4) → Q (some (.int xs0)) (uI m 526 (((xs0 / (65536 : Int32)) - (xs0 / (65536 : Int32)) / x4 * x4).toNatClampNeg) (-1 : Int32)))
    (h4 : ¬ (¬ ((xs0 / (65536 : Int32)) - (xs0 / (65536 : Int32)) / x4 * x4) < 0 ∧ ¬ mI m 31 4 ≤ ((xs0 / (65536 : Int32)) - (xs0 / (65536 : Int32)) / x4 * x4) ∧ ¬ (6 : Int32) ≤ ((xs0 / (65536 : Int32)) - (xs0 / (65536 : Int32)) / x4 * x4)) → Q (some (.int xs0)) m) :
    Go X 1 mX11_robByDraw Q 41 [(0, .ref 0), (1, .int x1), (2, .int x2), (3, .int x3), (4, .int x4)] [.int xs0] m := by
  refine g_istore_n (ls2 := [(3, .int xs0), (0, .ref 0), (1, .int x1), (2, .int x2), (4, .int x4)]) dX11_robByDraw_41 rfl (by decide) rfl ?_
  refine g_iload_n 0 dX11_robByDraw_42 rfl rfl ?_
  refine g_ldcw (v := 65536) dX11_robByDraw_43 ciX11_347 ?_
  refine g_idiv dX11_robByDraw_46 (by decide) ?_
  refine g_iload 4 dX11_robByDraw_47 rfl ?_
  refine g_irem dX11_robByDraw_49 h1 ?_
  refine g_istore (ls2 := [(5, .int ((xs0 / (65536 : Int32)) - (xs0 / (65536 : Int32)) / x4 * x4)), (3, .int xs0), (0, .ref 0), (1, .int x1), (2, .int x2), (4, .int x4)]) dX11_robByDraw_50 (by decide) rfl ?_
  refine g_aload_n 2 dX11_robByDraw_52 rfl rfl ?_
  refine g_getR dX11_robByDraw_53 fl11_42 rfl sh0 (w11_5 hW sh0) ?_
  refine g_getR dX11_robByDraw_56 fl11_56 rfl sh30 (w10_0 hW sh30) ?_
  refine g_iload 0 dX11_robByDraw_59 rfl ?_
  refine g_callV (As := [.int ((xs0 / (65536 : Int32)) - (xs0 / (65536 : Int32)) / x4 * x4)]) (st := []) dX11_robByDraw_61 clX11_158 (s10_0 sh30) rfl rfl (Nat.le_of_ble_eq_true rfl) (rmSH (by decide) (by decide)) (s_isThing hW (s10_0 sh30) (fun q1 => ?_) (fun q1 => ?_))
  · refine g_if_eq 78 dX11_robByDraw_64 (by decide) (fun q2 => absurd q2 (by decide)) (fun q2 => ?_)
    refine g_aload_n 2 dX11_robByDraw_67 rfl rfl ?_
    refine g_getR dX11_robByDraw_68 fl11_90 rfl sh0 (w11_11 hW sh0) ?_
    refine g_getR dX11_robByDraw_71 fl11_167 rfl sh523 (w8_3 hW sh523) ?_
    refine g_iload 0 dX11_robByDraw_74 rfl ?_
    refine g_iconst (v := -1) dX11_robByDraw_76 (by decide) ?_
    refine g_iast (j := ((xs0 / (65536 : Int32)) - (xs0 / (65536 : Int32)) / x4 * x4).toNatClampNeg) dX11_robByDraw_77 (s8_3 sh523) (h2 q1) rfl ?_
    refine g_iload_n 1 dX11_robByDraw_78 rfl rfl ?_
    exact g_iret dX11_robByDraw_79 rfl enSH (h3 q1)
  · refine g_if_eq 78 dX11_robByDraw_64 (by decide) (fun q3 => ?_) (fun q3 => absurd q3 (by decide))
    refine g_iload_n 1 dX11_robByDraw_78 rfl rfl ?_
    exact g_iret dX11_robByDraw_79 rfl enSH (h4 q1)
theorem bX11_thieves_0 {X : pX} {Q : Option Value → pMem → Prop} {m : pMem} {x1 : Int32} {x2 : Int32} {x3 : Int32} {x4 : Int32} (hW : Wf m)
    (h1 : (mI m 31 0) = 0 → Q (some (.int (-1 : Int32))) m)
    (h2 : ¬ ((mI m 31 0) = 0) → x1 < (1 : Int32) → Q (some (.int (-1 : Int32))) m)
    (h3 : ¬ ((mI m 31 0) = 0) → ¬ (x1 < (1 : Int32)) → (10 : Int32) < x1 → Q (some (.int (-1 : Int32))) m)
    (h4 : ¬ ((mI m 31 0) = 0) → ¬ (x1 < (1 : Int32)) → ¬ ((10 : Int32) < x1) → x2 < (1 : Int32) → Q (some (.int (-1 : Int32))) m)
    (h5 : ¬ ((mI m 31 0) = 0) → ¬ (x1 < (1 : Int32)) → ¬ ((10 : Int32) < x1) → ¬ (x2 < (1 : Int32)) → (60 : Int32) < x2 → Q (some (.int (-1 : Int32))) m)
    (h6 : ¬ ((mI m 31 0) = 0) → ¬ (x1 < (1 : Int32)) → ¬ ((10 : Int32) < x1) → ¬ (x2 < (1 : Int32)) → ¬ ((60 : Int32) < x2) → x3 < 0 → Q (some (.int (-1 : Int32))) m)
    (h7 : ¬ ((mI m 31 0) = 0) → ¬ (x1 < (1 : Int32)) → ¬ ((10 : Int32) < x1) → ¬ (x2 < (1 : Int32)) → ¬ ((60 : Int32) < x2) → ¬ (x3 < 0) → (100 : Int32) < x3 → Q (some (.int (-1 : Int32))) m)
    (h8 : ¬ ((mI m 31 0) = 0) → ¬ (x1 < (1 : Int32)) → ¬ ((10 : Int32) < x1) → ¬ (x2 < (1 : Int32)) → ¬ ((60 : Int32) < x2) → ¬ (x3 < 0) → ¬ ((100 : Int32) < x3) → x4 < 0 → Q (some (.int (-1 : Int32))) m)
    (h9 : ¬ ((mI m 31 0) = 0) → ¬ (x1 < (1 : Int32)) → ¬ ((10 : Int32) < x1) → ¬ (x2 < (1 : Int32)) → ¬ ((60 : Int32) < x2) → ¬ (x3 < 0) → ¬ ((100 : Int32) < x3) → ¬ (x4 < 0) → x4 ≤ (1 : Int32) → Go X 5 mX11_thieves Q 73 [(0, .ref 0), (1, .int x1), (2, .int x2), (3, .int x3), (4, .int x4), (5, .int (mI m 30 4)), (6, .int (0 : Int32)), (7, .int (0 : Int32))] [] m)
    (h10 : ¬ ((mI m 31 0) = 0) → ¬ (x1 < (1 : Int32)) → ¬ ((10 : Int32) < x1) → ¬ (x2 < (1 : Int32)) → ¬ ((60 : Int32) < x2) → ¬ (x3 < 0) → ¬ ((100 : Int32) < x3) → ¬ (x4 < 0) → ¬ (x4 ≤ (1 : Int32)) → Q (some (.int (-1 : Int32))) m) :
    Go X 5 mX11_thieves Q 0 [(0, .ref 0), (1, .int x1), (2, .int x2), (3, .int x3), (4, .int x4)] [] m := by
  refine g_aload_n 0 dX11_thieves_0 rfl rfl ?_
  refine g_getR dX11_thieves_1 fl11_42 rfl sh0 (w11_5 hW sh0) ?_
  refine g_getR dX11_thieves_4 fl11_56 rfl sh30 (w10_0 hW sh30) ?_
  refine g_getZ dX11_thieves_7 fl11_217 (s10_0 sh30) ?_
  refine g_if_eq 56 dX11_thieves_10 (by decide) (fun q1 => ?_) (fun q1 => ?_)
  · refine g_iconst (v := -1) dX11_thieves_56 (by decide) ?_
    exact g_iret dX11_thieves_57 rfl enSH (h1 q1)
  · refine g_iload_n 1 dX11_thieves_13 rfl rfl ?_
    refine g_iconst (v := 1) dX11_thieves_14 (by decide) ?_
    refine g_icmp_lt 56 dX11_thieves_15 (by decide) (fun q2 => ?_) (fun q2 => ?_)
    · refine g_iconst (v := -1) dX11_thieves_56 (by decide) ?_
      exact g_iret dX11_thieves_57 rfl enSH (h2 q1 q2)
    · refine g_iload_n 1 dX11_thieves_18 rfl rfl ?_
      refine g_bipush (v := 10) dX11_thieves_19 (by decide) ?_
      refine g_icmp_gt 56 dX11_thieves_21 (by decide) (fun q3 => ?_) (fun q3 => ?_)
      · refine g_iconst (v := -1) dX11_thieves_56 (by decide) ?_
        exact g_iret dX11_thieves_57 rfl enSH (h3 q1 q2 q3)
      · refine g_iload_n 2 dX11_thieves_24 rfl rfl ?_
        refine g_iconst (v := 1) dX11_thieves_25 (by decide) ?_
        refine g_icmp_lt 56 dX11_thieves_26 (by decide) (fun q4 => ?_) (fun q4 => ?_)
        · refine g_iconst (v := -1) dX11_thieves_56 (by decide) ?_
          exact g_iret dX11_thieves_57 rfl enSH (h4 q1 q2 q3 q4)
        · refine g_iload_n 2 dX11_thieves_29 rfl rfl ?_
          refine g_bipush (v := 60) dX11_thieves_30 (by decide) ?_
          refine g_icmp_gt 56 dX11_thieves_32 (by decide) (fun q5 => ?_) (fun q5 => ?_)
          · refine g_iconst (v := -1) dX11_thieves_56 (by decide) ?_
            exact g_iret dX11_thieves_57 rfl enSH (h5 q1 q2 q3 q4 q5)
          · refine g_iload_n 3 dX11_thieves_35 rfl rfl ?_
            refine g_if_lt 56 dX11_thieves_36 (by decide) (fun q6 => ?_) (fun q6 => ?_)
            · refine g_iconst (v := -1) dX11_thieves_56 (by decide) ?_
              exact g_iret dX11_thieves_57 rfl enSH (h6 q1 q2 q3 q4 q5 q6)
            · refine g_iload_n 3 dX11_thieves_39 rfl rfl ?_
              refine g_bipush (v := 100) dX11_thieves_40 (by decide) ?_
              refine g_icmp_gt 56 dX11_thieves_42 (by decide) (fun q7 => ?_) (fun q7 => ?_)
              · refine g_iconst (v := -1) dX11_thieves_56 (by decide) ?_
                exact g_iret dX11_thieves_57 rfl enSH (h7 q1 q2 q3 q4 q5 q6 q7)
              · refine g_iload 4 dX11_thieves_45 rfl ?_
                refine g_if_lt 56 dX11_thieves_47 (by decide) (fun q8 => ?_) (fun q8 => ?_)
                · refine g_iconst (v := -1) dX11_thieves_56 (by decide) ?_
                  exact g_iret dX11_thieves_57 rfl enSH (h8 q1 q2 q3 q4 q5 q6 q7 q8)
                · refine g_iload 4 dX11_thieves_50 rfl ?_
                  refine g_iconst (v := 1) dX11_thieves_52 (by decide) ?_
                  refine g_icmp_le 58 dX11_thieves_53 (by decide) (fun q9 => ?_) (fun q9 => ?_)
                  · refine g_aload_n 0 dX11_thieves_58 rfl rfl ?_
                    refine g_getR dX11_thieves_59 fl11_42 rfl sh0 (w11_5 hW sh0) ?_
                    refine g_getI dX11_thieves_62 fl11_214 sh30 ?_
                    refine g_istore (ls2 := [(5, .int (mI m 30 4)), (0, .ref 0), (1, .int x1), (2, .int x2), (3, .int x3), (4, .int x4)]) dX11_thieves_65 (by decide) rfl ?_
                    refine g_iconst (v := 0) dX11_thieves_67 (by decide) ?_
                    refine g_istore (ls2 := [(6, .int (0 : Int32)), (5, .int (mI m 30 4)), (0, .ref 0), (1, .int x1), (2, .int x2), (3, .int x3), (4, .int x4)]) dX11_thieves_68 (by decide) rfl ?_
                    refine g_iconst (v := 0) dX11_thieves_70 (by decide) ?_
                    refine g_istore (ls2 := [(7, .int (0 : Int32)), (6, .int (0 : Int32)), (5, .int (mI m 30 4)), (0, .ref 0), (1, .int x1), (2, .int x2), (3, .int x3), (4, .int x4)]) dX11_thieves_71 (by decide) rfl ?_
                    exact g_ls [3, 4, 5, 6, 7, 2, 1, 0] rfl (h9 q1 q2 q3 q4 q5 q6 q7 q8 q9)
                  · refine g_iconst (v := -1) dX11_thieves_56 (by decide) ?_
                    exact g_iret dX11_thieves_57 rfl enSH (h10 q1 q2 q3 q4 q5 q6 q7 q8 q9)
theorem bX11_thieves_73 {X : pX} {Q : Option Value → pMem → Prop} {m : pMem} {x1 : Int32} {x2 : Int32} {x3 : Int32} {x4 : Int32} {x5 : Int32} {x6 : Int32} {x7 : Int32} (hW : Wf m)
    (h1 : x1 ≤ x7 → Q (some (.int x6)) m)
    (h2 : ¬ (x1 ≤ x7) → Go X 5 mX11_thieves Q 96 [(0, .ref 0), (1, .int x1), (2, .int x2), (3, .int x3), (4, .int x4), (5, .int x5), (6, .int x6), (7, .int x7), (8, .int (0 : Int32))] [] (cpS m 523 37)) :
    Go X 5 mX11_thieves Q 73 [(0, .ref 0), (1, .int x1), (2, .int x2), (3, .int x3), (4, .int x4), (5, .int x5), (6, .int x6), (7, .int x7)] [] m := by
  refine g_iload 7 dX11_thieves_73 rfl ?_
  refine g_iload_n 1 dX11_thieves_75 rfl rfl ?_
  refine g_icmp_ge 177 dX11_thieves_76 (by decide) (fun q1 => ?_) (fun q1 => ?_)
  · refine g_iload 6 dX11_thieves_177 rfl ?_
    exact g_iret dX11_thieves_179 rfl enSH (h1 q1)
  · refine g_aload_n 0 dX11_thieves_79 rfl rfl ?_
    refine g_getR dX11_thieves_80 fl11_90 rfl sh0 (w11_11 hW sh0) ?_
    refine g_aload_n 0 dX11_thieves_83 rfl rfl ?_
    refine g_getR dX11_thieves_84 fl11_42 rfl sh0 (w11_5 hW sh0) ?_
    refine g_getR dX11_thieves_87 fl11_69 rfl sh30 (w10_1 hW sh30) ?_
    refine g_callV (As := [.ref 37]) (st := []) dX11_thieves_90 clX11_252 sh523 rfl rfl (Nat.le_of_ble_eq_true rfl) (rmSH (by decide) (by decide)) (s_copyS hW sh523 (s10_1 sh30) ?_)
    show Go X 5 mX11_thieves Q 93 [(0, .ref 0), (1, .int x1), (2, .int x2), (3, .int x3), (4, .int x4), (5, .int x5), (6, .int x6), (7, .int x7)] [] (cpS m 523 37)
    refine g_iconst (v := 0) dX11_thieves_93 (by decide) ?_
    refine g_istore (ls2 := [(8, .int (0 : Int32)), (0, .ref 0), (1, .int x1), (2, .int x2), (3, .int x3), (4, .int x4), (5, .int x5), (6, .int x6), (7, .int x7)]) dX11_thieves_94 (by decide) rfl ?_
    exact g_ls [1, 2, 3, 4, 5, 6, 7, 8, 0] rfl (h2 q1)
theorem bX11_thieves_96 {X : pX} {Q : Option Value → pMem → Prop} {m : pMem} {x1 : Int32} {x2 : Int32} {x3 : Int32} {x4 : Int32} {x5 : Int32} {x6 : Int32} {x7 : Int32} {x8 : Int32} (hW : Wf m)
    (h1 : x2 ≤ x8 → ¬ x4 = 0 → vp_in (mI m 31 3) 5)
    (h2 : x2 ≤ x8 → ¬ x4 = 0 → sm64 (tAt (mI m 524) (mI m 31 2) (mI m 31 3).toNatClampNeg))
    (h3 : x2 ≤ x8 → ¬ x4 = 0 → Go X 5 mX11_thieves Q 73 [(0, .ref 0), (1, .int x1), (2, .int x2), (3, .int x3), (4, .int x4), (5, .int x5), (6, .int (x6 + (pcI (tAt (mI m 524) (mI m 31 2) (mI m 31 3).toNatClampNeg)))), (7, .int (x7 + (1 : Int32)))] [] m)
    (h4 : x2 ≤ x8 → x4 = 0 → vp_in (mI m 31 3) 5)
    (h5 : x2 ≤ x8 → x4 = 0 → Go X 5 mX11_thieves Q 73 [(0, .ref 0), (1, .int x1), (2, .int x2), (3, .int x3), (4, .int x4), (5, .int x5), (6, .int (x6 + (wSum (mI m 35) (tTown (mI m 524) (mI m 526) (mI m 31 2) 6 (mI m 31 3).toNatClampNeg) 6))), (7, .int (x7 + (1 : Int32)))] [] m)
    (h6 : ¬ (x2 ≤ x8) → Cl X 1 mX11_robByDraw [.ref 0, .int x5, .int x3] m (fun v m2 => Go X 5 mX11_thieves Q 109 [(0, .ref 0), (1, .int x1), (2, .int x2), (3, .int x3), (4, .int x4), (5, .int x5), (6, .int x6), (7, .int x7), (8, .int x8)] (v.toList ++ []) m2)) :
    Go X 5 mX11_thieves Q 96 [(0, .ref 0), (1, .int x1), (2, .int x2), (3, .int x3), (4, .int x4), (5, .int x5), (6, .int x6), (7, .int x7), (8, .int x8)] [] m := by
  refine g_iload 8 dX11_thieves_96 rfl ?_
  refine g_iload_n 2 dX11_thieves_98 rfl rfl ?_
  refine g_icmp_ge 133 dX11_thieves_99 (by decide) (fun q1 => ?_) (fun q1 => ?_)
  · refine g_iload 6 dX11_thieves_133 rfl ?_
    refine g_iload 4 dX11_thieves_135 rfl ?_
    refine g_if_ne 154 dX11_thieves_137 (by decide) (fun q2 => ?_) (fun q2 => ?_)
    · refine g_aload_n 0 dX11_thieves_154 rfl rfl ?_
      refine g_getR dX11_thieves_155 fl11_63 rfl sh0 (w11_8 hW sh0) ?_
      refine g_aload_n 0 dX11_thieves_158 rfl rfl ?_
      refine g_getR dX11_thieves_159 fl11_90 rfl sh0 (w11_11 hW sh0) ?_
      refine g_callV (As := [.ref 523]) (st := [.int x6]) dX11_thieves_162 clX11_188 sh512 rfl rfl (Nat.le_of_ble_eq_true rfl) (rmSH (by decide) (by decide)) (s_cTown523 hW (h1 q1 q2) ?_)
      show Go X 5 mX11_thieves Q 165 [(0, .ref 0), (1, .int x1), (2, .int x2), (3, .int x3), (4, .int x4), (5, .int x5), (6, .int x6), (7, .int x7), (8, .int x8)] [.int (tAt (mI m 524) (mI m 31 2) (mI m 31 3).toNatClampNeg), .int x6] m
      refine g_callS (As := [.int (tAt (mI m 524) (mI m 31 2) (mI m 31 3).toNatClampNeg)]) (st := [.int x6]) dX11_thieves_165 clX11_339 rfl rfl (Nat.le_of_ble_eq_true rfl) (rmSH (by decide) (by decide)) (s_bitCount hW (h2 q1 q2) ?_)
      show Go X 5 mX11_thieves Q 168 [(0, .ref 0), (1, .int x1), (2, .int x2), (3, .int x3), (4, .int x4), (5, .int x5), (6, .int x6), (7, .int x7), (8, .int x8)] [.int (pcI (tAt (mI m 524) (mI m 31 2) (mI m 31 3).toNatClampNeg)), .int x6] m
      refine g_iadd dX11_thieves_168 ?_
      refine g_istore (ls2 := [(6, .int (x6 + (pcI (tAt (mI m 524) (mI m 31 2) (mI m 31 3).toNatClampNeg)))), (0, .ref 0), (1, .int x1), (2, .int x2), (3, .int x3), (4, .int x4), (5, .int x5), (7, .int x7), (8, .int x8)]) dX11_thieves_169 (by decide) rfl ?_
      refine g_iinc (v := x7 + (1 : Int32)) (ls2 := [(7, .int (x7 + (1 : Int32))), (6, .int (x6 + (pcI (tAt (mI m 524) (mI m 31 2) (mI m 31 3).toNatClampNeg)))), (0, .ref 0), (1, .int x1), (2, .int x2), (3, .int x3), (4, .int x4), (5, .int x5), (8, .int x8)]) 7 dX11_thieves_171 rfl rfl (by decide) rfl ?_
      refine g_goto 73 dX11_thieves_174 (by decide) ?_
      exact g_ls [2, 3, 4, 5, 6, 7, 1, 0] rfl (h3 q1 q2)
    · refine g_aload_n 0 dX11_thieves_140 rfl rfl ?_
      refine g_getR dX11_thieves_141 fl11_63 rfl sh0 (w11_8 hW sh0) ?_
      refine g_aload_n 0 dX11_thieves_144 rfl rfl ?_
      refine g_getR dX11_thieves_145 fl11_90 rfl sh0 (w11_11 hW sh0) ?_
      refine g_callV (As := [.ref 523]) (st := [.int x6]) dX11_thieves_148 clX11_192 sh512 rfl rfl (Nat.le_of_ble_eq_true rfl) (rmSH (by decide) (by decide)) (s_cWorth523 hW (h4 q1 q2) ?_)
      show Go X 5 mX11_thieves Q 151 [(0, .ref 0), (1, .int x1), (2, .int x2), (3, .int x3), (4, .int x4), (5, .int x5), (6, .int x6), (7, .int x7), (8, .int x8)] [.int (wSum (mI m 35) (tTown (mI m 524) (mI m 526) (mI m 31 2) 6 (mI m 31 3).toNatClampNeg) 6), .int x6] m
      refine g_goto 168 dX11_thieves_151 (by decide) ?_
      refine g_iadd dX11_thieves_168 ?_
      refine g_istore (ls2 := [(6, .int (x6 + (wSum (mI m 35) (tTown (mI m 524) (mI m 526) (mI m 31 2) 6 (mI m 31 3).toNatClampNeg) 6))), (0, .ref 0), (1, .int x1), (2, .int x2), (3, .int x3), (4, .int x4), (5, .int x5), (7, .int x7), (8, .int x8)]) dX11_thieves_169 (by decide) rfl ?_
      refine g_iinc (v := x7 + (1 : Int32)) (ls2 := [(7, .int (x7 + (1 : Int32))), (6, .int (x6 + (wSum (mI m 35) (tTown (mI m 524) (mI m 526) (mI m 31 2) 6 (mI m 31 3).toNatClampNeg) 6))), (0, .ref 0), (1, .int x1), (2, .int x2), (3, .int x3), (4, .int x4), (5, .int x5), (8, .int x8)]) 7 dX11_thieves_171 rfl rfl (by decide) rfl ?_
      refine g_goto 73 dX11_thieves_174 (by decide) ?_
      exact g_ls [2, 3, 4, 5, 6, 7, 1, 0] rfl (h5 q1 q2)
  · refine g_aload_n 0 dX11_thieves_102 rfl rfl ?_
    refine g_iload 5 dX11_thieves_103 rfl ?_
    refine g_iload_n 3 dX11_thieves_105 rfl rfl ?_
    exact g_callV (As := [.int x5, .int x3]) (st := []) dX11_thieves_106 clX11_336 sh0 rfl rfl (Nat.le_of_ble_eq_true rfl) (rmSH (by decide) (by decide)) (h6 q1)
theorem bX11_thieves_109 {X : pX} {Q : Option Value → pMem → Prop} {m : pMem} {x1 : Int32} {x2 : Int32} {x3 : Int32} {x4 : Int32} {x5 : Int32} {x6 : Int32} {x7 : Int32} {x8 : Int32} {xs0 : Int32} (hW : Wf m)
    (h1 : Cl X 1 mX11_inForce [.ref 0] m (fun v m2 => Go X 5 mX11_thieves Q 123 [(0, .ref 0), (1, .int x1), (2, .int x2), (3, .int x3), (4, .int x4), (5, .int xs0), (6, .int x6), (7, .int x7), (8, .int x8)] (v.toList ++ [.ref 523, .ref 512]) m2)) :
    Go X 5 mX11_thieves Q 109 [(0, .ref 0), (1, .int x1), (2, .int x2), (3, .int x3), (4, .int x4), (5, .int x5), (6, .int x6), (7, .int x7), (8, .int x8)] [.int xs0] m := by
  refine g_istore (ls2 := [(5, .int xs0), (0, .ref 0), (1, .int x1), (2, .int x2), (3, .int x3), (4, .int x4), (6, .int x6), (7, .int x7), (8, .int x8)]) dX11_thieves_109 (by decide) rfl ?_
  refine g_aload_n 1 dX11_thieves_111 rfl rfl ?_
  refine g_getR dX11_thieves_112 fl11_63 rfl sh0 (w11_8 hW sh0) ?_
  refine g_aload_n 1 dX11_thieves_115 rfl rfl ?_
  refine g_getR dX11_thieves_116 fl11_90 rfl sh0 (w11_11 hW sh0) ?_
  refine g_aload_n 1 dX11_thieves_119 rfl rfl ?_
  refine g_ls [1, 2, 3, 4, 5, 0, 6, 7, 8] (ls2 := [(0, .ref 0), (1, .int x1), (2, .int x2), (3, .int x3), (4, .int x4), (5, .int xs0), (6, .int x6), (7, .int x7), (8, .int x8)]) rfl ?_
  exact g_callV (As := []) (st := [.ref 523, .ref 512]) dX11_thieves_120 clX11_225 sh0 rfl rfl (Nat.le_of_ble_eq_true rfl) (rmSH (by decide) (by decide)) h1
theorem bX11_thieves_123 {X : pX} {Q : Option Value → pMem → Prop} {m : pMem} {x1 : Int32} {x2 : Int32} {x3 : Int32} {x4 : Int32} {x5 : Int32} {x6 : Int32} {x7 : Int32} {x8 : Int32} {as0 : Nat} {as1 : Nat} (hW : Wf m) (cs0 : SH[as0]? = some (.inl 6)) (cs1 : SH[as1]? = some (.inl 8))
    (h1 : Cl X 4 mX0_oneDay [.ref 512, .ref as1, .ref as0] m (fun v m2 => Go X 5 mX11_thieves Q 126 [(0, .ref 0), (1, .int x1), (2, .int x2), (3, .int x3), (4, .int x4), (5, .int x5), (6, .int x6), (7, .int x7), (8, .int x8)] (v.toList ++ []) m2)) :
    Go X 5 mX11_thieves Q 123 [(0, .ref 0), (1, .int x1), (2, .int x2), (3, .int x3), (4, .int x4), (5, .int x5), (6, .int x6), (7, .int x7), (8, .int x8)] [.ref as0, .ref as1, .ref 512] m := by
  exact g_callV (As := [.ref as1, .ref as0]) (st := []) dX11_thieves_123 clX11_229 sh512 rfl rfl (Nat.le_of_ble_eq_true rfl) (rmSH (by decide) (by decide)) h1
theorem bX11_thieves_123v1 {X : pX} {Q : Option Value → pMem → Prop} {m : pMem} {x1 : Int32} {x2 : Int32} {x3 : Int32} {x4 : Int32} {x5 : Int32} {x6 : Int32} {x7 : Int32} {x8 : Int32} {as1 : Nat} (hW : Wf m) (cs1 : SH[as1]? = some (.inl 8))
    (h1 : Cl X 4 mX0_oneDay [.ref 512, .ref as1, .null] m (fun v m2 => Go X 5 mX11_thieves Q 126 [(0, .ref 0), (1, .int x1), (2, .int x2), (3, .int x3), (4, .int x4), (5, .int x5), (6, .int x6), (7, .int x7), (8, .int x8)] (v.toList ++ []) m2)) :
    Go X 5 mX11_thieves Q 123 [(0, .ref 0), (1, .int x1), (2, .int x2), (3, .int x3), (4, .int x4), (5, .int x5), (6, .int x6), (7, .int x7), (8, .int x8)] [.null, .ref as1, .ref 512] m := by
  exact g_callV (As := [.ref as1, .null]) (st := []) dX11_thieves_123 clX11_229 sh512 rfl rfl (Nat.le_of_ble_eq_true rfl) (rmSH (by decide) (by decide)) h1
theorem bX11_thieves_126 {X : pX} {Q : Option Value → pMem → Prop} {m : pMem} {x1 : Int32} {x2 : Int32} {x3 : Int32} {x4 : Int32} {x5 : Int32} {x6 : Int32} {x7 : Int32} {x8 : Int32} {xs0 : Int32} (hW : Wf m)
    (h1 : Go X 5 mX11_thieves Q 96 [(0, .ref 0), (1, .int x1), (2, .int x2), (3, .int x3), (4, .int x4), (5, .int x5), (6, .int x6), (7, .int x7), (8, .int (x8 + (1 : Int32)))] [] m) :
    Go X 5 mX11_thieves Q 126 [(0, .ref 0), (1, .int x1), (2, .int x2), (3, .int x3), (4, .int x4), (5, .int x5), (6, .int x6), (7, .int x7), (8, .int x8)] [.int xs0] m := by
  refine g_pop dX11_thieves_126 rfl ?_
  refine g_iinc (v := x8 + (1 : Int32)) (ls2 := [(8, .int (x8 + (1 : Int32))), (0, .ref 0), (1, .int x1), (2, .int x2), (3, .int x3), (4, .int x4), (5, .int x5), (6, .int x6), (7, .int x7)]) 8 dX11_thieves_127 rfl rfl (by decide) rfl ?_
  refine g_goto 96 dX11_thieves_130 (by decide) ?_
  exact g_ls [1, 2, 3, 4, 5, 6, 7, 8, 0] rfl h1
theorem bX12_thieves_0 {X : pX} {Q : Option Value → pMem → Prop} {m : pMem} {x1 : Int32} {x2 : Int32} {x3 : Int32} {x4 : Int32} (hW : Wf m)
    (h1 : mI m 536 0 = (1 : Int32) → ¬ x1 < (1 : Int32) ∧ ¬ (10 : Int32) < x1 → ¬ x2 < (1 : Int32) ∧ ¬ (60 : Int32) < x2 → ¬ x3 < (0 : Int32) ∧ ¬ (100 : Int32) < x3 → ¬ x4 < (0 : Int32) ∧ ¬ (1 : Int32) < x4 → Cl X 2 mX12_keepsAll [.ref 535] m (fun v m2 => Go X 7 mX12_thieves Q 76 [(0, .ref 535), (1, .int x1), (2, .int x2), (3, .int x3), (4, .int x4), (5, .int (mI m 536 7)), (6, .int (mI m 536 7)), (7, .int (0 : Int32))] (v.toList ++ []) m2))
    (h2 : mI m 536 0 = (1 : Int32) → ¬ x1 < (1 : Int32) ∧ ¬ (10 : Int32) < x1 → ¬ x2 < (1 : Int32) ∧ ¬ (60 : Int32) < x2 → ¬ x3 < (0 : Int32) ∧ ¬ (100 : Int32) < x3 → ¬ (¬ x4 < (0 : Int32) ∧ ¬ (1 : Int32) < x4) → Q (some (.int (-1 : Int32))) m)
    (h3 : mI m 536 0 = (1 : Int32) → ¬ x1 < (1 : Int32) ∧ ¬ (10 : Int32) < x1 → ¬ x2 < (1 : Int32) ∧ ¬ (60 : Int32) < x2 → ¬ (¬ x3 < (0 : Int32) ∧ ¬ (100 : Int32) < x3) → Q (some (.int (-1 : Int32))) m)
    (h4 : mI m 536 0 = (1 : Int32) → ¬ x1 < (1 : Int32) ∧ ¬ (10 : Int32) < x1 → ¬ (¬ x2 < (1 : Int32) ∧ ¬ (60 : Int32) < x2) → Q (some (.int (-1 : Int32))) m)
    (h5 : mI m 536 0 = (1 : Int32) → ¬ (¬ x1 < (1 : Int32) ∧ ¬ (10 : Int32) < x1) → Q (some (.int (-1 : Int32))) m)
    (h6 : ¬ (mI m 536 0 = (1 : Int32)) → Q (some (.int (-1 : Int32))) m) :
    Go X 7 mX12_thieves Q 0 [(0, .ref 535), (1, .int x1), (2, .int x2), (3, .int x3), (4, .int x4)] [] m := by
  refine g_aload_n 0 dX12_thieves_0 rfl rfl ?_
  refine g_callV (As := []) (st := []) dX12_thieves_1 clX12_389 sh535 rfl rfl (Nat.le_of_ble_eq_true rfl) (rmSH (by decide) (by decide)) (s_isRoad hW (fun q1 => ?_) (fun q1 => ?_))
  · refine g_if_eq 54 dX12_thieves_4 (by decide) (fun q2 => absurd q2 (by decide)) (fun q2 => ?_)
    refine g_iload_n 1 dX12_thieves_7 rfl rfl ?_
    refine g_i2l dX12_thieves_8 ?_
    refine g_lconst (v := 1) dX12_thieves_9 (by decide) ?_
    refine g_ldc2 (v := 10) dX12_thieves_10 cjX12_476 ?_
    refine g_callS (As := [.long x1.toInt64, .long (1 : Int64), .long (10 : Int64)]) (st := []) dX12_thieves_13 clX12_128 rfl rfl (Nat.le_of_ble_eq_true rfl) (rmSH (by decide) (by decide)) (s_in (x := x1) (lo := (1 : Int32)) (hi := (10 : Int32)) hW (by first | rfl | decide) (by first | rfl | decide) (by first | rfl | decide) (fun q3 => ?_) (fun q3 => ?_))
    · refine g_if_eq 54 dX12_thieves_16 (by decide) (fun q4 => absurd q4 (by decide)) (fun q4 => ?_)
      refine g_iload_n 2 dX12_thieves_19 rfl rfl ?_
      refine g_i2l dX12_thieves_20 ?_
      refine g_lconst (v := 1) dX12_thieves_21 (by decide) ?_
      refine g_ldc2 (v := 60) dX12_thieves_22 cjX12_431 ?_
      refine g_callS (As := [.long x2.toInt64, .long (1 : Int64), .long (60 : Int64)]) (st := []) dX12_thieves_25 clX12_128 rfl rfl (Nat.le_of_ble_eq_true rfl) (rmSH (by decide) (by decide)) (s_in (x := x2) (lo := (1 : Int32)) (hi := (60 : Int32)) hW (by first | rfl | decide) (by first | rfl | decide) (by first | rfl | decide) (fun q5 => ?_) (fun q5 => ?_))
      · refine g_if_eq 54 dX12_thieves_28 (by decide) (fun q6 => absurd q6 (by decide)) (fun q6 => ?_)
        refine g_iload_n 3 dX12_thieves_31 rfl rfl ?_
        refine g_i2l dX12_thieves_32 ?_
        refine g_lconst (v := 0) dX12_thieves_33 (by decide) ?_
        refine g_ldc2 (v := 100) dX12_thieves_34 cjX12_407 ?_
        refine g_callS (As := [.long x3.toInt64, .long (0 : Int64), .long (100 : Int64)]) (st := []) dX12_thieves_37 clX12_128 rfl rfl (Nat.le_of_ble_eq_true rfl) (rmSH (by decide) (by decide)) (s_in (x := x3) (lo := (0 : Int32)) (hi := (100 : Int32)) hW (by first | rfl | decide) (by first | rfl | decide) (by first | rfl | decide) (fun q7 => ?_) (fun q7 => ?_))
        · refine g_if_eq 54 dX12_thieves_40 (by decide) (fun q8 => absurd q8 (by decide)) (fun q8 => ?_)
          refine g_iload 4 dX12_thieves_43 rfl ?_
          refine g_i2l dX12_thieves_45 ?_
          refine g_lconst (v := 0) dX12_thieves_46 (by decide) ?_
          refine g_lconst (v := 1) dX12_thieves_47 (by decide) ?_
          refine g_callS (As := [.long x4.toInt64, .long (0 : Int64), .long (1 : Int64)]) (st := []) dX12_thieves_48 clX12_128 rfl rfl (Nat.le_of_ble_eq_true rfl) (rmSH (by decide) (by decide)) (s_in (x := x4) (lo := (0 : Int32)) (hi := (1 : Int32)) hW (by first | rfl | decide) (by first | rfl | decide) (by first | rfl | decide) (fun q9 => ?_) (fun q9 => ?_))
          · refine g_if_ne 56 dX12_thieves_51 (by decide) (fun q10 => ?_) (fun q10 => absurd q10 (by decide))
            refine g_aload_n 0 dX12_thieves_56 rfl rfl ?_
            refine g_getR dX12_thieves_57 fl12_9 rfl sh535 (w12_1 hW sh535) ?_
            refine g_bipush (v := 7) dX12_thieves_60 (by decide) ?_
            refine g_iald (j := 7) dX12_thieves_62 (s12_1 sh535) (by unfold vp_in; decide) (by decide) ?_
            refine g_istore (ls2 := [(5, .int (mI m 536 7)), (0, .ref 535), (1, .int x1), (2, .int x2), (3, .int x3), (4, .int x4)]) dX12_thieves_63 (by decide) rfl ?_
            refine g_iload 0 dX12_thieves_65 rfl ?_
            refine g_istore (ls2 := [(6, .int (mI m 536 7)), (5, .int (mI m 536 7)), (0, .ref 535), (1, .int x1), (2, .int x2), (3, .int x3), (4, .int x4)]) dX12_thieves_67 (by decide) rfl ?_
            refine g_iconst (v := 0) dX12_thieves_69 (by decide) ?_
            refine g_istore (ls2 := [(7, .int (0 : Int32)), (6, .int (mI m 536 7)), (5, .int (mI m 536 7)), (0, .ref 535), (1, .int x1), (2, .int x2), (3, .int x3), (4, .int x4)]) dX12_thieves_70 (by decide) rfl ?_
            refine g_aload_n 3 dX12_thieves_72 rfl rfl ?_
            refine g_ls [3, 4, 5, 6, 7, 2, 1, 0] (ls2 := [(0, .ref 535), (1, .int x1), (2, .int x2), (3, .int x3), (4, .int x4), (5, .int (mI m 536 7)), (6, .int (mI m 536 7)), (7, .int (0 : Int32))]) rfl ?_
            exact g_callV (As := []) (st := []) dX12_thieves_73 clX12_409 sh535 rfl rfl (Nat.le_of_ble_eq_true rfl) (rmSH (by decide) (by decide)) (h1 q1 q3 q5 q7 q9)
          · refine g_if_ne 56 dX12_thieves_51 (by decide) (fun q11 => absurd q11 (by decide)) (fun q11 => ?_)
            refine g_iconst (v := -1) dX12_thieves_54 (by decide) ?_
            exact g_iret dX12_thieves_55 rfl enSH (h2 q1 q3 q5 q7 q9)
        · refine g_if_eq 54 dX12_thieves_40 (by decide) (fun q12 => ?_) (fun q12 => absurd q12 (by decide))
          refine g_iconst (v := -1) dX12_thieves_54 (by decide) ?_
          exact g_iret dX12_thieves_55 rfl enSH (h3 q1 q3 q5 q7)
      · refine g_if_eq 54 dX12_thieves_28 (by decide) (fun q13 => ?_) (fun q13 => absurd q13 (by decide))
        refine g_iconst (v := -1) dX12_thieves_54 (by decide) ?_
        exact g_iret dX12_thieves_55 rfl enSH (h4 q1 q3 q5)
    · refine g_if_eq 54 dX12_thieves_16 (by decide) (fun q14 => ?_) (fun q14 => absurd q14 (by decide))
      refine g_iconst (v := -1) dX12_thieves_54 (by decide) ?_
      exact g_iret dX12_thieves_55 rfl enSH (h5 q1 q3)
  · refine g_if_eq 54 dX12_thieves_4 (by decide) (fun q15 => ?_) (fun q15 => absurd q15 (by decide))
    refine g_iconst (v := -1) dX12_thieves_54 (by decide) ?_
    exact g_iret dX12_thieves_55 rfl enSH (h6 q1)
theorem bX12_thieves_76 {X : pX} {Q : Option Value → pMem → Prop} {m : pMem} {x1 : Int32} {x2 : Int32} {x3 : Int32} {x4 : Int32} {x5 : Int32} {x6 : Int32} {x7 : Int32} (hW : Wf m)
    (h1 : Go X 7 mX12_thieves Q 79 [(0, .ref 535), (1, .int x1), (2, .int x2), (3, .int x3), (4, .int x4), (5, .int x5), (6, .int x6), (7, .int x7), (8, .int (0 : Int32))] [] m) :
    Go X 7 mX12_thieves Q 76 [(0, .ref 535), (1, .int x1), (2, .int x2), (3, .int x3), (4, .int x4), (5, .int x5), (6, .int x6), (7, .int x7)] [] m := by
  refine g_iconst (v := 0) dX12_thieves_76 (by decide) ?_
  refine g_istore (ls2 := [(8, .int (0 : Int32)), (0, .ref 535), (1, .int x1), (2, .int x2), (3, .int x3), (4, .int x4), (5, .int x5), (6, .int x6), (7, .int x7)]) dX12_thieves_77 (by decide) rfl ?_
  exact g_ls [1, 2, 3, 4, 5, 6, 7, 8, 0] rfl h1
theorem bX12_thieves_79 {X : pX} {Q : Option Value → pMem → Prop} {m : pMem} {x1 : Int32} {x2 : Int32} {x3 : Int32} {x4 : Int32} {x5 : Int32} {x6 : Int32} {x7 : Int32} {x8 : Int32} (hW : Wf m)
    (h1 : x1 ≤ x8 → Q (some (.int x7)) (uI m 536 7 x5))
    (h2 : ¬ (x1 ≤ x8) → Go X 7 mX12_thieves Q 97 [(0, .ref 535), (1, .int x1), (2, .int x2), (3, .int x3), (4, .int x4), (5, .int x5), (7, .int x7), (8, .int x8), (9, .int (0 : Int32))] [] (uI m 536 7 x6)) :
    Go X 7 mX12_thieves Q 79 [(0, .ref 535), (1, .int x1), (2, .int x2), (3, .int x3), (4, .int x4), (5, .int x5), (6, .int x6), (7, .int x7), (8, .int x8)] [] m := by
  refine g_iload 8 dX12_thieves_79 rfl ?_
  refine g_iload_n 1 dX12_thieves_81 rfl rfl ?_
  refine g_icmp_ge 192 dX12_thieves_82 (by decide) (fun q1 => ?_) (fun q1 => ?_)
  · refine g_aload_n 0 dX12_thieves_192 rfl rfl ?_
    refine g_getR dX12_thieves_193 fl12_9 rfl sh535 (w12_1 hW sh535) ?_
    refine g_bipush (v := 7) dX12_thieves_196 (by decide) ?_
    refine g_iload 5 dX12_thieves_198 rfl ?_
    refine g_iast (j := 7) dX12_thieves_200 (s12_1 sh535) (by unfold vp_in; decide) (by decide) ?_
    refine g_iload 7 dX12_thieves_201 rfl ?_
    exact g_iret dX12_thieves_203 rfl enSH (h1 q1)
  · refine g_aload_n 0 dX12_thieves_85 rfl rfl ?_
    refine g_getR dX12_thieves_86 fl12_9 rfl sh535 (w12_1 hW sh535) ?_
    refine g_bipush (v := 7) dX12_thieves_89 (by decide) ?_
    refine g_iload 6 dX12_thieves_91 rfl ?_
    refine g_iast (j := 7) dX12_thieves_93 (s12_1 sh535) (by unfold vp_in; decide) (by decide) ?_
    refine g_iconst (v := 0) dX12_thieves_94 (by decide) ?_
    refine g_istore (ls2 := [(9, .int (0 : Int32)), (0, .ref 535), (1, .int x1), (2, .int x2), (3, .int x3), (4, .int x4), (5, .int x5), (6, .int x6), (7, .int x7), (8, .int x8)]) dX12_thieves_95 (by decide) rfl ?_
    exact g_ls [1, 2, 3, 4, 5, 6, 8, 9, 0] rfl (h2 q1)
theorem bX12_thieves_97 {X : pX} {Q : Option Value → pMem → Prop} {m : pMem} {x1 : Int32} {x2 : Int32} {x3 : Int32} {x4 : Int32} {x5 : Int32} {x7 : Int32} {x8 : Int32} {x9 : Int32} (hW : Wf m)
    (h1 : x2 ≤ x9 → ¬ x4 = 0 → vp_in (mI m 536 3) 5)
    (h2 : x2 ≤ x9 → ¬ x4 = 0 → sm64 (tAt (mI m 537) (mI m 536 2) (mI m 536 3).toNatClampNeg))
    (h3 : x2 ≤ x9 → ¬ x4 = 0 → Cl X 2 mX12_laysBack [.ref 535] m (fun v m2 => Go X 7 mX12_thieves Q 186 [(0, .ref 535), (1, .int x1), (2, .int x2), (3, .int x3), (4, .int x4), (5, .int x5), (6, .int (mI m 536 7)), (7, .int (x7 + (pcI (tAt (mI m 537) (mI m 536 2) (mI m 536 3).toNatClampNeg)))), (8, .int x8), (9, .int x9)] (v.toList ++ []) m2))
    (h4 : x2 ≤ x9 → x4 = 0 → vp_in (mI m 536 3) 5)
    (h5 : x2 ≤ x9 → x4 = 0 → vp_in (mI m 536 4) 7)
    (h6 : x2 ≤ x9 → x4 = 0 → Cl X 2 mX12_laysBack [.ref 535] m (fun v m2 => Go X 7 mX12_thieves Q 186 [(0, .ref 535), (1, .int x1), (2, .int x2), (3, .int x3), (4, .int x4), (5, .int x5), (6, .int (mI m 536 7)), (7, .int (x7 + (wTown (mI m 543) (mI m 537) (mI m 539) (mI m 536 2) (mI m 536 4).toNatClampNeg (mI m 536 3).toNatClampNeg))), (8, .int x8), (9, .int x9)] (v.toList ++ []) m2))
    (h7 : ¬ (x2 ≤ x9) → Cl X 0 mX12_draws [.ref 535, .int (100 : Int32)] m (fun v m2 => Go X 7 mX12_thieves Q 109 [(0, .ref 535), (1, .int x1), (2, .int x2), (3, .int x3), (4, .int x4), (5, .int x5), (7, .int x7), (8, .int x8), (9, .int x9)] (v.toList ++ []) m2)) :
    Go X 7 mX12_thieves Q 97 [(0, .ref 535), (1, .int x1), (2, .int x2), (3, .int x3), (4, .int x4), (5, .int x5), (7, .int x7), (8, .int x8), (9, .int x9)] [] m := by
  refine g_iload 8 dX12_thieves_97 rfl ?_
  refine g_iload_n 2 dX12_thieves_99 rfl rfl ?_
  refine g_icmp_ge 149 dX12_thieves_100 (by decide) (fun q1 => ?_) (fun q1 => ?_)
  · refine g_iload 6 dX12_thieves_149 rfl ?_
    refine g_iload 4 dX12_thieves_151 rfl ?_
    refine g_if_ne 163 dX12_thieves_153 (by decide) (fun q2 => ?_) (fun q2 => ?_)
    · refine g_aload_n 0 dX12_thieves_163 rfl rfl ?_
      refine g_callV (As := []) (st := [.int x7]) dX12_thieves_164 clX12_481 sh535 rfl rfl (Nat.le_of_ble_eq_true rfl) (rmSH (by decide) (by decide)) (s_mInTown hW (h1 q1 q2) ?_)
      show Go X 7 mX12_thieves Q 167 [(0, .ref 535), (1, .int x1), (2, .int x2), (3, .int x3), (4, .int x4), (5, .int x5), (7, .int x7), (8, .int x8), (9, .int x9)] [.int (tAt (mI m 537) (mI m 536 2) (mI m 536 3).toNatClampNeg), .int x7] m
      refine g_callS (As := [.int (tAt (mI m 537) (mI m 536 2) (mI m 536 3).toNatClampNeg)]) (st := [.int x7]) dX12_thieves_167 clX12_355 rfl rfl (Nat.le_of_ble_eq_true rfl) (rmSH (by decide) (by decide)) (s_bits hW (h2 q1 q2) ?_)
      show Go X 7 mX12_thieves Q 170 [(0, .ref 535), (1, .int x1), (2, .int x2), (3, .int x3), (4, .int x4), (5, .int x5), (7, .int x7), (8, .int x8), (9, .int x9)] [.int (pcI (tAt (mI m 537) (mI m 536 2) (mI m 536 3).toNatClampNeg)), .int x7] m
      refine g_iadd dX12_thieves_170 ?_
      refine g_istore (ls2 := [(7, .int (x7 + (pcI (tAt (mI m 537) (mI m 536 2) (mI m 536 3).toNatClampNeg)))), (0, .ref 535), (1, .int x1), (2, .int x2), (3, .int x3), (4, .int x4), (5, .int x5), (8, .int x8), (9, .int x9)]) dX12_thieves_171 (by decide) rfl ?_
      refine g_aload_n 1 dX12_thieves_173 rfl rfl ?_
      refine g_getR dX12_thieves_174 fl12_9 rfl sh535 (w12_1 hW sh535) ?_
      refine g_bipush (v := 7) dX12_thieves_177 (by decide) ?_
      refine g_iald (j := 7) dX12_thieves_179 (s12_1 sh535) (by unfold vp_in; decide) (by decide) ?_
      refine g_istore (ls2 := [(6, .int (mI m 536 7)), (7, .int (x7 + (pcI (tAt (mI m 537) (mI m 536 2) (mI m 536 3).toNatClampNeg)))), (0, .ref 535), (1, .int x1), (2, .int x2), (3, .int x3), (4, .int x4), (5, .int x5), (8, .int x8), (9, .int x9)]) dX12_thieves_180 (by decide) rfl ?_
      refine g_aload_n 2 dX12_thieves_182 rfl rfl ?_
      refine g_ls [2, 3, 4, 5, 6, 7, 0, 1, 8, 9] (ls2 := [(0, .ref 535), (1, .int x1), (2, .int x2), (3, .int x3), (4, .int x4), (5, .int x5), (6, .int (mI m 536 7)), (7, .int (x7 + (pcI (tAt (mI m 537) (mI m 536 2) (mI m 536 3).toNatClampNeg)))), (8, .int x8), (9, .int x9)]) rfl ?_
      exact g_callV (As := []) (st := []) dX12_thieves_183 clX12_415 sh535 rfl rfl (Nat.le_of_ble_eq_true rfl) (rmSH (by decide) (by decide)) (h3 q1 q2)
    · refine g_aload_n 0 dX12_thieves_156 rfl rfl ?_
      refine g_callV (As := []) (st := [.int x7]) dX12_thieves_157 clX12_418 sh535 rfl rfl (Nat.le_of_ble_eq_true rfl) (rmSH (by decide) (by decide)) (s_wealthNow hW (h4 q1 q2) (h5 q1 q2) ?_)
      show Go X 7 mX12_thieves Q 160 [(0, .ref 535), (1, .int x1), (2, .int x2), (3, .int x3), (4, .int x4), (5, .int x5), (7, .int x7), (8, .int x8), (9, .int x9)] [.int (wTown (mI m 543) (mI m 537) (mI m 539) (mI m 536 2) (mI m 536 4).toNatClampNeg (mI m 536 3).toNatClampNeg), .int x7] m
      refine g_goto 170 dX12_thieves_160 (by decide) ?_
      refine g_iadd dX12_thieves_170 ?_
      refine g_istore (ls2 := [(7, .int (x7 + (wTown (mI m 543) (mI m 537) (mI m 539) (mI m 536 2) (mI m 536 4).toNatClampNeg (mI m 536 3).toNatClampNeg))), (0, .ref 535), (1, .int x1), (2, .int x2), (3, .int x3), (4, .int x4), (5, .int x5), (8, .int x8), (9, .int x9)]) dX12_thieves_171 (by decide) rfl ?_
      refine g_aload_n 1 dX12_thieves_173 rfl rfl ?_
      refine g_getR dX12_thieves_174 fl12_9 rfl sh535 (w12_1 hW sh535) ?_
      refine g_bipush (v := 7) dX12_thieves_177 (by decide) ?_
      refine g_iald (j := 7) dX12_thieves_179 (s12_1 sh535) (by unfold vp_in; decide) (by decide) ?_
      refine g_istore (ls2 := [(6, .int (mI m 536 7)), (7, .int (x7 + (wTown (mI m 543) (mI m 537) (mI m 539) (mI m 536 2) (mI m 536 4).toNatClampNeg (mI m 536 3).toNatClampNeg))), (0, .ref 535), (1, .int x1), (2, .int x2), (3, .int x3), (4, .int x4), (5, .int x5), (8, .int x8), (9, .int x9)]) dX12_thieves_180 (by decide) rfl ?_
      refine g_aload_n 2 dX12_thieves_182 rfl rfl ?_
      refine g_ls [2, 3, 4, 5, 6, 7, 0, 1, 8, 9] (ls2 := [(0, .ref 535), (1, .int x1), (2, .int x2), (3, .int x3), (4, .int x4), (5, .int x5), (6, .int (mI m 536 7)), (7, .int (x7 + (wTown (mI m 543) (mI m 537) (mI m 539) (mI m 536 2) (mI m 536 4).toNatClampNeg (mI m 536 3).toNatClampNeg))), (8, .int x8), (9, .int x9)]) rfl ?_
      exact g_callV (As := []) (st := []) dX12_thieves_183 clX12_415 sh535 rfl rfl (Nat.le_of_ble_eq_true rfl) (rmSH (by decide) (by decide)) (h6 q1 q2)
  · refine g_aload_n 0 dX12_thieves_103 rfl rfl ?_
    refine g_bipush (v := 100) dX12_thieves_104 (by decide) ?_
    exact g_callV (As := [.int (100 : Int32)]) (st := []) dX12_thieves_106 clX12_478 sh535 rfl rfl (Nat.le_of_ble_eq_true rfl) (rmSH (by decide) (by decide)) (h7 q1)
theorem bX12_thieves_186 {X : pX} {Q : Option Value → pMem → Prop} {m : pMem} {x1 : Int32} {x2 : Int32} {x3 : Int32} {x4 : Int32} {x5 : Int32} {x6 : Int32} {x7 : Int32} {x8 : Int32} {x9 : Int32} (hW : Wf m)
    (h1 : Go X 7 mX12_thieves Q 79 [(0, .ref 535), (1, .int x1), (2, .int x2), (3, .int x3), (4, .int x4), (5, .int x5), (6, .int x6), (7, .int x7), (8, .int (x8 + (1 : Int32)))] [] m) :
    Go X 7 mX12_thieves Q 186 [(0, .ref 535), (1, .int x1), (2, .int x2), (3, .int x3), (4, .int x4), (5, .int x5), (6, .int x6), (7, .int x7), (8, .int x8), (9, .int x9)] [] m := by
  refine g_iinc (v := x8 + (1 : Int32)) (ls2 := [(8, .int (x8 + (1 : Int32))), (0, .ref 535), (1, .int x1), (2, .int x2), (3, .int x3), (4, .int x4), (5, .int x5), (6, .int x6), (7, .int x7), (9, .int x9)]) 8 dX12_thieves_186 rfl rfl (by decide) rfl ?_
  refine g_goto 79 dX12_thieves_189 (by decide) ?_
  exact g_ls [1, 2, 3, 4, 5, 6, 7, 8, 0] rfl h1
theorem bX12_thieves_109 {X : pX} {Q : Option Value → pMem → Prop} {m : pMem} {x1 : Int32} {x2 : Int32} {x3 : Int32} {x4 : Int32} {x5 : Int32} {x7 : Int32} {x8 : Int32} {x9 : Int32} {xs0 : Int32} (hW : Wf m)
    (h1 : x3 ≤ xs0 → Cl X 6 mX12_goes [.ref 535] m (fun v m2 => Go X 7 mX12_thieves Q 142 [(0, .ref 535), (1, .int x1), (2, .int x2), (3, .int x3), (4, .int x4), (5, .int x5), (7, .int x7), (8, .int x8), (9, .int x9)] (v.toList ++ []) m2))
    (h2 : ¬ (x3 ≤ xs0) → (mI m 536 4) ≤ 0 → Cl X 6 mX12_goes [.ref 535] m (fun v m2 => Go X 7 mX12_thieves Q 142 [(0, .ref 535), (1, .int x1), (2, .int x2), (3, .int x3), (4, .int x4), (5, .int x5), (7, .int x7), (8, .int x8), (9, .int x9)] (v.toList ++ []) m2))
    (h3 : ¬ (x3 ≤ xs0) → ¬ ((mI m 536 4) ≤ 0) → Cl X 0 mX12_draws [.ref 535, .int (mI m 536 4)] m (fun v m2 => Go X 7 mX12_thieves Q 136 [(0, .ref 535), (1, .int x1), (2, .int x2), (3, .int x3), (4, .int x4), (5, .int x5), (7, .int x7), (8, .int x8), (9, .int x9)] (v.toList ++ [.ref 539]) m2)) :
    Go X 7 mX12_thieves Q 109 [(0, .ref 535), (1, .int x1), (2, .int x2), (3, .int x3), (4, .int x4), (5, .int x5), (7, .int x7), (8, .int x8), (9, .int x9)] [.int xs0] m := by
  refine g_iload_n 3 dX12_thieves_109 rfl rfl ?_
  refine g_icmp_ge 138 dX12_thieves_110 (by decide) (fun q1 => ?_) (fun q1 => ?_)
  · refine g_aload_n 0 dX12_thieves_138 rfl rfl ?_
    exact g_callV (As := []) (st := []) dX12_thieves_139 clX12_368 sh535 rfl rfl (Nat.le_of_ble_eq_true rfl) (rmSH (by decide) (by decide)) (h1 q1)
  · refine g_aload_n 0 dX12_thieves_113 rfl rfl ?_
    refine g_getR dX12_thieves_114 fl12_9 rfl sh535 (w12_1 hW sh535) ?_
    refine g_iconst (v := 4) dX12_thieves_117 (by decide) ?_
    refine g_iald (j := 4) dX12_thieves_118 (s12_1 sh535) (by unfold vp_in; decide) (by decide) ?_
    refine g_if_le 138 dX12_thieves_119 (by decide) (fun q2 => ?_) (fun q2 => ?_)
    · refine g_aload_n 0 dX12_thieves_138 rfl rfl ?_
      exact g_callV (As := []) (st := []) dX12_thieves_139 clX12_368 sh535 rfl rfl (Nat.le_of_ble_eq_true rfl) (rmSH (by decide) (by decide)) (h2 q1 q2)
    · refine g_aload_n 0 dX12_thieves_122 rfl rfl ?_
      refine g_getR dX12_thieves_123 fl12_19 rfl sh535 (w12_4 hW sh535) ?_
      refine g_aload_n 0 dX12_thieves_126 rfl rfl ?_
      refine g_aload_n 0 dX12_thieves_127 rfl rfl ?_
      refine g_getR dX12_thieves_128 fl12_9 rfl sh535 (w12_1 hW sh535) ?_
      refine g_iconst (v := 4) dX12_thieves_131 (by decide) ?_
      refine g_iald (j := 4) dX12_thieves_132 (s12_1 sh535) (by unfold vp_in; decide) (by decide) ?_
      exact g_callV (As := [.int (mI m 536 4)]) (st := [.ref 539]) dX12_thieves_133 clX12_478 sh535 rfl rfl (Nat.le_of_ble_eq_true rfl) (rmSH (by decide) (by decide)) (h3 q1 q2)
theorem bX12_thieves_142 {X : pX} {Q : Option Value → pMem → Prop} {m : pMem} {x1 : Int32} {x2 : Int32} {x3 : Int32} {x4 : Int32} {x5 : Int32} {x7 : Int32} {x8 : Int32} {x9 : Int32} {xs0 : Int32} (hW : Wf m)
    (h1 : Go X 7 mX12_thieves Q 97 [(0, .ref 535), (1, .int x1), (2, .int x2), (3, .int x3), (4, .int x4), (5, .int x5), (7, .int x7), (8, .int x8), (9, .int (x9 + (1 : Int32)))] [] m) :
    Go X 7 mX12_thieves Q 142 [(0, .ref 535), (1, .int x1), (2, .int x2), (3, .int x3), (4, .int x4), (5, .int x5), (7, .int x7), (8, .int x8), (9, .int x9)] [.int xs0] m := by
  refine g_pop dX12_thieves_142 rfl ?_
  refine g_iinc (v := x9 + (1 : Int32)) (ls2 := [(9, .int (x9 + (1 : Int32))), (0, .ref 535), (1, .int x1), (2, .int x2), (3, .int x3), (4, .int x4), (5, .int x5), (7, .int x7), (8, .int x8)]) 8 dX12_thieves_143 rfl rfl (by decide) rfl ?_
  refine g_goto 97 dX12_thieves_146 (by decide) ?_
  exact g_ls [1, 2, 3, 4, 5, 6, 7, 8, 0] rfl h1
theorem bX12_thieves_136 {X : pX} {Q : Option Value → pMem → Prop} {m : pMem} {x1 : Int32} {x2 : Int32} {x3 : Int32} {x4 : Int32} {x5 : Int32} {x7 : Int32} {x8 : Int32} {x9 : Int32} {xs0 : Int32} {as1 : Nat} (hW : Wf m) (cs1 : SH[as1]? = some (.inr (.int, 6)))
    (h1 : vp_in xs0 6)
    (h2 : Cl X 6 mX12_goes [.ref 535] (uI m as1 xs0.toNatClampNeg (-1 : Int32)) (fun v m2 => Go X 7 mX12_thieves Q 142 [(0, .ref 535), (1, .int x1), (2, .int x2), (3, .int x3), (4, .int x4), (5, .int x5), (7, .int x7), (8, .int x8), (9, .int x9)] (v.toList ++ []) m2)) :
    Go X 7 mX12_thieves Q 136 [(0, .ref 535), (1, .int x1), (2, .int x2), (3, .int x3), (4, .int x4), (5, .int x5), (7, .int x7), (8, .int x8), (9, .int x9)] [.int xs0, .ref as1] m := by
  refine g_iconst (v := -1) dX12_thieves_136 (by decide) ?_
  refine g_iast (j := xs0.toNatClampNeg) dX12_thieves_137 cs1 h1 rfl ?_
  refine g_aload_n 0 dX12_thieves_138 rfl rfl ?_
  exact g_callV (As := []) (st := []) dX12_thieves_139 clX12_368 sh535 rfl rfl (Nat.le_of_ble_eq_true rfl) (rmSH (by decide) (by decide)) h2
theorem bX11_note_0 {X : pX} {Q : Option Value → pMem → Prop} {m : pMem} {x1 : Int32} {x2 : Int32} {x3 : Int32} (hW : Wf m)
    (h1 : ¬ x1 = (-1 : Int32) → x1 < 0 → Q (some (.int (-2 : Int32))) m)
    (h2 : ¬ x1 = (-1 : Int32) → ¬ (x1 < 0) → (60 : Int32) < x1 → Q (some (.int (-2 : Int32))) m)
    (h3 : ¬ x1 = (-1 : Int32) → ¬ (x1 < 0) → ¬ ((60 : Int32) < x1) → ¬ x2 < 0 ∧ ¬ mI m 31 3 ≤ x2 ∧ ¬ (4 : Int32) ≤ x2 → ¬ x3 < 0 ∧ ¬ mI m 31 2 < x3 → Cl X 0 mX10_canNote [.ref 30] m (fun v m2 => Go X 2 mX11_note Q 60 [(0, .ref 0), (1, .int x1), (2, .int x2), (3, .int x3)] (v.toList ++ []) m2))
    (h4 : ¬ x1 = (-1 : Int32) → ¬ (x1 < 0) → ¬ ((60 : Int32) < x1) → ¬ x2 < 0 ∧ ¬ mI m 31 3 ≤ x2 ∧ ¬ (4 : Int32) ≤ x2 → ¬ (¬ x3 < 0 ∧ ¬ mI m 31 2 < x3) → Q (some (.int (-2 : Int32))) m)
    (h5 : ¬ x1 = (-1 : Int32) → ¬ (x1 < 0) → ¬ ((60 : Int32) < x1) → ¬ (¬ x2 < 0 ∧ ¬ mI m 31 3 ≤ x2 ∧ ¬ (4 : Int32) ≤ x2) → Q (some (.int (-2 : Int32))) m)
    (h6 : x1 = (-1 : Int32) → Q (some (.int (0 : Int32))) (uI m 30 5 (0 : Int32))) :
    Go X 2 mX11_note Q 0 [(0, .ref 0), (1, .int x1), (2, .int x2), (3, .int x3)] [] m := by
  refine g_iload_n 1 dX11_note_0 rfl rfl ?_
  refine g_iconst (v := -1) dX11_note_1 (by decide) ?_
  refine g_icmp_ne 15 dX11_note_2 (by decide) (fun q1 => ?_) (fun q1 => ?_)
  · refine g_iload_n 1 dX11_note_15 rfl rfl ?_
    refine g_if_lt 63 dX11_note_16 (by decide) (fun q2 => ?_) (fun q2 => ?_)
    · refine g_bipush (v := -2) dX11_note_63 (by decide) ?_
      exact g_iret dX11_note_65 rfl enSH (h1 q1 q2)
    · refine g_iload_n 1 dX11_note_19 rfl rfl ?_
      refine g_bipush (v := 60) dX11_note_20 (by decide) ?_
      refine g_icmp_gt 63 dX11_note_22 (by decide) (fun q3 => ?_) (fun q3 => ?_)
      · refine g_bipush (v := -2) dX11_note_63 (by decide) ?_
        exact g_iret dX11_note_65 rfl enSH (h2 q1 q2 q3)
      · refine g_aload_n 0 dX11_note_25 rfl rfl ?_
        refine g_getR dX11_note_26 fl11_42 rfl sh0 (w11_5 hW sh0) ?_
        refine g_getR dX11_note_29 fl11_56 rfl sh30 (w10_0 hW sh30) ?_
        refine g_iload_n 2 dX11_note_32 rfl rfl ?_
        refine g_callV (As := [.int x2]) (st := []) dX11_note_33 clX11_135 (s10_0 sh30) rfl rfl (Nat.le_of_ble_eq_true rfl) (rmSH (by decide) (by decide)) (s_isPerson hW (s10_0 sh30) (fun q4 => ?_) (fun q4 => ?_))
        · refine g_if_eq 63 dX11_note_36 (by decide) (fun q5 => absurd q5 (by decide)) (fun q5 => ?_)
          refine g_aload_n 0 dX11_note_39 rfl rfl ?_
          refine g_getR dX11_note_40 fl11_42 rfl sh0 (w11_5 hW sh0) ?_
          refine g_getR dX11_note_43 fl11_56 rfl sh30 (w10_0 hW sh30) ?_
          refine g_iload_n 3 dX11_note_46 rfl rfl ?_
          refine g_callV (As := [.int x3]) (st := []) dX11_note_47 clX11_296 (s10_0 sh30) rfl rfl (Nat.le_of_ble_eq_true rfl) (rmSH (by decide) (by decide)) (s_isPlace hW (s10_0 sh30) (fun q6 => ?_) (fun q6 => ?_))
          · refine g_if_eq 63 dX11_note_50 (by decide) (fun q7 => absurd q7 (by decide)) (fun q7 => ?_)
            refine g_aload_n 0 dX11_note_53 rfl rfl ?_
            refine g_getR dX11_note_54 fl11_42 rfl sh0 (w11_5 hW sh0) ?_
            exact g_callV (As := []) (st := []) dX11_note_57 clX11_299 sh30 rfl rfl (Nat.le_of_ble_eq_true rfl) (rmSH (by decide) (by decide)) (h3 q1 q2 q3 q4 q6)
          · refine g_if_eq 63 dX11_note_50 (by decide) (fun q8 => ?_) (fun q8 => absurd q8 (by decide))
            refine g_bipush (v := -2) dX11_note_63 (by decide) ?_
            exact g_iret dX11_note_65 rfl enSH (h4 q1 q2 q3 q4 q6)
        · refine g_if_eq 63 dX11_note_36 (by decide) (fun q9 => ?_) (fun q9 => absurd q9 (by decide))
          refine g_bipush (v := -2) dX11_note_63 (by decide) ?_
          exact g_iret dX11_note_65 rfl enSH (h5 q1 q2 q3 q4)
  · refine g_aload_n 0 dX11_note_5 rfl rfl ?_
    refine g_getR dX11_note_6 fl11_42 rfl sh0 (w11_5 hW sh0) ?_
    refine g_iconst (v := 0) dX11_note_9 (by decide) ?_
    refine g_putI dX11_note_10 fl11_202 (fun h => by cases h) sh30 ?_
    refine g_iconst (v := 0) dX11_note_13 (by decide) ?_
    exact g_iret dX11_note_14 rfl enSH (h6 q1)
theorem bX11_note_60 {X : pX} {Q : Option Value → pMem → Prop} {m : pMem} {x1 : Int32} {x2 : Int32} {x3 : Int32} {xs0 : Int32} (hW : Wf m)
    (h1 : ¬ xs0 = 0 → Cl X 1 mX10_addNote [.ref 30, .int x1, .int x2, .int x3] m (fun v m2 => Go X 2 mX11_note Q 76 [(0, .ref 0), (1, .int x1), (2, .int x2), (3, .int x3)] (v.toList ++ []) m2))
    (h2 : xs0 = 0 → Q (some (.int (-2 : Int32))) m) :
    Go X 2 mX11_note Q 60 [(0, .ref 0), (1, .int x1), (2, .int x2), (3, .int x3)] [.int xs0] m := by
  refine g_if_ne 66 dX11_note_60 (by decide) (fun q1 => ?_) (fun q1 => ?_)
  · refine g_aload_n 0 dX11_note_66 rfl rfl ?_
    refine g_getR dX11_note_67 fl11_42 rfl sh0 (w11_5 hW sh0) ?_
    refine g_iload_n 1 dX11_note_70 rfl rfl ?_
    refine g_iload_n 2 dX11_note_71 rfl rfl ?_
    refine g_iload_n 3 dX11_note_72 rfl rfl ?_
    exact g_callV (As := [.int x1, .int x2, .int x3]) (st := []) dX11_note_73 clX11_302 sh30 rfl rfl (Nat.le_of_ble_eq_true rfl) (rmSH (by decide) (by decide)) (h1 q1)
  · refine g_bipush (v := -2) dX11_note_63 (by decide) ?_
    exact g_iret dX11_note_65 rfl enSH (h2 q1)
theorem bX11_note_76 {X : pX} {Q : Option Value → pMem → Prop} {m : pMem} {x1 : Int32} {x2 : Int32} {x3 : Int32} (hW : Wf m)
    (h1 : Q (some (.int (mI m 30 5))) m) :
    Go X 2 mX11_note Q 76 [(0, .ref 0), (1, .int x1), (2, .int x2), (3, .int x3)] [] m := by
  refine g_aload_n 0 dX11_note_76 rfl rfl ?_
  refine g_getR dX11_note_77 fl11_42 rfl sh0 (w11_5 hW sh0) ?_
  refine g_getI dX11_note_80 fl11_202 sh30 ?_
  exact g_iret dX11_note_83 rfl enSH h1
theorem bX11_wouldBeAsNoted_0 {X : pX} {Q : Option Value → pMem → Prop} {m : pMem} {x1 : Int32} (hW : Wf m)
    (h1 : Go X 5 mX11_wouldBeAsNoted Q 16 [(0, .ref 0), (1, .int x1), (2, .int (0 : Int32))] [] (beS m 31 523)) :
    Go X 5 mX11_wouldBeAsNoted Q 0 [(0, .ref 0), (1, .int x1)] [] m := by
  refine g_aload_n 0 dX11_wouldBeAsNoted_0 rfl rfl ?_
  refine g_getR dX11_wouldBeAsNoted_1 fl11_42 rfl sh0 (w11_5 hW sh0) ?_
  refine g_getR dX11_wouldBeAsNoted_4 fl11_56 rfl sh30 (w10_0 hW sh30) ?_
  refine g_aload_n 0 dX11_wouldBeAsNoted_7 rfl rfl ?_
  refine g_getR dX11_wouldBeAsNoted_8 fl11_90 rfl sh0 (w11_11 hW sh0) ?_
  refine g_callV (As := [.ref 523]) (st := []) dX11_wouldBeAsNoted_11 clX11_315 (s10_0 sh30) rfl rfl (Nat.le_of_ble_eq_true rfl) (rmSH (by decide) (by decide)) (s_beginS hW (s10_0 sh30) sh523 ?_)
  show Go X 5 mX11_wouldBeAsNoted Q 14 [(0, .ref 0), (1, .int x1)] [] (beS m 31 523)
  refine g_iconst (v := 0) dX11_wouldBeAsNoted_14 (by decide) ?_
  refine g_istore_n (ls2 := [(2, .int (0 : Int32)), (0, .ref 0), (1, .int x1)]) dX11_wouldBeAsNoted_15 rfl (by decide) rfl ?_
  exact g_ls [1, 2, 0] rfl h1
theorem bX11_wouldBeAsNoted_16 {X : pX} {Q : Option Value → pMem → Prop} {m : pMem} {x1 : Int32} {x2 : Int32} (hW : Wf m)
    (h1 : (60 : Int32) < x2 → Q (some (.int (1 : Int32))) m)
    (h2 : ¬ ((60 : Int32) < x2) → Cl X 1 mX10_isAsNoted [.ref 30, .ref 523] m (fun v m2 => Go X 5 mX11_wouldBeAsNoted Q 33 [(0, .ref 0), (1, .int x1), (2, .int x2)] (v.toList ++ []) m2)) :
    Go X 5 mX11_wouldBeAsNoted Q 16 [(0, .ref 0), (1, .int x1), (2, .int x2)] [] m := by
  refine g_iload_n 2 dX11_wouldBeAsNoted_16 rfl rfl ?_
  refine g_bipush (v := 60) dX11_wouldBeAsNoted_17 (by decide) ?_
  refine g_icmp_gt 61 dX11_wouldBeAsNoted_19 (by decide) (fun q1 => ?_) (fun q1 => ?_)
  · refine g_iconst (v := 1) dX11_wouldBeAsNoted_61 (by decide) ?_
    exact g_bret dX11_wouldBeAsNoted_62 rfl (Or.inr rfl) enSH (h1 q1)
  · refine g_aload_n 0 dX11_wouldBeAsNoted_22 rfl rfl ?_
    refine g_getR dX11_wouldBeAsNoted_23 fl11_42 rfl sh0 (w11_5 hW sh0) ?_
    refine g_aload_n 0 dX11_wouldBeAsNoted_26 rfl rfl ?_
    refine g_getR dX11_wouldBeAsNoted_27 fl11_90 rfl sh0 (w11_11 hW sh0) ?_
    exact g_callV (As := [.ref 523]) (st := []) dX11_wouldBeAsNoted_30 clX11_317 sh30 rfl rfl (Nat.le_of_ble_eq_true rfl) (rmSH (by decide) (by decide)) (h2 q1)
theorem bX11_wouldBeAsNoted_33 {X : pX} {Q : Option Value → pMem → Prop} {m : pMem} {x1 : Int32} {x2 : Int32} {xs0 : Int32} (hW : Wf m)
    (h1 : ¬ xs0 = 0 → Cl X 0 mX11_ruleOf [.ref 0, .int x1] m (fun v m2 => Go X 5 mX11_wouldBeAsNoted Q 51 [(0, .ref 0), (1, .int x1), (2, .int x2)] (v.toList ++ [.ref 523, .ref 512]) m2))
    (h2 : xs0 = 0 → Q (some (.int (0 : Int32))) m) :
    Go X 5 mX11_wouldBeAsNoted Q 33 [(0, .ref 0), (1, .int x1), (2, .int x2)] [.int xs0] m := by
  refine g_if_ne 38 dX11_wouldBeAsNoted_33 (by decide) (fun q1 => ?_) (fun q1 => ?_)
  · refine g_aload_n 0 dX11_wouldBeAsNoted_38 rfl rfl ?_
    refine g_getR dX11_wouldBeAsNoted_39 fl11_63 rfl sh0 (w11_8 hW sh0) ?_
    refine g_aload_n 0 dX11_wouldBeAsNoted_42 rfl rfl ?_
    refine g_getR dX11_wouldBeAsNoted_43 fl11_90 rfl sh0 (w11_11 hW sh0) ?_
    refine g_aload_n 0 dX11_wouldBeAsNoted_46 rfl rfl ?_
    refine g_iload_n 1 dX11_wouldBeAsNoted_47 rfl rfl ?_
    exact g_callV (As := [.int x1]) (st := [.ref 523, .ref 512]) dX11_wouldBeAsNoted_48 clX11_321 sh0 rfl rfl (Nat.le_of_ble_eq_true rfl) (rmSH (by decide) (by decide)) (h1 q1)
  · refine g_iconst (v := 0) dX11_wouldBeAsNoted_36 (by decide) ?_
    exact g_bret dX11_wouldBeAsNoted_37 rfl (Or.inl rfl) enSH (h2 q1)
theorem bX11_wouldBeAsNoted_51 {X : pX} {Q : Option Value → pMem → Prop} {m : pMem} {x1 : Int32} {x2 : Int32} {as0 : Nat} {as1 : Nat} (hW : Wf m) (cs0 : SH[as0]? = some (.inl 6)) (cs1 : SH[as1]? = some (.inl 8))
    (h1 : Cl X 4 mX0_oneDay [.ref 512, .ref as1, .ref as0] m (fun v m2 => Go X 5 mX11_wouldBeAsNoted Q 54 [(0, .ref 0), (1, .int x1), (2, .int x2)] (v.toList ++ []) m2)) :
    Go X 5 mX11_wouldBeAsNoted Q 51 [(0, .ref 0), (1, .int x1), (2, .int x2)] [.ref as0, .ref as1, .ref 512] m := by
  exact g_callV (As := [.ref as1, .ref as0]) (st := []) dX11_wouldBeAsNoted_51 clX11_229 sh512 rfl rfl (Nat.le_of_ble_eq_true rfl) (rmSH (by decide) (by decide)) h1
theorem bX11_wouldBeAsNoted_51v1 {X : pX} {Q : Option Value → pMem → Prop} {m : pMem} {x1 : Int32} {x2 : Int32} {as1 : Nat} (hW : Wf m) (cs1 : SH[as1]? = some (.inl 8))
    (h1 : Cl X 4 mX0_oneDay [.ref 512, .ref as1, .null] m (fun v m2 => Go X 5 mX11_wouldBeAsNoted Q 54 [(0, .ref 0), (1, .int x1), (2, .int x2)] (v.toList ++ []) m2)) :
    Go X 5 mX11_wouldBeAsNoted Q 51 [(0, .ref 0), (1, .int x1), (2, .int x2)] [.null, .ref as1, .ref 512] m := by
  exact g_callV (As := [.ref as1, .null]) (st := []) dX11_wouldBeAsNoted_51 clX11_229 sh512 rfl rfl (Nat.le_of_ble_eq_true rfl) (rmSH (by decide) (by decide)) h1
theorem bX11_wouldBeAsNoted_54 {X : pX} {Q : Option Value → pMem → Prop} {m : pMem} {x1 : Int32} {x2 : Int32} {xs0 : Int32} (hW : Wf m)
    (h1 : Go X 5 mX11_wouldBeAsNoted Q 16 [(0, .ref 0), (1, .int x1), (2, .int (x2 + (1 : Int32)))] [] m) :
    Go X 5 mX11_wouldBeAsNoted Q 54 [(0, .ref 0), (1, .int x1), (2, .int x2)] [.int xs0] m := by
  refine g_pop dX11_wouldBeAsNoted_54 rfl ?_
  refine g_iinc (v := x2 + (1 : Int32)) (ls2 := [(2, .int (x2 + (1 : Int32))), (0, .ref 0), (1, .int x1)]) 2 dX11_wouldBeAsNoted_55 rfl rfl (by decide) rfl ?_
  refine g_goto 16 dX11_wouldBeAsNoted_58 (by decide) ?_
  exact g_ls [1, 2, 0] rfl h1
theorem bX12_couldRule_0 {X : pX} {Q : Option Value → pMem → Prop} {m : pMem} {x1 : Int32} (hW : Wf m)
    (h1 : Cl X 1 mX12_begins [.ref 535] (uI m 536 8 x1) (fun v m2 => Go X 7 mX12_couldRule Q 12 [(0, .ref 535), (1, .int x1)] (v.toList ++ []) m2)) :
    Go X 7 mX12_couldRule Q 0 [(0, .ref 535), (1, .int x1)] [] m := by
  refine g_aload_n 0 dX12_couldRule_0 rfl rfl ?_
  refine g_getR dX12_couldRule_1 fl12_9 rfl sh535 (w12_1 hW sh535) ?_
  refine g_bipush (v := 8) dX12_couldRule_4 (by decide) ?_
  refine g_iload_n 1 dX12_couldRule_6 rfl rfl ?_
  refine g_iast (j := 8) dX12_couldRule_7 (s12_1 sh535) (by unfold vp_in; decide) (by decide) ?_
  refine g_aload_n 0 dX12_couldRule_8 rfl rfl ?_
  exact g_callV (As := []) (st := []) dX12_couldRule_9 clX12_296 sh535 rfl rfl (Nat.le_of_ble_eq_true rfl) (rmSH (by decide) (by decide)) h1
theorem bX12_couldRule_12 {X : pX} {Q : Option Value → pMem → Prop} {m : pMem} {x1 : Int32} (hW : Wf m)
    (h1 : Go X 7 mX12_couldRule Q 14 [(0, .ref 535), (2, .int (0 : Int32))] [] m) :
    Go X 7 mX12_couldRule Q 12 [(0, .ref 535), (1, .int x1)] [] m := by
  refine g_iconst (v := 0) dX12_couldRule_12 (by decide) ?_
  refine g_istore_n (ls2 := [(2, .int (0 : Int32)), (0, .ref 535), (1, .int x1)]) dX12_couldRule_13 rfl (by decide) rfl ?_
  exact g_ls [1, 0] rfl h1
theorem bX12_couldRule_14 {X : pX} {Q : Option Value → pMem → Prop} {m : pMem} {x2 : Int32} (hW : Wf m)
    (h1 : (60 : Int32) < x2 → Cl X 2 mX12_laysBack [.ref 535] m (fun v m2 => Go X 7 mX12_couldRule Q 64 [(0, .ref 535), (2, .int x2)] (v.toList ++ []) m2))
    (h2 : ¬ ((60 : Int32) < x2) → Go X 7 mX12_couldRule Q 22 [(0, .ref 535), (2, .int x2), (3, .int (0 : Int32))] [] m) :
    Go X 7 mX12_couldRule Q 14 [(0, .ref 535), (2, .int x2)] [] m := by
  refine g_iload_n 1 dX12_couldRule_14 rfl rfl ?_
  refine g_bipush (v := 60) dX12_couldRule_15 (by decide) ?_
  refine g_icmp_gt 60 dX12_couldRule_17 (by decide) (fun q1 => ?_) (fun q1 => ?_)
  · refine g_aload_n 0 dX12_couldRule_60 rfl rfl ?_
    exact g_callV (As := []) (st := []) dX12_couldRule_61 clX12_415 sh535 rfl rfl (Nat.le_of_ble_eq_true rfl) (rmSH (by decide) (by decide)) (h1 q1)
  · refine g_iconst (v := 0) dX12_couldRule_20 (by decide) ?_
    refine g_istore_n (ls2 := [(3, .int (0 : Int32)), (0, .ref 535), (2, .int x2)]) dX12_couldRule_21 rfl (by decide) rfl ?_
    exact g_ls [1, 2, 0] rfl (h2 q1)
theorem bX12_couldRule_64 {X : pX} {Q : Option Value → pMem → Prop} {m : pMem} {x2 : Int32} (hW : Wf m)
    (h1 : Go X 7 mX12_couldRule Q 66 [(0, .ref 535), (2, .int (0 : Int32))] [] m) :
    Go X 7 mX12_couldRule Q 64 [(0, .ref 535), (2, .int x2)] [] m := by
  refine g_iconst (v := 0) dX12_couldRule_64 (by decide) ?_
  refine g_istore_n (ls2 := [(2, .int (0 : Int32)), (0, .ref 535)]) dX12_couldRule_65 rfl (by decide) rfl ?_
  exact g_ls [1, 0] rfl h1
theorem bX12_couldRule_22 {X : pX} {Q : Option Value → pMem → Prop} {m : pMem} {x2 : Int32} {x3 : Int32} (hW : Wf m)
    (h1 : (4 : Int32) ≤ x3 → Cl X 6 mX12_goes [.ref 535] m (fun v m2 => Go X 7 mX12_couldRule Q 53 [(0, .ref 535), (2, .int x2), (3, .int x3)] (v.toList ++ []) m2))
    (h2 : ¬ ((4 : Int32) ≤ x3) → vp_in x3 4)
    (h3 : ¬ ((4 : Int32) ≤ x3) → vp_in (((4 : Int32) * x2) + x3) 244)
    (h4 : ¬ ((4 : Int32) ≤ x3) → Go X 7 mX12_couldRule Q 22 [(0, .ref 535), (2, .int x2), (3, .int (x3 + (1 : Int32)))] [] (uI m 568 ((((4 : Int32) * x2) + x3).toNatClampNeg) (mI m 537 x3.toNatClampNeg))) :
    Go X 7 mX12_couldRule Q 22 [(0, .ref 535), (2, .int x2), (3, .int x3)] [] m := by
  refine g_iload_n 2 dX12_couldRule_22 rfl rfl ?_
  refine g_iconst (v := 4) dX12_couldRule_23 (by decide) ?_
  refine g_icmp_ge 49 dX12_couldRule_24 (by decide) (fun q1 => ?_) (fun q1 => ?_)
  · refine g_aload_n 0 dX12_couldRule_49 rfl rfl ?_
    exact g_callV (As := []) (st := []) dX12_couldRule_50 clX12_368 sh535 rfl rfl (Nat.le_of_ble_eq_true rfl) (rmSH (by decide) (by decide)) (h1 q1)
  · refine g_aload_n 0 dX12_couldRule_27 rfl rfl ?_
    refine g_getR dX12_couldRule_28 fl12_112 rfl sh535 (w12_50 hW sh535) ?_
    refine g_iconst (v := 4) dX12_couldRule_31 (by decide) ?_
    refine g_iload_n 1 dX12_couldRule_32 rfl rfl ?_
    refine g_imul dX12_couldRule_33 ?_
    refine g_iload_n 2 dX12_couldRule_34 rfl rfl ?_
    refine g_iadd dX12_couldRule_35 ?_
    refine g_aload_n 0 dX12_couldRule_36 rfl rfl ?_
    refine g_getR dX12_couldRule_37 fl12_13 rfl sh535 (w12_2 hW sh535) ?_
    refine g_iload_n 2 dX12_couldRule_40 rfl rfl ?_
    refine g_iald (j := x3.toNatClampNeg) dX12_couldRule_41 (s12_2 sh535) (h2 q1) rfl ?_
    refine g_iast (j := (((4 : Int32) * x2) + x3).toNatClampNeg) dX12_couldRule_42 (s12_50 sh535) (h3 q1) rfl ?_
    refine g_iinc (v := x3 + (1 : Int32)) (ls2 := [(3, .int (x3 + (1 : Int32))), (0, .ref 535), (2, .int x2)]) 2 dX12_couldRule_43 rfl rfl (by decide) rfl ?_
    refine g_goto 22 dX12_couldRule_46 (by decide) ?_
    exact g_ls [1, 2, 0] rfl (h4 q1)
theorem bX12_couldRule_66 {X : pX} {Q : Option Value → pMem → Prop} {m : pMem} {x2 : Int32} (hW : Wf m)
    (h1 : (mI m 536 6) ≤ x2 → Q (some (.int (1 : Int32))) m)
    (h2 : ¬ ((mI m 536 6) ≤ x2) → vp_in x2 10)
    (h3 : ¬ ((mI m 536 6) ≤ x2) → vp_in (((4 : Int32) * (mI m 544 x2.toNatClampNeg)) + (mI m 545 x2.toNatClampNeg)) 244)
    (h4 : ¬ ((mI m 536 6) ≤ x2) → (mI m 568 ((((4 : Int32) * (mI m 544 x2.toNatClampNeg)) + (mI m 545 x2.toNatClampNeg)).toNatClampNeg)) = (mI m 546 x2.toNatClampNeg) → Go X 7 mX12_couldRule Q 66 [(0, .ref 535), (2, .int (x2 + (1 : Int32)))] [] m)
    (h5 : ¬ ((mI m 536 6) ≤ x2) → ¬ ((mI m 568 ((((4 : Int32) * (mI m 544 x2.toNatClampNeg)) + (mI m 545 x2.toNatClampNeg)).toNatClampNeg)) = (mI m 546 x2.toNatClampNeg)) → Q (some (.int (0 : Int32))) m) :
    Go X 7 mX12_couldRule Q 66 [(0, .ref 535), (2, .int x2)] [] m := by
  refine g_iload_n 1 dX12_couldRule_66 rfl rfl ?_
  refine g_aload_n 0 dX12_couldRule_67 rfl rfl ?_
  refine g_getR dX12_couldRule_68 fl12_9 rfl sh535 (w12_1 hW sh535) ?_
  refine g_bipush (v := 6) dX12_couldRule_71 (by decide) ?_
  refine g_iald (j := 6) dX12_couldRule_73 (s12_1 sh535) (by unfold vp_in; decide) (by decide) ?_
  refine g_icmp_ge 114 dX12_couldRule_74 (by decide) (fun q1 => ?_) (fun q1 => ?_)
  · refine g_iconst (v := 1) dX12_couldRule_114 (by decide) ?_
    exact g_bret dX12_couldRule_115 rfl (Or.inr rfl) enSH (h1 q1)
  · refine g_aload_n 0 dX12_couldRule_77 rfl rfl ?_
    refine g_getR dX12_couldRule_78 fl12_112 rfl sh535 (w12_50 hW sh535) ?_
    refine g_iconst (v := 4) dX12_couldRule_81 (by decide) ?_
    refine g_aload_n 0 dX12_couldRule_82 rfl rfl ?_
    refine g_getR dX12_couldRule_83 fl12_34 rfl sh535 (w12_9 hW sh535) ?_
    refine g_iload_n 1 dX12_couldRule_86 rfl rfl ?_
    refine g_iald (j := x2.toNatClampNeg) dX12_couldRule_87 (s12_9 sh535) (h2 q1) rfl ?_
    refine g_imul dX12_couldRule_88 ?_
    refine g_aload_n 0 dX12_couldRule_89 rfl rfl ?_
    refine g_getR dX12_couldRule_90 fl12_37 rfl sh535 (w12_10 hW sh535) ?_
    refine g_iload_n 1 dX12_couldRule_93 rfl rfl ?_
    refine g_iald (j := x2.toNatClampNeg) dX12_couldRule_94 (s12_10 sh535) (h2 q1) rfl ?_
    refine g_iadd dX12_couldRule_95 ?_
    refine g_iald (j := (((4 : Int32) * (mI m 544 x2.toNatClampNeg)) + (mI m 545 x2.toNatClampNeg)).toNatClampNeg) dX12_couldRule_96 (s12_50 sh535) (h3 q1) rfl ?_
    refine g_aload_n 0 dX12_couldRule_97 rfl rfl ?_
    refine g_getR dX12_couldRule_98 fl12_40 rfl sh535 (w12_11 hW sh535) ?_
    refine g_iload_n 1 dX12_couldRule_101 rfl rfl ?_
    refine g_iald (j := x2.toNatClampNeg) dX12_couldRule_102 (s12_11 sh535) (h2 q1) rfl ?_
    refine g_icmp_eq 108 dX12_couldRule_103 (by decide) (fun q2 => ?_) (fun q2 => ?_)
    · refine g_iinc (v := x2 + (1 : Int32)) (ls2 := [(2, .int (x2 + (1 : Int32))), (0, .ref 535)]) 1 dX12_couldRule_108 rfl rfl (by decide) rfl ?_
      refine g_goto 66 dX12_couldRule_111 (by decide) ?_
      exact g_ls [1, 0] rfl (h4 q1 q2)
    · refine g_iconst (v := 0) dX12_couldRule_106 (by decide) ?_
      exact g_bret dX12_couldRule_107 rfl (Or.inl rfl) enSH (h5 q1 q2)
theorem bX12_couldRule_53 {X : pX} {Q : Option Value → pMem → Prop} {m : pMem} {x2 : Int32} {x3 : Int32} {xs0 : Int32} (hW : Wf m)
    (h1 : Go X 7 mX12_couldRule Q 14 [(0, .ref 535), (2, .int (x2 + (1 : Int32)))] [] m) :
    Go X 7 mX12_couldRule Q 53 [(0, .ref 535), (2, .int x2), (3, .int x3)] [.int xs0] m := by
  refine g_pop dX12_couldRule_53 rfl ?_
  refine g_iinc (v := x2 + (1 : Int32)) (ls2 := [(2, .int (x2 + (1 : Int32))), (0, .ref 535), (3, .int x3)]) 1 dX12_couldRule_54 rfl rfl (by decide) rfl ?_
  refine g_goto 14 dX12_couldRule_57 (by decide) ?_
  exact g_ls [1, 0] rfl h1
theorem bX11_ruled_0 {X : pX} {Q : Option Value → pMem → Prop} {m : pMem} {x1 : Int32} (hW : Wf m)
    (h1 : (mI m 31 0) = 0 → Q (some (.int (-3 : Int32))) m)
    (h2 : ¬ ((mI m 31 0) = 0) → x1 < 0 → Q (some (.int (-3 : Int32))) m)
    (h3 : ¬ ((mI m 31 0) = 0) → ¬ (x1 < 0) → x1 ≤ (1 : Int32) → Go X 6 mX11_ruled Q 33 [(0, .ref 0), (1, .int x1), (2, .int (0 : Int32)), (3, .int (-2 : Int32)), (4, .int (-1 : Int32))] [] m)
    (h4 : ¬ ((mI m 31 0) = 0) → ¬ (x1 < 0) → ¬ (x1 ≤ (1 : Int32)) → Q (some (.int (-3 : Int32))) m) :
    Go X 6 mX11_ruled Q 0 [(0, .ref 0), (1, .int x1)] [] m := by
  refine g_aload_n 0 dX11_ruled_0 rfl rfl ?_
  refine g_getR dX11_ruled_1 fl11_42 rfl sh0 (w11_5 hW sh0) ?_
  refine g_getR dX11_ruled_4 fl11_56 rfl sh30 (w10_0 hW sh30) ?_
  refine g_getZ dX11_ruled_7 fl11_217 (s10_0 sh30) ?_
  refine g_if_eq 22 dX11_ruled_10 (by decide) (fun q1 => ?_) (fun q1 => ?_)
  · refine g_bipush (v := -3) dX11_ruled_22 (by decide) ?_
    exact g_iret dX11_ruled_24 rfl enSH (h1 q1)
  · refine g_iload_n 1 dX11_ruled_13 rfl rfl ?_
    refine g_if_lt 22 dX11_ruled_14 (by decide) (fun q2 => ?_) (fun q2 => ?_)
    · refine g_bipush (v := -3) dX11_ruled_22 (by decide) ?_
      exact g_iret dX11_ruled_24 rfl enSH (h2 q1 q2)
    · refine g_iload_n 1 dX11_ruled_17 rfl rfl ?_
      refine g_iconst (v := 1) dX11_ruled_18 (by decide) ?_
      refine g_icmp_le 25 dX11_ruled_19 (by decide) (fun q3 => ?_) (fun q3 => ?_)
      · refine g_iconst (v := 0) dX11_ruled_25 (by decide) ?_
        refine g_istore_n (ls2 := [(2, .int (0 : Int32)), (0, .ref 0), (1, .int x1)]) dX11_ruled_26 rfl (by decide) rfl ?_
        refine g_bipush (v := -2) dX11_ruled_27 (by decide) ?_
        refine g_istore_n (ls2 := [(3, .int (-2 : Int32)), (2, .int (0 : Int32)), (0, .ref 0), (1, .int x1)]) dX11_ruled_29 rfl (by decide) rfl ?_
        refine g_iconst (v := -1) dX11_ruled_30 (by decide) ?_
        refine g_istore (ls2 := [(4, .int (-1 : Int32)), (3, .int (-2 : Int32)), (2, .int (0 : Int32)), (0, .ref 0), (1, .int x1)]) dX11_ruled_31 (by decide) rfl ?_
        exact g_ls [3, 4, 2, 1, 0] rfl (h3 q1 q2 q3)
      · refine g_bipush (v := -3) dX11_ruled_22 (by decide) ?_
        exact g_iret dX11_ruled_24 rfl enSH (h4 q1 q2 q3)
theorem bX11_ruled_33 {X : pX} {Q : Option Value → pMem → Prop} {m : pMem} {x1 : Int32} {x2 : Int32} {x3 : Int32} {x4 : Int32} (hW : Wf m)
    (h1 : (mI m 0 4) ≤ x4 → ¬ x1 = 0 → Q (some (.int x3)) m)
    (h2 : (mI m 0 4) ≤ x4 → x1 = 0 → Q (some (.int x2)) m)
    (h3 : ¬ ((mI m 0 4) ≤ x4) → Cl X 5 mX11_wouldBeAsNoted [.ref 0, .int x4] m (fun v m2 => Go X 6 mX11_ruled Q 48 [(0, .ref 0), (1, .int x1), (2, .int x2), (3, .int x3), (4, .int x4)] (v.toList ++ []) m2)) :
    Go X 6 mX11_ruled Q 33 [(0, .ref 0), (1, .int x1), (2, .int x2), (3, .int x3), (4, .int x4)] [] m := by
  refine g_iload 4 dX11_ruled_33 rfl ?_
  refine g_aload_n 0 dX11_ruled_35 rfl rfl ?_
  refine g_getI dX11_ruled_36 fl11_126 sh0 ?_
  refine g_icmp_ge 67 dX11_ruled_39 (by decide) (fun q1 => ?_) (fun q1 => ?_)
  · refine g_iload_n 1 dX11_ruled_67 rfl rfl ?_
    refine g_if_ne 75 dX11_ruled_68 (by decide) (fun q2 => ?_) (fun q2 => ?_)
    · refine g_iload_n 3 dX11_ruled_75 rfl rfl ?_
      exact g_iret dX11_ruled_76 rfl enSH (h1 q1 q2)
    · refine g_iload_n 2 dX11_ruled_71 rfl rfl ?_
      refine g_goto 76 dX11_ruled_72 (by decide) ?_
      exact g_iret dX11_ruled_76 rfl enSH (h2 q1 q2)
  · refine g_aload_n 0 dX11_ruled_42 rfl rfl ?_
    refine g_iload 4 dX11_ruled_43 rfl ?_
    exact g_callV (As := [.int x4]) (st := []) dX11_ruled_45 clX11_306 sh0 rfl rfl (Nat.le_of_ble_eq_true rfl) (rmSH (by decide) (by decide)) (h3 q1)
theorem bX11_ruled_48 {X : pX} {Q : Option Value → pMem → Prop} {m : pMem} {x1 : Int32} {x2 : Int32} {x3 : Int32} {x4 : Int32} {xs0 : Int32} (hW : Wf m)
    (h1 : xs0 = 0 → Go X 6 mX11_ruled Q 33 [(0, .ref 0), (1, .int x1), (2, .int x2), (3, .int x3), (4, .int (x4 + (1 : Int32)))] [] m)
    (h2 : ¬ (xs0 = 0) → ¬ x2 = 0 → Go X 6 mX11_ruled Q 33 [(0, .ref 0), (1, .int x1), (2, .int (x2 + (1 : Int32))), (3, .int x3), (4, .int (x4 + (1 : Int32)))] [] m)
    (h3 : ¬ (xs0 = 0) → x2 = 0 → Go X 6 mX11_ruled Q 33 [(0, .ref 0), (1, .int x1), (2, .int (x2 + (1 : Int32))), (3, .int x4), (4, .int (x4 + (1 : Int32)))] [] m) :
    Go X 6 mX11_ruled Q 48 [(0, .ref 0), (1, .int x1), (2, .int x2), (3, .int x3), (4, .int x4)] [.int xs0] m := by
  refine g_if_eq 61 dX11_ruled_48 (by decide) (fun q1 => ?_) (fun q1 => ?_)
  · refine g_iinc (v := x4 + (1 : Int32)) (ls2 := [(4, .int (x4 + (1 : Int32))), (0, .ref 0), (1, .int x1), (2, .int x2), (3, .int x3)]) 4 dX11_ruled_61 rfl rfl (by decide) rfl ?_
    refine g_goto 33 dX11_ruled_64 (by decide) ?_
    exact g_ls [1, 2, 3, 4, 0] rfl (h1 q1)
  · refine g_iload_n 2 dX11_ruled_51 rfl rfl ?_
    refine g_if_ne 58 dX11_ruled_52 (by decide) (fun q2 => ?_) (fun q2 => ?_)
    · refine g_iinc (v := x2 + (1 : Int32)) (ls2 := [(2, .int (x2 + (1 : Int32))), (0, .ref 0), (1, .int x1), (3, .int x3), (4, .int x4)]) 2 dX11_ruled_58 rfl rfl (by decide) rfl ?_
      refine g_iinc (v := x4 + (1 : Int32)) (ls2 := [(4, .int (x4 + (1 : Int32))), (2, .int (x2 + (1 : Int32))), (0, .ref 0), (1, .int x1), (3, .int x3)]) 4 dX11_ruled_61 rfl rfl (by decide) rfl ?_
      refine g_goto 33 dX11_ruled_64 (by decide) ?_
      exact g_ls [2, 3, 1, 4, 0] rfl (h2 q1 q2)
    · refine g_iload 4 dX11_ruled_55 rfl ?_
      refine g_istore_n (ls2 := [(3, .int x4), (0, .ref 0), (1, .int x1), (2, .int x2), (4, .int x4)]) dX11_ruled_57 rfl (by decide) rfl ?_
      refine g_iinc (v := x2 + (1 : Int32)) (ls2 := [(2, .int (x2 + (1 : Int32))), (3, .int x4), (0, .ref 0), (1, .int x1), (4, .int x4)]) 3 dX11_ruled_58 rfl rfl (by decide) rfl ?_
      refine g_iinc (v := x4 + (1 : Int32)) (ls2 := [(4, .int (x4 + (1 : Int32))), (2, .int (x2 + (1 : Int32))), (3, .int x4), (0, .ref 0), (1, .int x1)]) 4 dX11_ruled_61 rfl rfl (by decide) rfl ?_
      refine g_goto 33 dX11_ruled_64 (by decide) ?_
      exact g_ls [3, 4, 1, 2, 0] rfl (h3 q1 q2)
theorem bX12_ruled_0 {X : pX} {Q : Option Value → pMem → Prop} {m : pMem} {x1 : Int32} (hW : Wf m)
    (h1 : mI m 536 0 = (1 : Int32) → ¬ x1 < (0 : Int32) ∧ ¬ (1 : Int32) < x1 → Cl X 2 mX12_keepsAll [.ref 535] m (fun v m2 => Go X 8 mX12_ruled Q 24 [(0, .ref 535), (1, .int x1)] (v.toList ++ []) m2))
    (h2 : mI m 536 0 = (1 : Int32) → ¬ (¬ x1 < (0 : Int32) ∧ ¬ (1 : Int32) < x1) → Q (some (.int (-3 : Int32))) m)
    (h3 : ¬ (mI m 536 0 = (1 : Int32)) → Q (some (.int (-3 : Int32))) m) :
    Go X 8 mX12_ruled Q 0 [(0, .ref 535), (1, .int x1)] [] m := by
  refine g_aload_n 0 dX12_ruled_0 rfl rfl ?_
  refine g_callV (As := []) (st := []) dX12_ruled_1 clX12_389 sh535 rfl rfl (Nat.le_of_ble_eq_true rfl) (rmSH (by decide) (by decide)) (s_isRoad hW (fun q1 => ?_) (fun q1 => ?_))
  · refine g_if_eq 17 dX12_ruled_4 (by decide) (fun q2 => absurd q2 (by decide)) (fun q2 => ?_)
    refine g_iload_n 1 dX12_ruled_7 rfl rfl ?_
    refine g_i2l dX12_ruled_8 ?_
    refine g_lconst (v := 0) dX12_ruled_9 (by decide) ?_
    refine g_lconst (v := 1) dX12_ruled_10 (by decide) ?_
    refine g_callS (As := [.long x1.toInt64, .long (0 : Int64), .long (1 : Int64)]) (st := []) dX12_ruled_11 clX12_128 rfl rfl (Nat.le_of_ble_eq_true rfl) (rmSH (by decide) (by decide)) (s_in (x := x1) (lo := (0 : Int32)) (hi := (1 : Int32)) hW (by first | rfl | decide) (by first | rfl | decide) (by first | rfl | decide) (fun q3 => ?_) (fun q3 => ?_))
    · refine g_if_ne 20 dX12_ruled_14 (by decide) (fun q4 => ?_) (fun q4 => absurd q4 (by decide))
      refine g_aload_n 0 dX12_ruled_20 rfl rfl ?_
      exact g_callV (As := []) (st := []) dX12_ruled_21 clX12_409 sh535 rfl rfl (Nat.le_of_ble_eq_true rfl) (rmSH (by decide) (by decide)) (h1 q1 q3)
    · refine g_if_ne 20 dX12_ruled_14 (by decide) (fun q5 => absurd q5 (by decide)) (fun q5 => ?_)
      refine g_bipush (v := -3) dX12_ruled_17 (by decide) ?_
      exact g_iret dX12_ruled_19 rfl enSH (h2 q1 q3)
  · refine g_if_eq 17 dX12_ruled_4 (by decide) (fun q6 => ?_) (fun q6 => absurd q6 (by decide))
    refine g_bipush (v := -3) dX12_ruled_17 (by decide) ?_
    exact g_iret dX12_ruled_19 rfl enSH (h3 q1)
theorem bX12_ruled_24 {X : pX} {Q : Option Value → pMem → Prop} {m : pMem} {x1 : Int32} (hW : Wf m)
    (h1 : Go X 8 mX12_ruled Q 32 [(0, .ref 535), (1, .int x1), (2, .int (0 : Int32)), (3, .int (-2 : Int32)), (4, .int (-1 : Int32))] [] m) :
    Go X 8 mX12_ruled Q 24 [(0, .ref 535), (1, .int x1)] [] m := by
  refine g_iconst (v := 0) dX12_ruled_24 (by decide) ?_
  refine g_istore_n (ls2 := [(2, .int (0 : Int32)), (0, .ref 535), (1, .int x1)]) dX12_ruled_25 rfl (by decide) rfl ?_
  refine g_bipush (v := -2) dX12_ruled_26 (by decide) ?_
  refine g_istore_n (ls2 := [(3, .int (-2 : Int32)), (2, .int (0 : Int32)), (0, .ref 535), (1, .int x1)]) dX12_ruled_28 rfl (by decide) rfl ?_
  refine g_iconst (v := -1) dX12_ruled_29 (by decide) ?_
  refine g_istore (ls2 := [(4, .int (-1 : Int32)), (3, .int (-2 : Int32)), (2, .int (0 : Int32)), (0, .ref 535), (1, .int x1)]) dX12_ruled_30 (by decide) rfl ?_
  exact g_ls [3, 4, 2, 1, 0] rfl h1
theorem bX12_ruled_32 {X : pX} {Q : Option Value → pMem → Prop} {m : pMem} {x1 : Int32} {x2 : Int32} {x3 : Int32} {x4 : Int32} (hW : Wf m)
    (h1 : (mI m 535 23) ≤ x4 → ¬ x1 = 0 → Q (some (.int x3)) m)
    (h2 : (mI m 535 23) ≤ x4 → x1 = 0 → Q (some (.int x2)) m)
    (h3 : ¬ ((mI m 535 23) ≤ x4) → Cl X 7 mX12_couldRule [.ref 535, .int x4] m (fun v m2 => Go X 8 mX12_ruled Q 47 [(0, .ref 535), (1, .int x1), (2, .int x2), (3, .int x3), (4, .int x4)] (v.toList ++ []) m2)) :
    Go X 8 mX12_ruled Q 32 [(0, .ref 535), (1, .int x1), (2, .int x2), (3, .int x3), (4, .int x4)] [] m := by
  refine g_iload 4 dX12_ruled_32 rfl ?_
  refine g_aload_n 0 dX12_ruled_34 rfl rfl ?_
  refine g_getI dX12_ruled_35 fl12_312 sh535 ?_
  refine g_icmp_ge 70 dX12_ruled_38 (by decide) (fun q1 => ?_) (fun q1 => ?_)
  · refine g_iload_n 1 dX12_ruled_70 rfl rfl ?_
    refine g_if_ne 78 dX12_ruled_71 (by decide) (fun q2 => ?_) (fun q2 => ?_)
    · refine g_iload_n 3 dX12_ruled_78 rfl rfl ?_
      exact g_iret dX12_ruled_79 rfl enSH (h1 q1 q2)
    · refine g_iload_n 2 dX12_ruled_74 rfl rfl ?_
      refine g_goto 79 dX12_ruled_75 (by decide) ?_
      exact g_iret dX12_ruled_79 rfl enSH (h2 q1 q2)
  · refine g_aload_n 0 dX12_ruled_41 rfl rfl ?_
    refine g_iload 4 dX12_ruled_42 rfl ?_
    exact g_callV (As := [.int x4]) (st := []) dX12_ruled_44 clX12_463 sh535 rfl rfl (Nat.le_of_ble_eq_true rfl) (rmSH (by decide) (by decide)) (h3 q1)
theorem bX12_ruled_47 {X : pX} {Q : Option Value → pMem → Prop} {m : pMem} {x1 : Int32} {x2 : Int32} {x3 : Int32} {x4 : Int32} {xs0 : Int32} (hW : Wf m)
    (h1 : xs0 = 0 → Go X 8 mX12_ruled Q 32 [(0, .ref 535), (1, .int x1), (2, .int x2), (3, .int x3), (4, .int (x4 + (1 : Int32)))] [] m)
    (h2 : ¬ (xs0 = 0) → ¬ x2 = 0 → Go X 8 mX12_ruled Q 32 [(0, .ref 535), (1, .int x1), (2, .int (x2 + (1 : Int32))), (3, .int x3), (4, .int (x4 + (1 : Int32)))] [] m)
    (h3 : ¬ (xs0 = 0) → x2 = 0 → Go X 8 mX12_ruled Q 32 [(0, .ref 535), (1, .int x1), (2, .int (x2 + (1 : Int32))), (3, .int x4), (4, .int (x4 + (1 : Int32)))] [] m) :
    Go X 8 mX12_ruled Q 47 [(0, .ref 535), (1, .int x1), (2, .int x2), (3, .int x3), (4, .int x4)] [.int xs0] m := by
  refine g_if_eq 64 dX12_ruled_47 (by decide) (fun q1 => ?_) (fun q1 => ?_)
  · refine g_iinc (v := x4 + (1 : Int32)) (ls2 := [(4, .int (x4 + (1 : Int32))), (0, .ref 535), (1, .int x1), (2, .int x2), (3, .int x3)]) 4 dX12_ruled_64 rfl rfl (by decide) rfl ?_
    refine g_goto 32 dX12_ruled_67 (by decide) ?_
    exact g_ls [1, 2, 3, 4, 0] rfl (h1 q1)
  · refine g_iload_n 2 dX12_ruled_50 rfl rfl ?_
    refine g_if_ne 59 dX12_ruled_51 (by decide) (fun q2 => ?_) (fun q2 => ?_)
    · refine g_iload_n 3 dX12_ruled_59 rfl rfl ?_
      refine g_istore_n (ls2 := [(3, .int x3), (0, .ref 535), (1, .int x1), (2, .int x2), (4, .int x4)]) dX12_ruled_60 rfl (by decide) rfl ?_
      refine g_iinc (v := x2 + (1 : Int32)) (ls2 := [(2, .int (x2 + (1 : Int32))), (3, .int x3), (0, .ref 535), (1, .int x1), (4, .int x4)]) 3 dX12_ruled_61 rfl rfl (by decide) rfl ?_
      refine g_iinc (v := x4 + (1 : Int32)) (ls2 := [(4, .int (x4 + (1 : Int32))), (2, .int (x2 + (1 : Int32))), (3, .int x3), (0, .ref 535), (1, .int x1)]) 4 dX12_ruled_64 rfl rfl (by decide) rfl ?_
      refine g_goto 32 dX12_ruled_67 (by decide) ?_
      exact g_ls [3, 4, 1, 2, 0] rfl (h2 q1 q2)
    · refine g_iload 4 dX12_ruled_54 rfl ?_
      refine g_goto 60 dX12_ruled_56 (by decide) ?_
      refine g_istore_n (ls2 := [(3, .int x4), (0, .ref 535), (1, .int x1), (2, .int x2), (4, .int x4)]) dX12_ruled_60 rfl (by decide) rfl ?_
      refine g_iinc (v := x2 + (1 : Int32)) (ls2 := [(2, .int (x2 + (1 : Int32))), (3, .int x4), (0, .ref 535), (1, .int x1), (4, .int x4)]) 3 dX12_ruled_61 rfl rfl (by decide) rfl ?_
      refine g_iinc (v := x4 + (1 : Int32)) (ls2 := [(4, .int (x4 + (1 : Int32))), (2, .int (x2 + (1 : Int32))), (3, .int x4), (0, .ref 535), (1, .int x1)]) 4 dX12_ruled_64 rfl rfl (by decide) rfl ?_
      refine g_goto 32 dX12_ruled_67 (by decide) ?_
      exact g_ls [3, 4, 1, 2, 0] rfl (h3 q1 q2)
theorem bX11_mostAlike_0 {X : pX} {Q : Option Value → pMem → Prop} {m : pMem} {x1 : Int32} {x2 : Int32} (hW : Wf m)
    (h1 : Go X 1 mX11_mostAlike Q 5 [(0, .ref 0), (1, .int x1), (2, .int x2), (3, .int (0 : Int32)), (4, .int (0 : Int32))] [] m) :
    Go X 1 mX11_mostAlike Q 0 [(0, .ref 0), (1, .int x1), (2, .int x2)] [] m := by
  refine g_iconst (v := 0) dX11_mostAlike_0 (by decide) ?_
  refine g_istore_n (ls2 := [(3, .int (0 : Int32)), (0, .ref 0), (1, .int x1), (2, .int x2)]) dX11_mostAlike_1 rfl (by decide) rfl ?_
  refine g_iconst (v := 0) dX11_mostAlike_2 (by decide) ?_
  refine g_istore (ls2 := [(4, .int (0 : Int32)), (3, .int (0 : Int32)), (0, .ref 0), (1, .int x1), (2, .int x2)]) dX11_mostAlike_3 (by decide) rfl ?_
  exact g_ls [2, 3, 4, 1, 0] rfl h1
theorem bX11_mostAlike_5 {X : pX} {Q : Option Value → pMem → Prop} {m : pMem} {x1 : Int32} {x2 : Int32} {x3 : Int32} {x4 : Int32} (hW : Wf m)
    (h1 : x1 ≤ x4 → Q (some (.int x3)) m)
    (h2 : ¬ (x1 ≤ x4) → Go X 1 mX11_mostAlike Q 17 [(0, .ref 0), (1, .int x1), (2, .int x2), (3, .int x3), (4, .int x4), (5, .int (0 : Int32)), (6, .int (0 : Int32))] [] m) :
    Go X 1 mX11_mostAlike Q 5 [(0, .ref 0), (1, .int x1), (2, .int x2), (3, .int x3), (4, .int x4)] [] m := by
  refine g_iload 4 dX11_mostAlike_5 rfl ?_
  refine g_iload_n 1 dX11_mostAlike_7 rfl rfl ?_
  refine g_icmp_ge 66 dX11_mostAlike_8 (by decide) (fun q1 => ?_) (fun q1 => ?_)
  · refine g_iload_n 3 dX11_mostAlike_66 rfl rfl ?_
    exact g_iret dX11_mostAlike_67 rfl enSH (h1 q1)
  · refine g_iconst (v := 0) dX11_mostAlike_11 (by decide) ?_
    refine g_istore (ls2 := [(5, .int (0 : Int32)), (0, .ref 0), (1, .int x1), (2, .int x2), (3, .int x3), (4, .int x4)]) dX11_mostAlike_12 (by decide) rfl ?_
    refine g_iconst (v := 0) dX11_mostAlike_14 (by decide) ?_
    refine g_istore (ls2 := [(6, .int (0 : Int32)), (5, .int (0 : Int32)), (0, .ref 0), (1, .int x1), (2, .int x2), (3, .int x3), (4, .int x4)]) dX11_mostAlike_15 (by decide) rfl ?_
    exact g_ls [2, 3, 4, 5, 6, 1, 0] rfl (h2 q1)
theorem bX11_mostAlike_17 {X : pX} {Q : Option Value → pMem → Prop} {m : pMem} {x1 : Int32} {x2 : Int32} {x3 : Int32} {x4 : Int32} {x5 : Int32} {x6 : Int32} (hW : Wf m)
    (h1 : x1 ≤ x6 → Go X 1 mX11_mostAlike Q 5 [(0, .ref 0), (1, .int x1), (2, .int x2), (3, .int (if x3 < x5 then x5 else x3)), (4, .int (x4 + (1 : Int32)))] [] m)
    (h2 : ¬ (x1 ≤ x6) → vp_in x6 7)
    (h3 : ¬ (x1 ≤ x6) → vp_in x2 4)
    (h4 : ¬ (x1 ≤ x6) → vp_in x4 7)
    (h5 : ¬ (x1 ≤ x6) → ¬ (mI m (528 + x6.toNatClampNeg) x2.toNatClampNeg) = (mI m (528 + x4.toNatClampNeg) x2.toNatClampNeg) → Go X 1 mX11_mostAlike Q 17 [(0, .ref 0), (1, .int x1), (2, .int x2), (3, .int x3), (4, .int x4), (5, .int x5), (6, .int (x6 + (1 : Int32)))] [] m)
    (h6 : ¬ (x1 ≤ x6) → (mI m (528 + x6.toNatClampNeg) x2.toNatClampNeg) = (mI m (528 + x4.toNatClampNeg) x2.toNatClampNeg) → Go X 1 mX11_mostAlike Q 17 [(0, .ref 0), (1, .int x1), (2, .int x2), (3, .int x3), (4, .int x4), (5, .int (x5 + (1 : Int32))), (6, .int (x6 + (1 : Int32)))] [] m) :
    Go X 1 mX11_mostAlike Q 17 [(0, .ref 0), (1, .int x1), (2, .int x2), (3, .int x3), (4, .int x4), (5, .int x5), (6, .int x6)] [] m := by
  refine g_iload 6 dX11_mostAlike_17 rfl ?_
  refine g_iload_n 1 dX11_mostAlike_19 rfl rfl ?_
  refine g_icmp_ge 53 dX11_mostAlike_20 (by decide) (fun q1 => ?_) (fun q1 => ?_)
  · refine g_iload_n 3 dX11_mostAlike_53 rfl rfl ?_
    refine g_iload 5 dX11_mostAlike_54 rfl ?_
    refine g_mmax dX11_mostAlike_56 mmwX11_331 (Nat.le_of_ble_eq_true rfl) ⟨by decide, by decide⟩ ⟨Nat.le_refl _, Nat.le_refl _⟩ ?_
    refine g_istore_n (ls2 := [(3, .int (if x3 < x5 then x5 else x3)), (0, .ref 0), (1, .int x1), (2, .int x2), (4, .int x4), (5, .int x5), (6, .int x6)]) dX11_mostAlike_59 rfl (by decide) rfl ?_
    refine g_iinc (v := x4 + (1 : Int32)) (ls2 := [(4, .int (x4 + (1 : Int32))), (3, .int (if x3 < x5 then x5 else x3)), (0, .ref 0), (1, .int x1), (2, .int x2), (5, .int x5), (6, .int x6)]) 4 dX11_mostAlike_60 rfl rfl (by decide) rfl ?_
    refine g_goto 5 dX11_mostAlike_63 (by decide) ?_
    exact g_ls [2, 3, 4, 1, 0] rfl (h1 q1)
  · refine g_aload_n 0 dX11_mostAlike_23 rfl rfl ?_
    refine g_getR dX11_mostAlike_24 fl11_95 rfl sh0 (w11_12 hW sh0) ?_
    refine g_iload 6 dX11_mostAlike_27 rfl ?_
    refine g_aaldA dX11_mostAlike_29 sh527 (h2 q1) rfl (wSeen hW (inN (h2 q1))) ?_
    refine g_iload_n 2 dX11_mostAlike_30 rfl rfl ?_
    refine g_iald (j := x2.toNatClampNeg) dX11_mostAlike_31 (shSeen _ (inN (h2 q1))) (h3 q1) rfl ?_
    refine g_aload_n 0 dX11_mostAlike_32 rfl rfl ?_
    refine g_getR dX11_mostAlike_33 fl11_95 rfl sh0 (w11_12 hW sh0) ?_
    refine g_iload 4 dX11_mostAlike_36 rfl ?_
    refine g_aaldA dX11_mostAlike_38 sh527 (h4 q1) rfl (wSeen hW (inN (h4 q1))) ?_
    refine g_iload_n 2 dX11_mostAlike_39 rfl rfl ?_
    refine g_iald (j := x2.toNatClampNeg) dX11_mostAlike_40 (shSeen _ (inN (h4 q1))) (h3 q1) rfl ?_
    refine g_icmp_ne 47 dX11_mostAlike_41 (by decide) (fun q2 => ?_) (fun q2 => ?_)
    · refine g_iinc (v := x6 + (1 : Int32)) (ls2 := [(6, .int (x6 + (1 : Int32))), (0, .ref 0), (1, .int x1), (2, .int x2), (3, .int x3), (4, .int x4), (5, .int x5)]) 6 dX11_mostAlike_47 rfl rfl (by decide) rfl ?_
      refine g_goto 17 dX11_mostAlike_50 (by decide) ?_
      exact g_ls [1, 2, 3, 4, 5, 6, 0] rfl (h5 q1 q2)
    · refine g_iinc (v := x5 + (1 : Int32)) (ls2 := [(5, .int (x5 + (1 : Int32))), (0, .ref 0), (1, .int x1), (2, .int x2), (3, .int x3), (4, .int x4), (6, .int x6)]) 5 dX11_mostAlike_44 rfl rfl (by decide) rfl ?_
      refine g_iinc (v := x6 + (1 : Int32)) (ls2 := [(6, .int (x6 + (1 : Int32))), (5, .int (x5 + (1 : Int32))), (0, .ref 0), (1, .int x1), (2, .int x2), (3, .int x3), (4, .int x4)]) 6 dX11_mostAlike_47 rfl rfl (by decide) rfl ?_
      refine g_goto 17 dX11_mostAlike_50 (by decide) ?_
      exact g_ls [2, 3, 4, 5, 6, 1, 0] rfl (h6 q1 q2)
theorem bX11_seeAt_0 {X : pX} {Q : Option Value → pMem → Prop} {m : pMem} {x1 : Int32} (hW : Wf m)
    (h1 : Go X 6 mX11_seeAt Q 4 [(0, .ref 0), (1, .int x1), (2, .int (0 : Int32)), (3, .int (-1 : Int32))] [] m) :
    Go X 6 mX11_seeAt Q 0 [(0, .ref 0), (1, .int x1)] [] m := by
  refine g_iconst (v := 0) dX11_seeAt_0 (by decide) ?_
  refine g_istore_n (ls2 := [(2, .int (0 : Int32)), (0, .ref 0), (1, .int x1)]) dX11_seeAt_1 rfl (by decide) rfl ?_
  refine g_iconst (v := -1) dX11_seeAt_2 (by decide) ?_
  refine g_istore_n (ls2 := [(3, .int (-1 : Int32)), (2, .int (0 : Int32)), (0, .ref 0), (1, .int x1)]) dX11_seeAt_3 rfl (by decide) rfl ?_
  exact g_ls [2, 3, 1, 0] rfl h1
theorem bX11_seeAt_4 {X : pX} {Q : Option Value → pMem → Prop} {m : pMem} {x1 : Int32} {x2 : Int32} {x3 : Int32} (hW : Wf m)
    (h1 : (mI m 0 4) ≤ x3 → Q (some (.int x2)) m)
    (h2 : ¬ ((mI m 0 4) ≤ x3) → (7 : Int32) ≤ x2 → Go X 6 mX11_seeAt Q 4 [(0, .ref 0), (1, .int x1), (2, .int x2), (3, .int (x3 + (1 : Int32)))] [] m)
    (h3 : ¬ ((mI m 0 4) ≤ x3) → ¬ ((7 : Int32) ≤ x2) → Cl X 5 mX11_wouldBeAsNoted [.ref 0, .int x3] m (fun v m2 => Go X 6 mX11_seeAt Q 26 [(0, .ref 0), (1, .int x1), (2, .int x2), (3, .int x3)] (v.toList ++ []) m2)) :
    Go X 6 mX11_seeAt Q 4 [(0, .ref 0), (1, .int x1), (2, .int x2), (3, .int x3)] [] m := by
  refine g_iload_n 3 dX11_seeAt_4 rfl rfl ?_
  refine g_aload_n 0 dX11_seeAt_5 rfl rfl ?_
  refine g_getI dX11_seeAt_6 fl11_126 sh0 ?_
  refine g_icmp_ge 88 dX11_seeAt_9 (by decide) (fun q1 => ?_) (fun q1 => ?_)
  · refine g_iload_n 2 dX11_seeAt_88 rfl rfl ?_
    exact g_iret dX11_seeAt_89 rfl enSH (h1 q1)
  · refine g_iload_n 2 dX11_seeAt_12 rfl rfl ?_
    refine g_aload_n 0 dX11_seeAt_13 rfl rfl ?_
    refine g_getR dX11_seeAt_14 fl11_95 rfl sh0 (w11_12 hW sh0) ?_
    refine g_alen (v := (7 : Int32)) dX11_seeAt_17 sh527 (by decide) (by first | rfl | decide) ?_
    refine g_icmp_ge 82 dX11_seeAt_18 (by decide) (fun q2 => ?_) (fun q2 => ?_)
    · refine g_iinc (v := x3 + (1 : Int32)) (ls2 := [(3, .int (x3 + (1 : Int32))), (0, .ref 0), (1, .int x1), (2, .int x2)]) 3 dX11_seeAt_82 rfl rfl (by decide) rfl ?_
      refine g_goto 4 dX11_seeAt_85 (by decide) ?_
      exact g_ls [1, 2, 3, 0] rfl (h2 q1 q2)
    · refine g_aload_n 0 dX11_seeAt_21 rfl rfl ?_
      refine g_iload_n 3 dX11_seeAt_22 rfl rfl ?_
      exact g_callV (As := [.int x3]) (st := []) dX11_seeAt_23 clX11_306 sh0 rfl rfl (Nat.le_of_ble_eq_true rfl) (rmSH (by decide) (by decide)) (h3 q1 q2)
theorem bX11_seeAt_26 {X : pX} {Q : Option Value → pMem → Prop} {m : pMem} {x1 : Int32} {x2 : Int32} {x3 : Int32} {xs0 : Int32} (hW : Wf m)
    (h1 : xs0 = 0 → Go X 6 mX11_seeAt Q 4 [(0, .ref 0), (1, .int x1), (2, .int x2), (3, .int (x3 + (1 : Int32)))] [] m)
    (h2 : ¬ (xs0 = 0) → Cl X 0 mX11_ruleOf [.ref 0, .int x3] (beS m 31 523) (fun v m2 => Go X 6 mX11_seeAt Q 56 [(0, .ref 0), (1, .int x1), (2, .int x2), (3, .int x3)] (v.toList ++ [.ref 523, .ref 512]) m2)) :
    Go X 6 mX11_seeAt Q 26 [(0, .ref 0), (1, .int x1), (2, .int x2), (3, .int x3)] [.int xs0] m := by
  refine g_if_eq 82 dX11_seeAt_26 (by decide) (fun q1 => ?_) (fun q1 => ?_)
  · refine g_iinc (v := x3 + (1 : Int32)) (ls2 := [(3, .int (x3 + (1 : Int32))), (0, .ref 0), (1, .int x1), (2, .int x2)]) 3 dX11_seeAt_82 rfl rfl (by decide) rfl ?_
    refine g_goto 4 dX11_seeAt_85 (by decide) ?_
    exact g_ls [1, 2, 3, 0] rfl (h1 q1)
  · refine g_aload_n 0 dX11_seeAt_29 rfl rfl ?_
    refine g_getR dX11_seeAt_30 fl11_42 rfl sh0 (w11_5 hW sh0) ?_
    refine g_getR dX11_seeAt_33 fl11_56 rfl sh30 (w10_0 hW sh30) ?_
    refine g_aload_n 0 dX11_seeAt_36 rfl rfl ?_
    refine g_getR dX11_seeAt_37 fl11_90 rfl sh0 (w11_11 hW sh0) ?_
    refine g_callV (As := [.ref 523]) (st := []) dX11_seeAt_40 clX11_315 (s10_0 sh30) rfl rfl (Nat.le_of_ble_eq_true rfl) (rmSH (by decide) (by decide)) (s_beginS hW (s10_0 sh30) sh523 ?_)
    show Go X 6 mX11_seeAt Q 43 [(0, .ref 0), (1, .int x1), (2, .int x2), (3, .int x3)] [] (beS m 31 523)
    refine g_aload_n 0 dX11_seeAt_43 rfl rfl ?_
    refine g_getR dX11_seeAt_44 fl11_63 rfl sh0 (w11_8 hW sh0) ?_
    refine g_aload_n 0 dX11_seeAt_47 rfl rfl ?_
    refine g_getR dX11_seeAt_48 fl11_90 rfl sh0 (w11_11 hW sh0) ?_
    refine g_aload_n 0 dX11_seeAt_51 rfl rfl ?_
    refine g_iload_n 3 dX11_seeAt_52 rfl rfl ?_
    exact g_callV (As := [.int x3]) (st := [.ref 523, .ref 512]) dX11_seeAt_53 clX11_321 sh0 rfl rfl (Nat.le_of_ble_eq_true rfl) (rmSH (by decide) (by decide)) (h2 q1)
theorem bX11_seeAt_56 {X : pX} {Q : Option Value → pMem → Prop} {m : pMem} {x1 : Int32} {x2 : Int32} {x3 : Int32} {as0 : Nat} {as1 : Nat} (hW : Wf m) (cs0 : SH[as0]? = some (.inl 6)) (cs1 : SH[as1]? = some (.inl 8))
    (h1 : Cl X 5 mX0_goOn [.ref 512, .ref as1, .ref as0, .int x1] m (fun v m2 => Go X 6 mX11_seeAt Q 60 [(0, .ref 0), (1, .int x1), (2, .int x2), (3, .int x3)] (v.toList ++ []) m2)) :
    Go X 6 mX11_seeAt Q 56 [(0, .ref 0), (1, .int x1), (2, .int x2), (3, .int x3)] [.ref as0, .ref as1, .ref 512] m := by
  refine g_iload_n 1 dX11_seeAt_56 rfl rfl ?_
  exact g_callV (As := [.ref as1, .ref as0, .int x1]) (st := []) dX11_seeAt_57 clX11_259 sh512 rfl rfl (Nat.le_of_ble_eq_true rfl) (rmSH (by decide) (by decide)) h1
theorem bX11_seeAt_56v1 {X : pX} {Q : Option Value → pMem → Prop} {m : pMem} {x1 : Int32} {x2 : Int32} {x3 : Int32} {as1 : Nat} (hW : Wf m) (cs1 : SH[as1]? = some (.inl 8))
    (h1 : Cl X 5 mX0_goOn [.ref 512, .ref as1, .null, .int x1] m (fun v m2 => Go X 6 mX11_seeAt Q 60 [(0, .ref 0), (1, .int x1), (2, .int x2), (3, .int x3)] (v.toList ++ []) m2)) :
    Go X 6 mX11_seeAt Q 56 [(0, .ref 0), (1, .int x1), (2, .int x2), (3, .int x3)] [.null, .ref as1, .ref 512] m := by
  refine g_iload_n 1 dX11_seeAt_56 rfl rfl ?_
  exact g_callV (As := [.ref as1, .null, .int x1]) (st := []) dX11_seeAt_57 clX11_259 sh512 rfl rfl (Nat.le_of_ble_eq_true rfl) (rmSH (by decide) (by decide)) h1
theorem bX11_seeAt_60 {X : pX} {Q : Option Value → pMem → Prop} {m : pMem} {x1 : Int32} {x2 : Int32} {x3 : Int32} (hW : Wf m)
    (h1 : vp_in x2 7)
    (h2 : Go X 6 mX11_seeAt Q 4 [(0, .ref 0), (1, .int x1), (2, .int (x2 + (1 : Int32))), (3, .int (x3 + (1 : Int32)))] [] (uC m 524 0 (528 + x2.toNatClampNeg) 0 4)) :
    Go X 6 mX11_seeAt Q 60 [(0, .ref 0), (1, .int x1), (2, .int x2), (3, .int x3)] [] m := by
  refine g_aload_n 0 dX11_seeAt_60 rfl rfl ?_
  refine g_getR dX11_seeAt_61 fl11_90 rfl sh0 (w11_11 hW sh0) ?_
  refine g_getR dX11_seeAt_64 fl11_146 rfl sh523 (w8_1 hW sh523) ?_
  refine g_iconst (v := 0) dX11_seeAt_67 (by decide) ?_
  refine g_aload_n 0 dX11_seeAt_68 rfl rfl ?_
  refine g_getR dX11_seeAt_69 fl11_95 rfl sh0 (w11_12 hW sh0) ?_
  refine g_iload_n 2 dX11_seeAt_72 rfl rfl ?_
  refine g_aaldA dX11_seeAt_73 sh527 h1 rfl (wSeen hW (inN h1)) ?_
  refine g_iconst (v := 0) dX11_seeAt_74 (by decide) ?_
  refine g_iconst (v := 4) dX11_seeAt_75 (by decide) ?_
  refine g_copyN (s1 := 0) (d1 := 0) (n1 := 4) dX11_seeAt_76 acwX11_325 (s8_1 sh523) (shSeen _ (inN h1)) (by decide) (by decide) (by decide) (by decide) (by decide) (by decide) (Nat.le_of_ble_eq_true rfl) ⟨by decide, by decide⟩ ?_
  refine g_iinc (v := x2 + (1 : Int32)) (ls2 := [(2, .int (x2 + (1 : Int32))), (0, .ref 0), (1, .int x1), (3, .int x3)]) 2 dX11_seeAt_79 rfl rfl (by decide) rfl ?_
  refine g_iinc (v := x3 + (1 : Int32)) (ls2 := [(3, .int (x3 + (1 : Int32))), (2, .int (x2 + (1 : Int32))), (0, .ref 0), (1, .int x1)]) 3 dX11_seeAt_82 rfl rfl (by decide) rfl ?_
  refine g_goto 4 dX11_seeAt_85 (by decide) ?_
  exact g_ls [2, 3, 1, 0] rfl h2
theorem bX11_look_0 {X : pX} {Q : Option Value → pMem → Prop} {m : pMem} {x1 : Int32} {x2 : Int32} (hW : Wf m)
    (h1 : (mI m 31 0) = 0 → Q (some (.int (-1 : Int32))) m)
    (h2 : ¬ ((mI m 31 0) = 0) → x1 < 0 → Q (some (.int (-1 : Int32))) m)
    (h3 : ¬ ((mI m 31 0) = 0) → ¬ (x1 < 0) → (60 : Int32) < x1 → Q (some (.int (-1 : Int32))) m)
    (h4 : ¬ ((mI m 31 0) = 0) → ¬ (x1 < 0) → ¬ ((60 : Int32) < x1) → x2 < 0 → Q (some (.int (-1 : Int32))) m)
    (h5 : ¬ ((mI m 31 0) = 0) → ¬ (x1 < 0) → ¬ ((60 : Int32) < x1) → ¬ (x2 < 0) → x2 ≤ (1 : Int32) → Cl X 6 mX11_seeAt [.ref 0, .int x1] m (fun v m2 => Go X 7 mX11_look Q 39 [(0, .ref 0), (1, .int x1), (2, .int x2)] (v.toList ++ []) m2))
    (h6 : ¬ ((mI m 31 0) = 0) → ¬ (x1 < 0) → ¬ ((60 : Int32) < x1) → ¬ (x2 < 0) → ¬ (x2 ≤ (1 : Int32)) → Q (some (.int (-1 : Int32))) m) :
    Go X 7 mX11_look Q 0 [(0, .ref 0), (1, .int x1), (2, .int x2)] [] m := by
  refine g_aload_n 0 dX11_look_0 rfl rfl ?_
  refine g_getR dX11_look_1 fl11_42 rfl sh0 (w11_5 hW sh0) ?_
  refine g_getR dX11_look_4 fl11_56 rfl sh30 (w10_0 hW sh30) ?_
  refine g_getZ dX11_look_7 fl11_217 (s10_0 sh30) ?_
  refine g_if_eq 32 dX11_look_10 (by decide) (fun q1 => ?_) (fun q1 => ?_)
  · refine g_iconst (v := -1) dX11_look_32 (by decide) ?_
    exact g_iret dX11_look_33 rfl enSH (h1 q1)
  · refine g_iload_n 1 dX11_look_13 rfl rfl ?_
    refine g_if_lt 32 dX11_look_14 (by decide) (fun q2 => ?_) (fun q2 => ?_)
    · refine g_iconst (v := -1) dX11_look_32 (by decide) ?_
      exact g_iret dX11_look_33 rfl enSH (h2 q1 q2)
    · refine g_iload_n 1 dX11_look_17 rfl rfl ?_
      refine g_bipush (v := 60) dX11_look_18 (by decide) ?_
      refine g_icmp_gt 32 dX11_look_20 (by decide) (fun q3 => ?_) (fun q3 => ?_)
      · refine g_iconst (v := -1) dX11_look_32 (by decide) ?_
        exact g_iret dX11_look_33 rfl enSH (h3 q1 q2 q3)
      · refine g_iload_n 2 dX11_look_23 rfl rfl ?_
        refine g_if_lt 32 dX11_look_24 (by decide) (fun q4 => ?_) (fun q4 => ?_)
        · refine g_iconst (v := -1) dX11_look_32 (by decide) ?_
          exact g_iret dX11_look_33 rfl enSH (h4 q1 q2 q3 q4)
        · refine g_iload_n 2 dX11_look_27 rfl rfl ?_
          refine g_iconst (v := 1) dX11_look_28 (by decide) ?_
          refine g_icmp_le 34 dX11_look_29 (by decide) (fun q5 => ?_) (fun q5 => ?_)
          · refine g_aload_n 0 dX11_look_34 rfl rfl ?_
            refine g_iload_n 1 dX11_look_35 rfl rfl ?_
            exact g_callV (As := [.int x1]) (st := []) dX11_look_36 clX11_309 sh0 rfl rfl (Nat.le_of_ble_eq_true rfl) (rmSH (by decide) (by decide)) (h5 q1 q2 q3 q4 q5)
          · refine g_iconst (v := -1) dX11_look_32 (by decide) ?_
            exact g_iret dX11_look_33 rfl enSH (h6 q1 q2 q3 q4 q5)
theorem bX11_look_39 {X : pX} {Q : Option Value → pMem → Prop} {m : pMem} {x1 : Int32} {x2 : Int32} {xs0 : Int32} (hW : Wf m)
    (h1 : ¬ xs0 = 0 → Go X 7 mX11_look Q 58 [(0, .ref 0), (2, .int x2), (3, .int xs0), (4, .int (-2 : Int32)), (5, .int (-2 : Int32)), (6, .int (0 : Int32))] [] m)
    (h2 : xs0 = 0 → Q (some (.int (-2 : Int32))) m) :
    Go X 7 mX11_look Q 39 [(0, .ref 0), (1, .int x1), (2, .int x2)] [.int xs0] m := by
  refine g_istore_n (ls2 := [(3, .int xs0), (0, .ref 0), (1, .int x1), (2, .int x2)]) dX11_look_39 rfl (by decide) rfl ?_
  refine g_iload_n 0 dX11_look_40 rfl rfl ?_
  refine g_if_ne 47 dX11_look_41 (by decide) (fun q1 => ?_) (fun q1 => ?_)
  · refine g_bipush (v := -2) dX11_look_47 (by decide) ?_
    refine g_istore (ls2 := [(4, .int (-2 : Int32)), (3, .int xs0), (0, .ref 0), (1, .int x1), (2, .int x2)]) dX11_look_49 (by decide) rfl ?_
    refine g_bipush (v := -2) dX11_look_51 (by decide) ?_
    refine g_istore (ls2 := [(5, .int (-2 : Int32)), (4, .int (-2 : Int32)), (3, .int xs0), (0, .ref 0), (1, .int x1), (2, .int x2)]) dX11_look_53 (by decide) rfl ?_
    refine g_iconst (v := 0) dX11_look_55 (by decide) ?_
    refine g_istore (ls2 := [(6, .int (0 : Int32)), (5, .int (-2 : Int32)), (4, .int (-2 : Int32)), (3, .int xs0), (0, .ref 0), (1, .int x1), (2, .int x2)]) dX11_look_56 (by decide) rfl ?_
    exact g_ls [4, 6, 3, 2, 1, 0] rfl (h1 q1)
  · refine g_bipush (v := -2) dX11_look_44 (by decide) ?_
    exact g_iret dX11_look_46 rfl enSH (h2 q1)
theorem bX11_look_58 {X : pX} {Q : Option Value → pMem → Prop} {m : pMem} {x2 : Int32} {x3 : Int32} {x4 : Int32} {x5 : Int32} {x6 : Int32} (hW : Wf m)
    (h1 : (mI m 31 3) ≤ x6 → ¬ x2 = 0 → Q (some (.int x5)) m)
    (h2 : (mI m 31 3) ≤ x6 → x2 = 0 → Q (some (.int x4)) m)
    (h3 : ¬ ((mI m 31 3) ≤ x6) → Cl X 1 mX11_mostAlike [.ref 0, .int x3, .int x6] m (fun v m2 => Go X 7 mX11_look Q 80 [(0, .ref 0), (2, .int x2), (3, .int x3), (4, .int x4), (5, .int x5), (6, .int x6)] (v.toList ++ []) m2)) :
    Go X 7 mX11_look Q 58 [(0, .ref 0), (2, .int x2), (3, .int x3), (4, .int x4), (5, .int x5), (6, .int x6)] [] m := by
  refine g_iload 5 dX11_look_58 rfl ?_
  refine g_aload_n 0 dX11_look_60 rfl rfl ?_
  refine g_getR dX11_look_61 fl11_42 rfl sh0 (w11_5 hW sh0) ?_
  refine g_getR dX11_look_64 fl11_56 rfl sh30 (w10_0 hW sh30) ?_
  refine g_getI dX11_look_67 fl11_121 (s10_0 sh30) ?_
  refine g_icmp_ge 110 dX11_look_70 (by decide) (fun q1 => ?_) (fun q1 => ?_)
  · refine g_iload_n 1 dX11_look_110 rfl rfl ?_
    refine g_if_ne 119 dX11_look_111 (by decide) (fun q2 => ?_) (fun q2 => ?_)
    · refine g_iload 4 dX11_look_119 rfl ?_
      exact g_iret dX11_look_121 rfl enSH (h1 q1 q2)
    · refine g_iload 3 dX11_look_114 rfl ?_
      refine g_goto 121 dX11_look_116 (by decide) ?_
      exact g_iret dX11_look_121 rfl enSH (h2 q1 q2)
  · refine g_aload_n 0 dX11_look_73 rfl rfl ?_
    refine g_iload_n 2 dX11_look_74 rfl rfl ?_
    refine g_iload 5 dX11_look_75 rfl ?_
    exact g_callV (As := [.int x3, .int x6]) (st := []) dX11_look_77 clX11_312 sh0 rfl rfl (Nat.le_of_ble_eq_true rfl) (rmSH (by decide) (by decide)) (h3 q1)
theorem bX11_look_80 {X : pX} {Q : Option Value → pMem → Prop} {m : pMem} {x2 : Int32} {x3 : Int32} {x4 : Int32} {x5 : Int32} {x6 : Int32} {xs0 : Int32} (hW : Wf m)
    (h1 : x4 = (-2 : Int32) → Go X 7 mX11_look Q 58 [(0, .ref 0), (2, .int x2), (3, .int x3), (4, .int x6), (5, .int xs0), (6, .int (x6 + (1 : Int32)))] [] m)
    (h2 : ¬ (x4 = (-2 : Int32)) → x5 ≤ xs0 → Go X 7 mX11_look Q 58 [(0, .ref 0), (2, .int x2), (3, .int x3), (4, .int x4), (5, .int x5), (6, .int (x6 + (1 : Int32)))] [] m)
    (h3 : ¬ (x4 = (-2 : Int32)) → ¬ (x5 ≤ xs0) → Go X 7 mX11_look Q 58 [(0, .ref 0), (2, .int x2), (3, .int x3), (4, .int x6), (5, .int xs0), (6, .int (x6 + (1 : Int32)))] [] m) :
    Go X 7 mX11_look Q 80 [(0, .ref 0), (2, .int x2), (3, .int x3), (4, .int x4), (5, .int x5), (6, .int x6)] [.int xs0] m := by
  refine g_istore (ls2 := [(7, .int xs0), (0, .ref 0), (2, .int x2), (3, .int x3), (4, .int x4), (5, .int x5), (6, .int x6)]) dX11_look_80 (by decide) rfl ?_
  refine g_iload 4 dX11_look_82 rfl ?_
  refine g_bipush (v := -2) dX11_look_84 (by decide) ?_
  refine g_icmp_eq 96 dX11_look_86 (by decide) (fun q1 => ?_) (fun q1 => ?_)
  · refine g_iload 6 dX11_look_96 rfl ?_
    refine g_istore (ls2 := [(4, .int x6), (7, .int xs0), (0, .ref 0), (2, .int x2), (3, .int x3), (5, .int x5), (6, .int x6)]) dX11_look_98 (by decide) rfl ?_
    refine g_iload 1 dX11_look_100 rfl ?_
    refine g_istore (ls2 := [(5, .int xs0), (4, .int x6), (7, .int xs0), (0, .ref 0), (2, .int x2), (3, .int x3), (6, .int x6)]) dX11_look_102 (by decide) rfl ?_
    refine g_iinc (v := x6 + (1 : Int32)) (ls2 := [(6, .int (x6 + (1 : Int32))), (5, .int xs0), (4, .int x6), (7, .int xs0), (0, .ref 0), (2, .int x2), (3, .int x3)]) 6 dX11_look_104 rfl rfl (by decide) rfl ?_
    refine g_goto 58 dX11_look_107 (by decide) ?_
    exact g_ls [4, 5, 6, 2, 1, 0] rfl (h1 q1)
  · refine g_iload 0 dX11_look_89 rfl ?_
    refine g_iload 5 dX11_look_91 rfl ?_
    refine g_icmp_ge 104 dX11_look_93 (by decide) (fun q2 => ?_) (fun q2 => ?_)
    · refine g_iinc (v := x6 + (1 : Int32)) (ls2 := [(6, .int (x6 + (1 : Int32))), (7, .int xs0), (0, .ref 0), (2, .int x2), (3, .int x3), (4, .int x4), (5, .int x5)]) 6 dX11_look_104 rfl rfl (by decide) rfl ?_
      refine g_goto 58 dX11_look_107 (by decide) ?_
      exact g_ls [2, 3, 4, 5, 6, 0] rfl (h2 q1 q2)
    · refine g_iload 6 dX11_look_96 rfl ?_
      refine g_istore (ls2 := [(4, .int x6), (7, .int xs0), (0, .ref 0), (2, .int x2), (3, .int x3), (5, .int x5), (6, .int x6)]) dX11_look_98 (by decide) rfl ?_
      refine g_iload 1 dX11_look_100 rfl ?_
      refine g_istore (ls2 := [(5, .int xs0), (4, .int x6), (7, .int xs0), (0, .ref 0), (2, .int x2), (3, .int x3), (6, .int x6)]) dX11_look_102 (by decide) rfl ?_
      refine g_iinc (v := x6 + (1 : Int32)) (ls2 := [(6, .int (x6 + (1 : Int32))), (5, .int xs0), (4, .int x6), (7, .int xs0), (0, .ref 0), (2, .int x2), (3, .int x3)]) 6 dX11_look_104 rfl rfl (by decide) rfl ?_
      refine g_goto 58 dX11_look_107 (by decide) ?_
      exact g_ls [4, 5, 6, 2, 1, 0] rfl (h3 q1 q2)
theorem bX12_look_0 {X : pX} {Q : Option Value → pMem → Prop} {m : pMem} {x1 : Int32} {x2 : Int32} (hW : Wf m)
    (h1 : mI m 536 0 = (1 : Int32) → ¬ x1 < (0 : Int32) ∧ ¬ (60 : Int32) < x1 → ¬ x2 < (0 : Int32) ∧ ¬ (1 : Int32) < x2 → Cl X 2 mX12_keepsAll [.ref 535] m (fun v m2 => Go X 8 mX12_look Q 35 [(0, .ref 535), (1, .int x1), (2, .int x2)] (v.toList ++ []) m2))
    (h2 : mI m 536 0 = (1 : Int32) → ¬ x1 < (0 : Int32) ∧ ¬ (60 : Int32) < x1 → ¬ (¬ x2 < (0 : Int32) ∧ ¬ (1 : Int32) < x2) → Q (some (.int (-1 : Int32))) m)
    (h3 : mI m 536 0 = (1 : Int32) → ¬ (¬ x1 < (0 : Int32) ∧ ¬ (60 : Int32) < x1) → Q (some (.int (-1 : Int32))) m)
    (h4 : ¬ (mI m 536 0 = (1 : Int32)) → Q (some (.int (-1 : Int32))) m) :
    Go X 8 mX12_look Q 0 [(0, .ref 535), (1, .int x1), (2, .int x2)] [] m := by
  refine g_aload_n 0 dX12_look_0 rfl rfl ?_
  refine g_callV (As := []) (st := []) dX12_look_1 clX12_389 sh535 rfl rfl (Nat.le_of_ble_eq_true rfl) (rmSH (by decide) (by decide)) (s_isRoad hW (fun q1 => ?_) (fun q1 => ?_))
  · refine g_if_eq 29 dX12_look_4 (by decide) (fun q2 => absurd q2 (by decide)) (fun q2 => ?_)
    refine g_iload_n 1 dX12_look_7 rfl rfl ?_
    refine g_i2l dX12_look_8 ?_
    refine g_lconst (v := 0) dX12_look_9 (by decide) ?_
    refine g_ldc2 (v := 60) dX12_look_10 cjX12_431 ?_
    refine g_callS (As := [.long x1.toInt64, .long (0 : Int64), .long (60 : Int64)]) (st := []) dX12_look_13 clX12_128 rfl rfl (Nat.le_of_ble_eq_true rfl) (rmSH (by decide) (by decide)) (s_in (x := x1) (lo := (0 : Int32)) (hi := (60 : Int32)) hW (by first | rfl | decide) (by first | rfl | decide) (by first | rfl | decide) (fun q3 => ?_) (fun q3 => ?_))
    · refine g_if_eq 29 dX12_look_16 (by decide) (fun q4 => absurd q4 (by decide)) (fun q4 => ?_)
      refine g_iload_n 2 dX12_look_19 rfl rfl ?_
      refine g_i2l dX12_look_20 ?_
      refine g_lconst (v := 0) dX12_look_21 (by decide) ?_
      refine g_lconst (v := 1) dX12_look_22 (by decide) ?_
      refine g_callS (As := [.long x2.toInt64, .long (0 : Int64), .long (1 : Int64)]) (st := []) dX12_look_23 clX12_128 rfl rfl (Nat.le_of_ble_eq_true rfl) (rmSH (by decide) (by decide)) (s_in (x := x2) (lo := (0 : Int32)) (hi := (1 : Int32)) hW (by first | rfl | decide) (by first | rfl | decide) (by first | rfl | decide) (fun q5 => ?_) (fun q5 => ?_))
      · refine g_if_ne 31 dX12_look_26 (by decide) (fun q6 => ?_) (fun q6 => absurd q6 (by decide))
        refine g_aload_n 0 dX12_look_31 rfl rfl ?_
        exact g_callV (As := []) (st := []) dX12_look_32 clX12_409 sh535 rfl rfl (Nat.le_of_ble_eq_true rfl) (rmSH (by decide) (by decide)) (h1 q1 q3 q5)
      · refine g_if_ne 31 dX12_look_26 (by decide) (fun q7 => absurd q7 (by decide)) (fun q7 => ?_)
        refine g_iconst (v := -1) dX12_look_29 (by decide) ?_
        exact g_iret dX12_look_30 rfl enSH (h2 q1 q3 q5)
    · refine g_if_eq 29 dX12_look_16 (by decide) (fun q8 => ?_) (fun q8 => absurd q8 (by decide))
      refine g_iconst (v := -1) dX12_look_29 (by decide) ?_
      exact g_iret dX12_look_30 rfl enSH (h3 q1 q3)
  · refine g_if_eq 29 dX12_look_4 (by decide) (fun q9 => ?_) (fun q9 => absurd q9 (by decide))
    refine g_iconst (v := -1) dX12_look_29 (by decide) ?_
    exact g_iret dX12_look_30 rfl enSH (h4 q1)
theorem bX12_look_35 {X : pX} {Q : Option Value → pMem → Prop} {m : pMem} {x1 : Int32} {x2 : Int32} (hW : Wf m)
    (h1 : Go X 8 mX12_look Q 40 [(0, .ref 535), (1, .int x1), (2, .int x2), (3, .int (0 : Int32)), (4, .int (-1 : Int32))] [] m) :
    Go X 8 mX12_look Q 35 [(0, .ref 535), (1, .int x1), (2, .int x2)] [] m := by
  refine g_iconst (v := 0) dX12_look_35 (by decide) ?_
  refine g_istore_n (ls2 := [(3, .int (0 : Int32)), (0, .ref 535), (1, .int x1), (2, .int x2)]) dX12_look_36 rfl (by decide) rfl ?_
  refine g_iconst (v := -1) dX12_look_37 (by decide) ?_
  refine g_istore (ls2 := [(4, .int (-1 : Int32)), (3, .int (0 : Int32)), (0, .ref 535), (1, .int x1), (2, .int x2)]) dX12_look_38 (by decide) rfl ?_
  exact g_ls [2, 3, 4, 1, 0] rfl h1
theorem bX12_look_40 {X : pX} {Q : Option Value → pMem → Prop} {m : pMem} {x1 : Int32} {x2 : Int32} {x3 : Int32} {x4 : Int32} (hW : Wf m)
    (h1 : (mI m 535 23) ≤ x4 → x3 = 0 → Q (some (.int (-2 : Int32))) m)
    (h2 : (mI m 535 23) ≤ x4 → ¬ (x3 = 0) → ¬ (mI m 536 3) = 0 → Go X 8 mX12_look Q 126 [(0, .ref 535), (2, .int x2), (3, .int x3), (4, .int (0 : Int32)), (5, .int (1 : Int32))] [] m)
    (h3 : (mI m 535 23) ≤ x4 → ¬ (x3 = 0) → (mI m 536 3) = 0 → Q (some (.int (-2 : Int32))) m)
    (h4 : ¬ ((mI m 535 23) ≤ x4) → Cl X 7 mX12_couldRule [.ref 535, .int x4] m (fun v m2 => Go X 8 mX12_look Q 55 [(0, .ref 535), (1, .int x1), (2, .int x2), (3, .int x3), (4, .int x4)] (v.toList ++ []) m2)) :
    Go X 8 mX12_look Q 40 [(0, .ref 535), (1, .int x1), (2, .int x2), (3, .int x3), (4, .int x4)] [] m := by
  refine g_iload 4 dX12_look_40 rfl ?_
  refine g_aload_n 0 dX12_look_42 rfl rfl ?_
  refine g_getI dX12_look_43 fl12_312 sh535 ?_
  refine g_icmp_ge 104 dX12_look_46 (by decide) (fun q1 => ?_) (fun q1 => ?_)
  · refine g_iload_n 3 dX12_look_104 rfl rfl ?_
    refine g_if_eq 117 dX12_look_105 (by decide) (fun q2 => ?_) (fun q2 => ?_)
    · refine g_bipush (v := -2) dX12_look_117 (by decide) ?_
      exact g_iret dX12_look_119 rfl enSH (h1 q1 q2)
    · refine g_aload_n 0 dX12_look_108 rfl rfl ?_
      refine g_getR dX12_look_109 fl12_9 rfl sh535 (w12_1 hW sh535) ?_
      refine g_iconst (v := 3) dX12_look_112 (by decide) ?_
      refine g_iald (j := 3) dX12_look_113 (s12_1 sh535) (by unfold vp_in; decide) (by decide) ?_
      refine g_if_ne 120 dX12_look_114 (by decide) (fun q3 => ?_) (fun q3 => ?_)
      · refine g_iconst (v := 0) dX12_look_120 (by decide) ?_
        refine g_istore (ls2 := [(4, .int (0 : Int32)), (0, .ref 535), (1, .int x1), (2, .int x2), (3, .int x3)]) dX12_look_121 (by decide) rfl ?_
        refine g_iconst (v := 1) dX12_look_123 (by decide) ?_
        refine g_istore (ls2 := [(5, .int (1 : Int32)), (4, .int (0 : Int32)), (0, .ref 535), (1, .int x1), (2, .int x2), (3, .int x3)]) dX12_look_124 (by decide) rfl ?_
        exact g_ls [2, 4, 5, 1, 0] rfl (h2 q1 q2 q3)
      · refine g_bipush (v := -2) dX12_look_117 (by decide) ?_
        exact g_iret dX12_look_119 rfl enSH (h3 q1 q2 q3)
  · refine g_aload_n 0 dX12_look_49 rfl rfl ?_
    refine g_iload 4 dX12_look_50 rfl ?_
    exact g_callV (As := [.int x4]) (st := []) dX12_look_52 clX12_463 sh535 rfl rfl (Nat.le_of_ble_eq_true rfl) (rmSH (by decide) (by decide)) (h4 q1)
theorem bX12_look_126 {X : pX} {Q : Option Value → pMem → Prop} {m : pMem} {x2 : Int32} {x3 : Int32} {x4 : Int32} {x5 : Int32} (hW : Wf m)
    (h1 : (mI m 536 3) ≤ x5 → ¬ x2 = 0 → Cl X 0 mX12_mostAlike [.ref 535, .int x4, .int x3] m (fun v m2 => Go X 8 mX12_look Q 185 [(0, .ref 535), (2, .int x2), (3, .int x3), (4, .int x4), (5, .int x5)] (v.toList ++ []) m2))
    (h2 : (mI m 536 3) ≤ x5 → x2 = 0 → Q (some (.int x4)) m)
    (h3 : ¬ ((mI m 536 3) ≤ x5) → Cl X 0 mX12_mostAlike [.ref 535, .int x5, .int x3] m (fun v m2 => Go X 8 mX12_look Q 144 [(0, .ref 535), (2, .int x2), (3, .int x3), (4, .int x4), (5, .int x5)] (v.toList ++ []) m2)) :
    Go X 8 mX12_look Q 126 [(0, .ref 535), (2, .int x2), (3, .int x3), (4, .int x4), (5, .int x5)] [] m := by
  refine g_iload 4 dX12_look_126 rfl ?_
  refine g_aload_n 0 dX12_look_128 rfl rfl ?_
  refine g_getR dX12_look_129 fl12_9 rfl sh535 (w12_1 hW sh535) ?_
  refine g_iconst (v := 3) dX12_look_132 (by decide) ?_
  refine g_iald (j := 3) dX12_look_133 (s12_1 sh535) (by unfold vp_in; decide) (by decide) ?_
  refine g_icmp_ge 169 dX12_look_134 (by decide) (fun q1 => ?_) (fun q1 => ?_)
  · refine g_iload_n 1 dX12_look_169 rfl rfl ?_
    refine g_if_ne 178 dX12_look_170 (by decide) (fun q2 => ?_) (fun q2 => ?_)
    · refine g_aload_n 0 dX12_look_178 rfl rfl ?_
      refine g_iload 3 dX12_look_179 rfl ?_
      refine g_iload_n 2 dX12_look_181 rfl rfl ?_
      exact g_callV (As := [.int x4, .int x3]) (st := []) dX12_look_182 clX12_466 sh535 rfl rfl (Nat.le_of_ble_eq_true rfl) (rmSH (by decide) (by decide)) (h1 q1 q2)
    · refine g_iload 3 dX12_look_173 rfl ?_
      refine g_goto 185 dX12_look_175 (by decide) ?_
      exact g_iret dX12_look_185 rfl enSH (h2 q1 q2)
  · refine g_aload_n 0 dX12_look_137 rfl rfl ?_
    refine g_iload 4 dX12_look_138 rfl ?_
    refine g_iload_n 2 dX12_look_140 rfl rfl ?_
    exact g_callV (As := [.int x5, .int x3]) (st := []) dX12_look_141 clX12_466 sh535 rfl rfl (Nat.le_of_ble_eq_true rfl) (rmSH (by decide) (by decide)) (h3 q1)
theorem bX12_look_55 {X : pX} {Q : Option Value → pMem → Prop} {m : pMem} {x1 : Int32} {x2 : Int32} {x3 : Int32} {x4 : Int32} {xs0 : Int32} (hW : Wf m)
    (h1 : xs0 = 0 → Go X 8 mX12_look Q 40 [(0, .ref 535), (1, .int x1), (2, .int x2), (3, .int x3), (4, .int (x4 + (1 : Int32)))] [] m)
    (h2 : ¬ (xs0 = 0) → Go X 8 mX12_look Q 61 [(0, .ref 535), (1, .int x1), (2, .int x2), (3, .int x3), (4, .int x4), (5, .int (0 : Int32))] [] m) :
    Go X 8 mX12_look Q 55 [(0, .ref 535), (1, .int x1), (2, .int x2), (3, .int x3), (4, .int x4)] [.int xs0] m := by
  refine g_if_eq 98 dX12_look_55 (by decide) (fun q1 => ?_) (fun q1 => ?_)
  · refine g_iinc (v := x4 + (1 : Int32)) (ls2 := [(4, .int (x4 + (1 : Int32))), (0, .ref 535), (1, .int x1), (2, .int x2), (3, .int x3)]) 4 dX12_look_98 rfl rfl (by decide) rfl ?_
    refine g_goto 40 dX12_look_101 (by decide) ?_
    exact g_ls [1, 2, 3, 4, 0] rfl (h1 q1)
  · refine g_iconst (v := 0) dX12_look_58 (by decide) ?_
    refine g_istore (ls2 := [(5, .int (0 : Int32)), (0, .ref 535), (1, .int x1), (2, .int x2), (3, .int x3), (4, .int x4)]) dX12_look_59 (by decide) rfl ?_
    exact g_ls [1, 2, 3, 4, 5, 0] rfl (h2 q1)
theorem bX12_look_185 {X : pX} {Q : Option Value → pMem → Prop} {m : pMem} {x2 : Int32} {x3 : Int32} {x4 : Int32} {x5 : Int32} {xs0 : Int32} (hW : Wf m)
    (h1 : Q (some (.int xs0)) m) :
    Go X 8 mX12_look Q 185 [(0, .ref 535), (2, .int x2), (3, .int x3), (4, .int x4), (5, .int x5)] [.int xs0] m := by
  exact g_iret dX12_look_185 rfl enSH h1
theorem bX12_look_144 {X : pX} {Q : Option Value → pMem → Prop} {m : pMem} {x2 : Int32} {x3 : Int32} {x4 : Int32} {x5 : Int32} {xs0 : Int32} (hW : Wf m)
    (h1 : Cl X 0 mX12_mostAlike [.ref 535, .int x4, .int x3] m (fun v m2 => Go X 8 mX12_look Q 151 [(0, .ref 535), (2, .int x2), (3, .int x3), (4, .int x4), (5, .int x5)] (v.toList ++ [.int xs0]) m2)) :
    Go X 8 mX12_look Q 144 [(0, .ref 535), (2, .int x2), (3, .int x3), (4, .int x4), (5, .int x5)] [.int xs0] m := by
  refine g_aload_n 0 dX12_look_144 rfl rfl ?_
  refine g_iload 3 dX12_look_145 rfl ?_
  refine g_iload_n 2 dX12_look_147 rfl rfl ?_
  exact g_callV (As := [.int x4, .int x3]) (st := [.int xs0]) dX12_look_148 clX12_466 sh535 rfl rfl (Nat.le_of_ble_eq_true rfl) (rmSH (by decide) (by decide)) h1
theorem bX12_look_61 {X : pX} {Q : Option Value → pMem → Prop} {m : pMem} {x1 : Int32} {x2 : Int32} {x3 : Int32} {x4 : Int32} {x5 : Int32} (hW : Wf m)
    (h1 : (4 : Int32) ≤ x5 → Go X 8 mX12_look Q 40 [(0, .ref 535), (1, .int x1), (2, .int x2), (3, .int (x3 + (1 : Int32))), (4, .int (x4 + (1 : Int32)))] [] m)
    (h2 : ¬ ((4 : Int32) ≤ x5) → vp_in (((4 : Int32) * x1) + x5) 244)
    (h3 : ¬ ((4 : Int32) ≤ x5) → vp_in (((4 : Int32) * x3) + x5) 28)
    (h4 : ¬ ((4 : Int32) ≤ x5) → Go X 8 mX12_look Q 61 [(0, .ref 535), (1, .int x1), (2, .int x2), (3, .int x3), (4, .int x4), (5, .int (x5 + (1 : Int32)))] [] (uI m 569 ((((4 : Int32) * x3) + x5).toNatClampNeg) (mI m 568 ((((4 : Int32) * x1) + x5).toNatClampNeg)))) :
    Go X 8 mX12_look Q 61 [(0, .ref 535), (1, .int x1), (2, .int x2), (3, .int x3), (4, .int x4), (5, .int x5)] [] m := by
  refine g_iload 5 dX12_look_61 rfl ?_
  refine g_iconst (v := 4) dX12_look_63 (by decide) ?_
  refine g_icmp_ge 95 dX12_look_64 (by decide) (fun q1 => ?_) (fun q1 => ?_)
  · refine g_iinc (v := x3 + (1 : Int32)) (ls2 := [(3, .int (x3 + (1 : Int32))), (0, .ref 535), (1, .int x1), (2, .int x2), (4, .int x4), (5, .int x5)]) 3 dX12_look_95 rfl rfl (by decide) rfl ?_
    refine g_iinc (v := x4 + (1 : Int32)) (ls2 := [(4, .int (x4 + (1 : Int32))), (3, .int (x3 + (1 : Int32))), (0, .ref 535), (1, .int x1), (2, .int x2), (5, .int x5)]) 4 dX12_look_98 rfl rfl (by decide) rfl ?_
    refine g_goto 40 dX12_look_101 (by decide) ?_
    exact g_ls [2, 3, 4, 1, 0] rfl (h1 q1)
  · refine g_aload_n 0 dX12_look_67 rfl rfl ?_
    refine g_getR dX12_look_68 fl12_115 rfl sh535 (w12_51 hW sh535) ?_
    refine g_iconst (v := 4) dX12_look_71 (by decide) ?_
    refine g_iload_n 3 dX12_look_72 rfl rfl ?_
    refine g_imul dX12_look_73 ?_
    refine g_iload 5 dX12_look_74 rfl ?_
    refine g_iadd dX12_look_76 ?_
    refine g_aload_n 0 dX12_look_77 rfl rfl ?_
    refine g_getR dX12_look_78 fl12_112 rfl sh535 (w12_50 hW sh535) ?_
    refine g_iconst (v := 4) dX12_look_81 (by decide) ?_
    refine g_iload_n 1 dX12_look_82 rfl rfl ?_
    refine g_imul dX12_look_83 ?_
    refine g_iload 5 dX12_look_84 rfl ?_
    refine g_iadd dX12_look_86 ?_
    refine g_iald (j := (((4 : Int32) * x1) + x5).toNatClampNeg) dX12_look_87 (s12_50 sh535) (h2 q1) rfl ?_
    refine g_iast (j := (((4 : Int32) * x3) + x5).toNatClampNeg) dX12_look_88 (s12_51 sh535) (h3 q1) rfl ?_
    refine g_iinc (v := x5 + (1 : Int32)) (ls2 := [(5, .int (x5 + (1 : Int32))), (0, .ref 535), (1, .int x1), (2, .int x2), (3, .int x3), (4, .int x4)]) 5 dX12_look_89 rfl rfl (by decide) rfl ?_
    refine g_goto 61 dX12_look_92 (by decide) ?_
    exact g_ls [1, 2, 3, 4, 5, 0] rfl (h4 q1)
theorem bX12_look_151 {X : pX} {Q : Option Value → pMem → Prop} {m : pMem} {x2 : Int32} {x3 : Int32} {x4 : Int32} {x5 : Int32} {xs0 : Int32} {xs1 : Int32} (hW : Wf m)
    (h1 : xs0 ≤ xs1 → Go X 8 mX12_look Q 126 [(0, .ref 535), (2, .int x2), (3, .int x3), (4, .int x4), (5, .int (x5 + (1 : Int32)))] [] m)
    (h2 : ¬ (xs0 ≤ xs1) → Go X 8 mX12_look Q 126 [(0, .ref 535), (2, .int x2), (3, .int x3), (4, .int x5), (5, .int (x5 + (1 : Int32)))] [] m) :
    Go X 8 mX12_look Q 151 [(0, .ref 535), (2, .int x2), (3, .int x3), (4, .int x4), (5, .int x5)] [.int xs0, .int xs1] m := by
  refine g_icmp_ge 159 dX12_look_151 (by decide) (fun q1 => ?_) (fun q1 => ?_)
  · refine g_iload 3 dX12_look_159 rfl ?_
    refine g_istore (ls2 := [(4, .int x4), (0, .ref 535), (2, .int x2), (3, .int x3), (5, .int x5)]) dX12_look_161 (by decide) rfl ?_
    refine g_iinc (v := x5 + (1 : Int32)) (ls2 := [(5, .int (x5 + (1 : Int32))), (4, .int x4), (0, .ref 535), (2, .int x2), (3, .int x3)]) 4 dX12_look_163 rfl rfl (by decide) rfl ?_
    refine g_goto 126 dX12_look_166 (by decide) ?_
    exact g_ls [2, 3, 4, 1, 0] rfl (h1 q1)
  · refine g_iload 4 dX12_look_154 rfl ?_
    refine g_goto 161 dX12_look_156 (by decide) ?_
    refine g_istore (ls2 := [(4, .int x5), (0, .ref 535), (2, .int x2), (3, .int x3), (5, .int x5)]) dX12_look_161 (by decide) rfl ?_
    refine g_iinc (v := x5 + (1 : Int32)) (ls2 := [(5, .int (x5 + (1 : Int32))), (4, .int x5), (0, .ref 535), (2, .int x2), (3, .int x3)]) 4 dX12_look_163 rfl rfl (by decide) rfl ?_
    refine g_goto 126 dX12_look_166 (by decide) ?_
    exact g_ls [2, 3, 4, 1, 0] rfl (h2 q1)
