theorem bX0_oneDayS37_0 {X : pX} {Q : Option Value → pMem → Prop} {m : pMem} {a2 : Nat} (hW : Wf m) (c2 : SH[a2]? = some (.inl 6))
    (h1 : Go X 4 mX0_oneDay Q 5 [(0, .ref 512), (1, .ref 37), (2, .ref a2), (3, .int (0 : Int32)), (4, .int (0 : Int32))] [] m) :
    Go X 4 mX0_oneDay Q 0 [(0, .ref 512), (1, .ref 37), (2, .ref a2)] [] m := by
  refine g_iconst (v := 0) dX0_oneDay_0 (by decide) ?_
  refine g_istore_n (ls2 := [(3, .int (0 : Int32)), (0, .ref 512), (1, .ref 37), (2, .ref a2)]) dX0_oneDay_1 rfl (by decide) rfl ?_
  refine g_iconst (v := 0) dX0_oneDay_2 (by decide) ?_
  refine g_istore (ls2 := [(4, .int (0 : Int32)), (3, .int (0 : Int32)), (0, .ref 512), (1, .ref 37), (2, .ref a2)]) dX0_oneDay_3 (by decide) rfl ?_
  exact g_ls [2, 3, 4, 1, 0] rfl h1
theorem bX0_oneDayS37_5 {X : pX} {Q : Option Value → pMem → Prop} {m : pMem} {a2 : Nat} {x3 : Int32} {x4 : Int32} (hW : Wf m) (c2 : SH[a2]? = some (.inl 6))
    (h1 : (mI m 31 3) ≤ x4 → Q (some (.int x3)) (uI m 37 0 ((mI m 37 0) + (1 : Int32))))
    (h2 : ¬ ((mI m 31 3) ≤ x4) → vp_in x4 4)
    (h3 : ¬ ((mI m 31 3) ≤ x4) → (mI m 31 2) ≤ (mI m 38 x4.toNatClampNeg) → Go X 4 mX0_oneDay Q 5 [(0, .ref 512), (1, .ref 37), (2, .ref a2), (3, .int x3), (4, .int (x4 + (1 : Int32)))] [] m)
    (h4 : ¬ ((mI m 31 3) ≤ x4) → ¬ ((mI m 31 2) ≤ (mI m 38 x4.toNatClampNeg)) → vp_in x4 4)
    (h5 : ¬ ((mI m 31 3) ≤ x4) → ¬ ((mI m 31 2) ≤ (mI m 38 x4.toNatClampNeg)) → ¬ (mI m 39 x4.toNatClampNeg) = 0 → Cl X 2 mX0_walk [.ref 512, .ref 37, .int x4] m (fun v m2 => Go X 4 mX0_oneDay Q 63 [(0, .ref 512), (1, .ref 37), (2, .ref a2), (3, .int x3), (4, .int x4)] (v.toList ++ []) m2))
    (h6 : ¬ ((mI m 31 3) ≤ x4) → ¬ ((mI m 31 2) ≤ (mI m 38 x4.toNatClampNeg)) → (mI m 39 x4.toNatClampNeg) = 0 → Cl X 3 mX0_carryByRule [.ref 512, .ref 37, .ref a2, .int x4] m (fun v m2 => Go X 4 mX0_oneDay Q 56 [(0, .ref 512), (1, .ref 37), (2, .ref a2), (3, .int x3), (4, .int x4)] (v.toList ++ []) m2)) :
    Go X 4 mX0_oneDay Q 5 [(0, .ref 512), (1, .ref 37), (2, .ref a2), (3, .int x3), (4, .int x4)] [] m := by
  refine g_iload 4 dX0_oneDay_5 rfl ?_
  refine g_aload_n 0 dX0_oneDay_7 rfl rfl ?_
  refine g_getR dX0_oneDay_8 fl0_17 rfl sh512 (w0_0 hW sh512) ?_
  refine g_getI dX0_oneDay_11 fl0_25 sh31 ?_
  refine g_icmp_ge 79 dX0_oneDay_14 (by decide) (fun q1 => ?_) (fun q1 => ?_)
  · refine g_aload_n 1 dX0_oneDay_79 rfl rfl ?_
    refine g_dup dX0_oneDay_80 rfl ?_
    refine g_getI dX0_oneDay_81 fl0_50 sh37 ?_
    refine g_iconst (v := 1) dX0_oneDay_84 (by decide) ?_
    refine g_iadd dX0_oneDay_85 ?_
    refine g_putI dX0_oneDay_86 fl0_50 (fun h => by cases h) sh37 ?_
    refine g_iload_n 3 dX0_oneDay_89 rfl rfl ?_
    exact g_iret dX0_oneDay_90 rfl enSH (h1 q1)
  · refine g_aload_n 1 dX0_oneDay_17 rfl rfl ?_
    refine g_getR dX0_oneDay_18 fl0_31 rfl sh37 (w8_1 hW sh37) ?_
    refine g_iload 4 dX0_oneDay_21 rfl ?_
    refine g_iald (j := x4.toNatClampNeg) dX0_oneDay_23 (s8_1 sh37) (h2 q1) rfl ?_
    refine g_aload_n 0 dX0_oneDay_24 rfl rfl ?_
    refine g_getR dX0_oneDay_25 fl0_17 rfl sh512 (w0_0 hW sh512) ?_
    refine g_getI dX0_oneDay_28 fl0_36 sh31 ?_
    refine g_icmp_ge 73 dX0_oneDay_31 (by decide) (fun q2 => ?_) (fun q2 => ?_)
    · refine g_iinc (v := x4 + (1 : Int32)) (ls2 := [(4, .int (x4 + (1 : Int32))), (0, .ref 512), (1, .ref 37), (2, .ref a2), (3, .int x3)]) 4 dX0_oneDay_73 rfl rfl (by decide) rfl ?_
      refine g_goto 5 dX0_oneDay_76 (by decide) ?_
      exact g_ls [1, 2, 3, 4, 0] rfl (h3 q1 q2)
    · refine g_aload_n 2 dX0_oneDay_34 rfl rfl ?_
      refine g_ifnull dX0_oneDay_35 ?_
      refine g_aload_n 1 dX0_oneDay_38 rfl rfl ?_
      refine g_getR dX0_oneDay_39 fl0_39 rfl sh37 (w8_2 hW sh37) ?_
      refine g_iload 4 dX0_oneDay_42 rfl ?_
      refine g_iald (j := x4.toNatClampNeg) dX0_oneDay_44 (s8_2 sh37) (h4 q1 q2) rfl ?_
      refine g_if_ne 56 dX0_oneDay_45 (by decide) (fun q3 => ?_) (fun q3 => ?_)
      · refine g_aload_n 0 dX0_oneDay_56 rfl rfl ?_
        refine g_aload_n 1 dX0_oneDay_57 rfl rfl ?_
        refine g_iload 4 dX0_oneDay_58 rfl ?_
        exact g_callV (As := [.ref 37, .int x4]) (st := []) dX0_oneDay_60 clX0_46 sh512 rfl rfl (Nat.le_of_ble_eq_true rfl) (rmSH (by decide) (by decide)) (h5 q1 q2 q3)
      · refine g_aload_n 0 dX0_oneDay_48 rfl rfl ?_
        refine g_aload_n 1 dX0_oneDay_49 rfl rfl ?_
        refine g_aload_n 2 dX0_oneDay_50 rfl rfl ?_
        refine g_iload 4 dX0_oneDay_51 rfl ?_
        exact g_callV (As := [.ref 37, .ref a2, .int x4]) (st := []) dX0_oneDay_53 clX0_42 sh512 rfl rfl (Nat.le_of_ble_eq_true rfl) (rmSH (by decide) (by decide)) (h6 q1 q2 q3)
theorem bX0_oneDayS37_63 {X : pX} {Q : Option Value → pMem → Prop} {m : pMem} {a2 : Nat} {x3 : Int32} {x4 : Int32} {xs0 : Int32} (hW : Wf m) (c2 : SH[a2]? = some (.inl 6))
    (h1 : xs0 = 0 → Go X 4 mX0_oneDay Q 5 [(0, .ref 512), (1, .ref 37), (2, .ref a2), (3, .int x3), (4, .int (x4 + (1 : Int32)))] [] m)
    (h2 : ¬ (xs0 = 0) → Go X 4 mX0_oneDay Q 5 [(0, .ref 512), (1, .ref 37), (2, .ref a2), (3, .int (x3 ||| ((1 : Int32) <<< (x4 &&& 31)))), (4, .int (x4 + (1 : Int32)))] [] m) :
    Go X 4 mX0_oneDay Q 63 [(0, .ref 512), (1, .ref 37), (2, .ref a2), (3, .int x3), (4, .int x4)] [.int xs0] m := by
  refine g_if_eq 73 dX0_oneDay_63 (by decide) (fun q1 => ?_) (fun q1 => ?_)
  · refine g_iinc (v := x4 + (1 : Int32)) (ls2 := [(4, .int (x4 + (1 : Int32))), (0, .ref 512), (1, .ref 37), (2, .ref a2), (3, .int x3)]) 4 dX0_oneDay_73 rfl rfl (by decide) rfl ?_
    refine g_goto 5 dX0_oneDay_76 (by decide) ?_
    exact g_ls [1, 2, 3, 4, 0] rfl (h1 q1)
  · refine g_iload_n 3 dX0_oneDay_66 rfl rfl ?_
    refine g_iconst (v := 1) dX0_oneDay_67 (by decide) ?_
    refine g_iload 4 dX0_oneDay_68 rfl ?_
    refine g_ishl dX0_oneDay_70 ?_
    refine g_ior dX0_oneDay_71 ?_
    refine g_istore_n (ls2 := [(3, .int (x3 ||| ((1 : Int32) <<< (x4 &&& 31)))), (0, .ref 512), (1, .ref 37), (2, .ref a2), (4, .int x4)]) dX0_oneDay_72 rfl (by decide) rfl ?_
    refine g_iinc (v := x4 + (1 : Int32)) (ls2 := [(4, .int (x4 + (1 : Int32))), (3, .int (x3 ||| ((1 : Int32) <<< (x4 &&& 31)))), (0, .ref 512), (1, .ref 37), (2, .ref a2)]) 4 dX0_oneDay_73 rfl rfl (by decide) rfl ?_
    refine g_goto 5 dX0_oneDay_76 (by decide) ?_
    exact g_ls [2, 3, 4, 1, 0] rfl (h2 q1)
theorem bX0_oneDayS37_56 {X : pX} {Q : Option Value → pMem → Prop} {m : pMem} {a2 : Nat} {x3 : Int32} {x4 : Int32} (hW : Wf m) (c2 : SH[a2]? = some (.inl 6))
    (h1 : Cl X 2 mX0_walk [.ref 512, .ref 37, .int x4] m (fun v m2 => Go X 4 mX0_oneDay Q 63 [(0, .ref 512), (1, .ref 37), (2, .ref a2), (3, .int x3), (4, .int x4)] (v.toList ++ []) m2)) :
    Go X 4 mX0_oneDay Q 56 [(0, .ref 512), (1, .ref 37), (2, .ref a2), (3, .int x3), (4, .int x4)] [] m := by
  refine g_aload_n 0 dX0_oneDay_56 rfl rfl ?_
  refine g_aload_n 1 dX0_oneDay_57 rfl rfl ?_
  refine g_iload 4 dX0_oneDay_58 rfl ?_
  exact g_callV (As := [.ref 37, .int x4]) (st := []) dX0_oneDay_60 clX0_46 sh512 rfl rfl (Nat.le_of_ble_eq_true rfl) (rmSH (by decide) (by decide)) h1
theorem bX0_oneDayNS37_0 {X : pX} {Q : Option Value → pMem → Prop} {m : pMem} (hW : Wf m)
    (h1 : Go X 4 mX0_oneDay Q 5 [(0, .ref 512), (1, .ref 37), (2, .null), (3, .int (0 : Int32)), (4, .int (0 : Int32))] [] m) :
    Go X 4 mX0_oneDay Q 0 [(0, .ref 512), (1, .ref 37), (2, .null)] [] m := by
  refine g_iconst (v := 0) dX0_oneDay_0 (by decide) ?_
  refine g_istore_n (ls2 := [(3, .int (0 : Int32)), (0, .ref 512), (1, .ref 37), (2, .null)]) dX0_oneDay_1 rfl (by decide) rfl ?_
  refine g_iconst (v := 0) dX0_oneDay_2 (by decide) ?_
  refine g_istore (ls2 := [(4, .int (0 : Int32)), (3, .int (0 : Int32)), (0, .ref 512), (1, .ref 37), (2, .null)]) dX0_oneDay_3 (by decide) rfl ?_
  exact g_ls [2, 3, 4, 1, 0] rfl h1
theorem bX0_oneDayNS37_5 {X : pX} {Q : Option Value → pMem → Prop} {m : pMem} {x3 : Int32} {x4 : Int32} (hW : Wf m)
    (h1 : (mI m 31 3) ≤ x4 → Q (some (.int x3)) (uI m 37 0 ((mI m 37 0) + (1 : Int32))))
    (h2 : ¬ ((mI m 31 3) ≤ x4) → vp_in x4 4)
    (h3 : ¬ ((mI m 31 3) ≤ x4) → (mI m 31 2) ≤ (mI m 38 x4.toNatClampNeg) → Go X 4 mX0_oneDay Q 5 [(0, .ref 512), (1, .ref 37), (2, .null), (3, .int x3), (4, .int (x4 + (1 : Int32)))] [] m)
    (h4 : ¬ ((mI m 31 3) ≤ x4) → ¬ ((mI m 31 2) ≤ (mI m 38 x4.toNatClampNeg)) → Cl X 2 mX0_walk [.ref 512, .ref 37, .int x4] m (fun v m2 => Go X 4 mX0_oneDay Q 63 [(0, .ref 512), (1, .ref 37), (2, .null), (3, .int x3), (4, .int x4)] (v.toList ++ []) m2)) :
    Go X 4 mX0_oneDay Q 5 [(0, .ref 512), (1, .ref 37), (2, .null), (3, .int x3), (4, .int x4)] [] m := by
  refine g_iload 4 dX0_oneDay_5 rfl ?_
  refine g_aload_n 0 dX0_oneDay_7 rfl rfl ?_
  refine g_getR dX0_oneDay_8 fl0_17 rfl sh512 (w0_0 hW sh512) ?_
  refine g_getI dX0_oneDay_11 fl0_25 sh31 ?_
  refine g_icmp_ge 79 dX0_oneDay_14 (by decide) (fun q1 => ?_) (fun q1 => ?_)
  · refine g_aload_n 1 dX0_oneDay_79 rfl rfl ?_
    refine g_dup dX0_oneDay_80 rfl ?_
    refine g_getI dX0_oneDay_81 fl0_50 sh37 ?_
    refine g_iconst (v := 1) dX0_oneDay_84 (by decide) ?_
    refine g_iadd dX0_oneDay_85 ?_
    refine g_putI dX0_oneDay_86 fl0_50 (fun h => by cases h) sh37 ?_
    refine g_iload_n 3 dX0_oneDay_89 rfl rfl ?_
    exact g_iret dX0_oneDay_90 rfl enSH (h1 q1)
  · refine g_aload_n 1 dX0_oneDay_17 rfl rfl ?_
    refine g_getR dX0_oneDay_18 fl0_31 rfl sh37 (w8_1 hW sh37) ?_
    refine g_iload 4 dX0_oneDay_21 rfl ?_
    refine g_iald (j := x4.toNatClampNeg) dX0_oneDay_23 (s8_1 sh37) (h2 q1) rfl ?_
    refine g_aload_n 0 dX0_oneDay_24 rfl rfl ?_
    refine g_getR dX0_oneDay_25 fl0_17 rfl sh512 (w0_0 hW sh512) ?_
    refine g_getI dX0_oneDay_28 fl0_36 sh31 ?_
    refine g_icmp_ge 73 dX0_oneDay_31 (by decide) (fun q2 => ?_) (fun q2 => ?_)
    · refine g_iinc (v := x4 + (1 : Int32)) (ls2 := [(4, .int (x4 + (1 : Int32))), (0, .ref 512), (1, .ref 37), (2, .null), (3, .int x3)]) 4 dX0_oneDay_73 rfl rfl (by decide) rfl ?_
      refine g_goto 5 dX0_oneDay_76 (by decide) ?_
      exact g_ls [1, 2, 3, 4, 0] rfl (h3 q1 q2)
    · refine g_aload_nN 2 dX0_oneDay_34 rfl rfl ?_
      refine g_ifnullN 56 dX0_oneDay_35 (by decide) ?_
      refine g_aload_n 0 dX0_oneDay_56 rfl rfl ?_
      refine g_aload_n 1 dX0_oneDay_57 rfl rfl ?_
      refine g_iload 4 dX0_oneDay_58 rfl ?_
      exact g_callV (As := [.ref 37, .int x4]) (st := []) dX0_oneDay_60 clX0_46 sh512 rfl rfl (Nat.le_of_ble_eq_true rfl) (rmSH (by decide) (by decide)) (h4 q1 q2)
theorem bX0_oneDayNS37_63 {X : pX} {Q : Option Value → pMem → Prop} {m : pMem} {x3 : Int32} {x4 : Int32} {xs0 : Int32} (hW : Wf m)
    (h1 : xs0 = 0 → Go X 4 mX0_oneDay Q 5 [(0, .ref 512), (1, .ref 37), (2, .null), (3, .int x3), (4, .int (x4 + (1 : Int32)))] [] m)
    (h2 : ¬ (xs0 = 0) → Go X 4 mX0_oneDay Q 5 [(0, .ref 512), (1, .ref 37), (2, .null), (3, .int (x3 ||| ((1 : Int32) <<< (x4 &&& 31)))), (4, .int (x4 + (1 : Int32)))] [] m) :
    Go X 4 mX0_oneDay Q 63 [(0, .ref 512), (1, .ref 37), (2, .null), (3, .int x3), (4, .int x4)] [.int xs0] m := by
  refine g_if_eq 73 dX0_oneDay_63 (by decide) (fun q1 => ?_) (fun q1 => ?_)
  · refine g_iinc (v := x4 + (1 : Int32)) (ls2 := [(4, .int (x4 + (1 : Int32))), (0, .ref 512), (1, .ref 37), (2, .null), (3, .int x3)]) 4 dX0_oneDay_73 rfl rfl (by decide) rfl ?_
    refine g_goto 5 dX0_oneDay_76 (by decide) ?_
    exact g_ls [1, 2, 3, 4, 0] rfl (h1 q1)
  · refine g_iload_n 3 dX0_oneDay_66 rfl rfl ?_
    refine g_iconst (v := 1) dX0_oneDay_67 (by decide) ?_
    refine g_iload 4 dX0_oneDay_68 rfl ?_
    refine g_ishl dX0_oneDay_70 ?_
    refine g_ior dX0_oneDay_71 ?_
    refine g_istore_n (ls2 := [(3, .int (x3 ||| ((1 : Int32) <<< (x4 &&& 31)))), (0, .ref 512), (1, .ref 37), (2, .null), (4, .int x4)]) dX0_oneDay_72 rfl (by decide) rfl ?_
    refine g_iinc (v := x4 + (1 : Int32)) (ls2 := [(4, .int (x4 + (1 : Int32))), (3, .int (x3 ||| ((1 : Int32) <<< (x4 &&& 31)))), (0, .ref 512), (1, .ref 37), (2, .null)]) 4 dX0_oneDay_73 rfl rfl (by decide) rfl ?_
    refine g_goto 5 dX0_oneDay_76 (by decide) ?_
    exact g_ls [2, 3, 4, 1, 0] rfl (h2 q1)
theorem bX0_oneDayS523_0 {X : pX} {Q : Option Value → pMem → Prop} {m : pMem} {a2 : Nat} (hW : Wf m) (c2 : SH[a2]? = some (.inl 6))
    (h1 : Go X 4 mX0_oneDay Q 5 [(0, .ref 512), (1, .ref 523), (2, .ref a2), (3, .int (0 : Int32)), (4, .int (0 : Int32))] [] m) :
    Go X 4 mX0_oneDay Q 0 [(0, .ref 512), (1, .ref 523), (2, .ref a2)] [] m := by
  refine g_iconst (v := 0) dX0_oneDay_0 (by decide) ?_
  refine g_istore_n (ls2 := [(3, .int (0 : Int32)), (0, .ref 512), (1, .ref 523), (2, .ref a2)]) dX0_oneDay_1 rfl (by decide) rfl ?_
  refine g_iconst (v := 0) dX0_oneDay_2 (by decide) ?_
  refine g_istore (ls2 := [(4, .int (0 : Int32)), (3, .int (0 : Int32)), (0, .ref 512), (1, .ref 523), (2, .ref a2)]) dX0_oneDay_3 (by decide) rfl ?_
  exact g_ls [2, 3, 4, 1, 0] rfl h1
theorem bX0_oneDayS523_5 {X : pX} {Q : Option Value → pMem → Prop} {m : pMem} {a2 : Nat} {x3 : Int32} {x4 : Int32} (hW : Wf m) (c2 : SH[a2]? = some (.inl 6))
    (h1 : (mI m 31 3) ≤ x4 → Q (some (.int x3)) (uI m 523 0 ((mI m 523 0) + (1 : Int32))))
    (h2 : ¬ ((mI m 31 3) ≤ x4) → vp_in x4 4)
    (h3 : ¬ ((mI m 31 3) ≤ x4) → (mI m 31 2) ≤ (mI m 524 x4.toNatClampNeg) → Go X 4 mX0_oneDay Q 5 [(0, .ref 512), (1, .ref 523), (2, .ref a2), (3, .int x3), (4, .int (x4 + (1 : Int32)))] [] m)
    (h4 : ¬ ((mI m 31 3) ≤ x4) → ¬ ((mI m 31 2) ≤ (mI m 524 x4.toNatClampNeg)) → vp_in x4 4)
    (h5 : ¬ ((mI m 31 3) ≤ x4) → ¬ ((mI m 31 2) ≤ (mI m 524 x4.toNatClampNeg)) → ¬ (mI m 525 x4.toNatClampNeg) = 0 → Cl X 2 mX0_walk [.ref 512, .ref 523, .int x4] m (fun v m2 => Go X 4 mX0_oneDay Q 63 [(0, .ref 512), (1, .ref 523), (2, .ref a2), (3, .int x3), (4, .int x4)] (v.toList ++ []) m2))
    (h6 : ¬ ((mI m 31 3) ≤ x4) → ¬ ((mI m 31 2) ≤ (mI m 524 x4.toNatClampNeg)) → (mI m 525 x4.toNatClampNeg) = 0 → Cl X 3 mX0_carryByRule [.ref 512, .ref 523, .ref a2, .int x4] m (fun v m2 => Go X 4 mX0_oneDay Q 56 [(0, .ref 512), (1, .ref 523), (2, .ref a2), (3, .int x3), (4, .int x4)] (v.toList ++ []) m2)) :
    Go X 4 mX0_oneDay Q 5 [(0, .ref 512), (1, .ref 523), (2, .ref a2), (3, .int x3), (4, .int x4)] [] m := by
  refine g_iload 4 dX0_oneDay_5 rfl ?_
  refine g_aload_n 0 dX0_oneDay_7 rfl rfl ?_
  refine g_getR dX0_oneDay_8 fl0_17 rfl sh512 (w0_0 hW sh512) ?_
  refine g_getI dX0_oneDay_11 fl0_25 sh31 ?_
  refine g_icmp_ge 79 dX0_oneDay_14 (by decide) (fun q1 => ?_) (fun q1 => ?_)
  · refine g_aload_n 1 dX0_oneDay_79 rfl rfl ?_
    refine g_dup dX0_oneDay_80 rfl ?_
    refine g_getI dX0_oneDay_81 fl0_50 sh523 ?_
    refine g_iconst (v := 1) dX0_oneDay_84 (by decide) ?_
    refine g_iadd dX0_oneDay_85 ?_
    refine g_putI dX0_oneDay_86 fl0_50 (fun h => by cases h) sh523 ?_
    refine g_iload_n 3 dX0_oneDay_89 rfl rfl ?_
    exact g_iret dX0_oneDay_90 rfl enSH (h1 q1)
  · refine g_aload_n 1 dX0_oneDay_17 rfl rfl ?_
    refine g_getR dX0_oneDay_18 fl0_31 rfl sh523 (w8_1 hW sh523) ?_
    refine g_iload 4 dX0_oneDay_21 rfl ?_
    refine g_iald (j := x4.toNatClampNeg) dX0_oneDay_23 (s8_1 sh523) (h2 q1) rfl ?_
    refine g_aload_n 0 dX0_oneDay_24 rfl rfl ?_
    refine g_getR dX0_oneDay_25 fl0_17 rfl sh512 (w0_0 hW sh512) ?_
    refine g_getI dX0_oneDay_28 fl0_36 sh31 ?_
    refine g_icmp_ge 73 dX0_oneDay_31 (by decide) (fun q2 => ?_) (fun q2 => ?_)
    · refine g_iinc (v := x4 + (1 : Int32)) (ls2 := [(4, .int (x4 + (1 : Int32))), (0, .ref 512), (1, .ref 523), (2, .ref a2), (3, .int x3)]) 4 dX0_oneDay_73 rfl rfl (by decide) rfl ?_
      refine g_goto 5 dX0_oneDay_76 (by decide) ?_
      exact g_ls [1, 2, 3, 4, 0] rfl (h3 q1 q2)
    · refine g_aload_n 2 dX0_oneDay_34 rfl rfl ?_
      refine g_ifnull dX0_oneDay_35 ?_
      refine g_aload_n 1 dX0_oneDay_38 rfl rfl ?_
      refine g_getR dX0_oneDay_39 fl0_39 rfl sh523 (w8_2 hW sh523) ?_
      refine g_iload 4 dX0_oneDay_42 rfl ?_
      refine g_iald (j := x4.toNatClampNeg) dX0_oneDay_44 (s8_2 sh523) (h4 q1 q2) rfl ?_
      refine g_if_ne 56 dX0_oneDay_45 (by decide) (fun q3 => ?_) (fun q3 => ?_)
      · refine g_aload_n 0 dX0_oneDay_56 rfl rfl ?_
        refine g_aload_n 1 dX0_oneDay_57 rfl rfl ?_
        refine g_iload 4 dX0_oneDay_58 rfl ?_
        exact g_callV (As := [.ref 523, .int x4]) (st := []) dX0_oneDay_60 clX0_46 sh512 rfl rfl (Nat.le_of_ble_eq_true rfl) (rmSH (by decide) (by decide)) (h5 q1 q2 q3)
      · refine g_aload_n 0 dX0_oneDay_48 rfl rfl ?_
        refine g_aload_n 1 dX0_oneDay_49 rfl rfl ?_
        refine g_aload_n 2 dX0_oneDay_50 rfl rfl ?_
        refine g_iload 4 dX0_oneDay_51 rfl ?_
        exact g_callV (As := [.ref 523, .ref a2, .int x4]) (st := []) dX0_oneDay_53 clX0_42 sh512 rfl rfl (Nat.le_of_ble_eq_true rfl) (rmSH (by decide) (by decide)) (h6 q1 q2 q3)
theorem bX0_oneDayS523_63 {X : pX} {Q : Option Value → pMem → Prop} {m : pMem} {a2 : Nat} {x3 : Int32} {x4 : Int32} {xs0 : Int32} (hW : Wf m) (c2 : SH[a2]? = some (.inl 6))
    (h1 : xs0 = 0 → Go X 4 mX0_oneDay Q 5 [(0, .ref 512), (1, .ref 523), (2, .ref a2), (3, .int x3), (4, .int (x4 + (1 : Int32)))] [] m)
    (h2 : ¬ (xs0 = 0) → Go X 4 mX0_oneDay Q 5 [(0, .ref 512), (1, .ref 523), (2, .ref a2), (3, .int (x3 ||| ((1 : Int32) <<< (x4 &&& 31)))), (4, .int (x4 + (1 : Int32)))] [] m) :
    Go X 4 mX0_oneDay Q 63 [(0, .ref 512), (1, .ref 523), (2, .ref a2), (3, .int x3), (4, .int x4)] [.int xs0] m := by
  refine g_if_eq 73 dX0_oneDay_63 (by decide) (fun q1 => ?_) (fun q1 => ?_)
  · refine g_iinc (v := x4 + (1 : Int32)) (ls2 := [(4, .int (x4 + (1 : Int32))), (0, .ref 512), (1, .ref 523), (2, .ref a2), (3, .int x3)]) 4 dX0_oneDay_73 rfl rfl (by decide) rfl ?_
    refine g_goto 5 dX0_oneDay_76 (by decide) ?_
    exact g_ls [1, 2, 3, 4, 0] rfl (h1 q1)
  · refine g_iload_n 3 dX0_oneDay_66 rfl rfl ?_
    refine g_iconst (v := 1) dX0_oneDay_67 (by decide) ?_
    refine g_iload 4 dX0_oneDay_68 rfl ?_
    refine g_ishl dX0_oneDay_70 ?_
    refine g_ior dX0_oneDay_71 ?_
    refine g_istore_n (ls2 := [(3, .int (x3 ||| ((1 : Int32) <<< (x4 &&& 31)))), (0, .ref 512), (1, .ref 523), (2, .ref a2), (4, .int x4)]) dX0_oneDay_72 rfl (by decide) rfl ?_
    refine g_iinc (v := x4 + (1 : Int32)) (ls2 := [(4, .int (x4 + (1 : Int32))), (3, .int (x3 ||| ((1 : Int32) <<< (x4 &&& 31)))), (0, .ref 512), (1, .ref 523), (2, .ref a2)]) 4 dX0_oneDay_73 rfl rfl (by decide) rfl ?_
    refine g_goto 5 dX0_oneDay_76 (by decide) ?_
    exact g_ls [2, 3, 4, 1, 0] rfl (h2 q1)
theorem bX0_oneDayS523_56 {X : pX} {Q : Option Value → pMem → Prop} {m : pMem} {a2 : Nat} {x3 : Int32} {x4 : Int32} (hW : Wf m) (c2 : SH[a2]? = some (.inl 6))
    (h1 : Cl X 2 mX0_walk [.ref 512, .ref 523, .int x4] m (fun v m2 => Go X 4 mX0_oneDay Q 63 [(0, .ref 512), (1, .ref 523), (2, .ref a2), (3, .int x3), (4, .int x4)] (v.toList ++ []) m2)) :
    Go X 4 mX0_oneDay Q 56 [(0, .ref 512), (1, .ref 523), (2, .ref a2), (3, .int x3), (4, .int x4)] [] m := by
  refine g_aload_n 0 dX0_oneDay_56 rfl rfl ?_
  refine g_aload_n 1 dX0_oneDay_57 rfl rfl ?_
  refine g_iload 4 dX0_oneDay_58 rfl ?_
  exact g_callV (As := [.ref 523, .int x4]) (st := []) dX0_oneDay_60 clX0_46 sh512 rfl rfl (Nat.le_of_ble_eq_true rfl) (rmSH (by decide) (by decide)) h1
theorem bX0_oneDayNS523_0 {X : pX} {Q : Option Value → pMem → Prop} {m : pMem} (hW : Wf m)
    (h1 : Go X 4 mX0_oneDay Q 5 [(0, .ref 512), (1, .ref 523), (2, .null), (3, .int (0 : Int32)), (4, .int (0 : Int32))] [] m) :
    Go X 4 mX0_oneDay Q 0 [(0, .ref 512), (1, .ref 523), (2, .null)] [] m := by
  refine g_iconst (v := 0) dX0_oneDay_0 (by decide) ?_
  refine g_istore_n (ls2 := [(3, .int (0 : Int32)), (0, .ref 512), (1, .ref 523), (2, .null)]) dX0_oneDay_1 rfl (by decide) rfl ?_
  refine g_iconst (v := 0) dX0_oneDay_2 (by decide) ?_
  refine g_istore (ls2 := [(4, .int (0 : Int32)), (3, .int (0 : Int32)), (0, .ref 512), (1, .ref 523), (2, .null)]) dX0_oneDay_3 (by decide) rfl ?_
  exact g_ls [2, 3, 4, 1, 0] rfl h1
theorem bX0_oneDayNS523_5 {X : pX} {Q : Option Value → pMem → Prop} {m : pMem} {x3 : Int32} {x4 : Int32} (hW : Wf m)
    (h1 : (mI m 31 3) ≤ x4 → Q (some (.int x3)) (uI m 523 0 ((mI m 523 0) + (1 : Int32))))
    (h2 : ¬ ((mI m 31 3) ≤ x4) → vp_in x4 4)
    (h3 : ¬ ((mI m 31 3) ≤ x4) → (mI m 31 2) ≤ (mI m 524 x4.toNatClampNeg) → Go X 4 mX0_oneDay Q 5 [(0, .ref 512), (1, .ref 523), (2, .null), (3, .int x3), (4, .int (x4 + (1 : Int32)))] [] m)
    (h4 : ¬ ((mI m 31 3) ≤ x4) → ¬ ((mI m 31 2) ≤ (mI m 524 x4.toNatClampNeg)) → Cl X 2 mX0_walk [.ref 512, .ref 523, .int x4] m (fun v m2 => Go X 4 mX0_oneDay Q 63 [(0, .ref 512), (1, .ref 523), (2, .null), (3, .int x3), (4, .int x4)] (v.toList ++ []) m2)) :
    Go X 4 mX0_oneDay Q 5 [(0, .ref 512), (1, .ref 523), (2, .null), (3, .int x3), (4, .int x4)] [] m := by
  refine g_iload 4 dX0_oneDay_5 rfl ?_
  refine g_aload_n 0 dX0_oneDay_7 rfl rfl ?_
  refine g_getR dX0_oneDay_8 fl0_17 rfl sh512 (w0_0 hW sh512) ?_
  refine g_getI dX0_oneDay_11 fl0_25 sh31 ?_
  refine g_icmp_ge 79 dX0_oneDay_14 (by decide) (fun q1 => ?_) (fun q1 => ?_)
  · refine g_aload_n 1 dX0_oneDay_79 rfl rfl ?_
    refine g_dup dX0_oneDay_80 rfl ?_
    refine g_getI dX0_oneDay_81 fl0_50 sh523 ?_
    refine g_iconst (v := 1) dX0_oneDay_84 (by decide) ?_
    refine g_iadd dX0_oneDay_85 ?_
    refine g_putI dX0_oneDay_86 fl0_50 (fun h => by cases h) sh523 ?_
    refine g_iload_n 3 dX0_oneDay_89 rfl rfl ?_
    exact g_iret dX0_oneDay_90 rfl enSH (h1 q1)
  · refine g_aload_n 1 dX0_oneDay_17 rfl rfl ?_
    refine g_getR dX0_oneDay_18 fl0_31 rfl sh523 (w8_1 hW sh523) ?_
    refine g_iload 4 dX0_oneDay_21 rfl ?_
    refine g_iald (j := x4.toNatClampNeg) dX0_oneDay_23 (s8_1 sh523) (h2 q1) rfl ?_
    refine g_aload_n 0 dX0_oneDay_24 rfl rfl ?_
    refine g_getR dX0_oneDay_25 fl0_17 rfl sh512 (w0_0 hW sh512) ?_
    refine g_getI dX0_oneDay_28 fl0_36 sh31 ?_
    refine g_icmp_ge 73 dX0_oneDay_31 (by decide) (fun q2 => ?_) (fun q2 => ?_)
    · refine g_iinc (v := x4 + (1 : Int32)) (ls2 := [(4, .int (x4 + (1 : Int32))), (0, .ref 512), (1, .ref 523), (2, .null), (3, .int x3)]) 4 dX0_oneDay_73 rfl rfl (by decide) rfl ?_
      refine g_goto 5 dX0_oneDay_76 (by decide) ?_
      exact g_ls [1, 2, 3, 4, 0] rfl (h3 q1 q2)
    · refine g_aload_nN 2 dX0_oneDay_34 rfl rfl ?_
      refine g_ifnullN 56 dX0_oneDay_35 (by decide) ?_
      refine g_aload_n 0 dX0_oneDay_56 rfl rfl ?_
      refine g_aload_n 1 dX0_oneDay_57 rfl rfl ?_
      refine g_iload 4 dX0_oneDay_58 rfl ?_
      exact g_callV (As := [.ref 523, .int x4]) (st := []) dX0_oneDay_60 clX0_46 sh512 rfl rfl (Nat.le_of_ble_eq_true rfl) (rmSH (by decide) (by decide)) (h4 q1 q2)
theorem bX0_oneDayNS523_63 {X : pX} {Q : Option Value → pMem → Prop} {m : pMem} {x3 : Int32} {x4 : Int32} {xs0 : Int32} (hW : Wf m)
    (h1 : xs0 = 0 → Go X 4 mX0_oneDay Q 5 [(0, .ref 512), (1, .ref 523), (2, .null), (3, .int x3), (4, .int (x4 + (1 : Int32)))] [] m)
    (h2 : ¬ (xs0 = 0) → Go X 4 mX0_oneDay Q 5 [(0, .ref 512), (1, .ref 523), (2, .null), (3, .int (x3 ||| ((1 : Int32) <<< (x4 &&& 31)))), (4, .int (x4 + (1 : Int32)))] [] m) :
    Go X 4 mX0_oneDay Q 63 [(0, .ref 512), (1, .ref 523), (2, .null), (3, .int x3), (4, .int x4)] [.int xs0] m := by
  refine g_if_eq 73 dX0_oneDay_63 (by decide) (fun q1 => ?_) (fun q1 => ?_)
  · refine g_iinc (v := x4 + (1 : Int32)) (ls2 := [(4, .int (x4 + (1 : Int32))), (0, .ref 512), (1, .ref 523), (2, .null), (3, .int x3)]) 4 dX0_oneDay_73 rfl rfl (by decide) rfl ?_
    refine g_goto 5 dX0_oneDay_76 (by decide) ?_
    exact g_ls [1, 2, 3, 4, 0] rfl (h1 q1)
  · refine g_iload_n 3 dX0_oneDay_66 rfl rfl ?_
    refine g_iconst (v := 1) dX0_oneDay_67 (by decide) ?_
    refine g_iload 4 dX0_oneDay_68 rfl ?_
    refine g_ishl dX0_oneDay_70 ?_
    refine g_ior dX0_oneDay_71 ?_
    refine g_istore_n (ls2 := [(3, .int (x3 ||| ((1 : Int32) <<< (x4 &&& 31)))), (0, .ref 512), (1, .ref 523), (2, .null), (4, .int x4)]) dX0_oneDay_72 rfl (by decide) rfl ?_
    refine g_iinc (v := x4 + (1 : Int32)) (ls2 := [(4, .int (x4 + (1 : Int32))), (3, .int (x3 ||| ((1 : Int32) <<< (x4 &&& 31)))), (0, .ref 512), (1, .ref 523), (2, .null)]) 4 dX0_oneDay_73 rfl rfl (by decide) rfl ?_
    refine g_goto 5 dX0_oneDay_76 (by decide) ?_
    exact g_ls [2, 3, 4, 1, 0] rfl (h2 q1)
