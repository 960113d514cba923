theorem bX0_goOn_0 {X : pX} {Q : Option Value → pMem → Prop} {m : pMem} {a0 : Nat} {a1 : Nat} {a2 : Nat} {x3 : Int32} (hW : Wf m) (c0 : SH[a0]? = some (.inl 0)) (c1 : SH[a1]? = some (.inl 8)) (c2 : SH[a2]? = some (.inl 6))
    (h1 : Go X 5 mX0_goOn Q 3 [(0, .ref a0), (1, .ref a1), (2, .ref a2), (3, .int x3), (4, .int (0 : Int32))] [] m) :
    Go X 5 mX0_goOn Q 0 [(0, .ref a0), (1, .ref a1), (2, .ref a2), (3, .int x3)] [] m := by
  refine g_iconst (v := 0) dX0_goOn_0 (by decide) ?_
  refine g_istore (ls2 := [(4, .int (0 : Int32)), (0, .ref a0), (1, .ref a1), (2, .ref a2), (3, .int x3)]) dX0_goOn_1 (by decide) rfl ?_
  exact g_ls [1, 2, 3, 4, 0] rfl h1
theorem bX0_goOn_3 {X : pX} {Q : Option Value → pMem → Prop} {m : pMem} {a0 : Nat} {a1 : Nat} {a2 : Nat} {x3 : Int32} {x4 : Int32} (hW : Wf m) (c0 : SH[a0]? = some (.inl 0)) (c1 : SH[a1]? = some (.inl 8)) (c2 : SH[a2]? = some (.inl 6))
    (h1 : x3 ≤ x4 → Q none m)
    (h2 : ¬ (x3 ≤ x4) → Cl X 4 mX0_oneDay [.ref a0, .ref a1, .ref a2] m (fun v m2 => Go X 5 mX0_goOn Q 15 [(0, .ref a0), (1, .ref a1), (2, .ref a2), (3, .int x3), (4, .int x4)] (v.toList ++ []) m2)) :
    Go X 5 mX0_goOn Q 3 [(0, .ref a0), (1, .ref a1), (2, .ref a2), (3, .int x3), (4, .int x4)] [] m := by
  refine g_iload 4 dX0_goOn_3 rfl ?_
  refine g_iload_n 3 dX0_goOn_5 rfl rfl ?_
  refine g_icmp_ge 22 dX0_goOn_6 (by decide) (fun q1 => ?_) (fun q1 => ?_)
  · exact g_vret dX0_goOn_22 rfl enSH (h1 q1)
  · refine g_aload_n 0 dX0_goOn_9 rfl rfl ?_
    refine g_aload_n 1 dX0_goOn_10 rfl rfl ?_
    refine g_aload_n 2 dX0_goOn_11 rfl rfl ?_
    exact g_callV (As := [.ref a1, .ref a2]) (st := []) dX0_goOn_12 clX0_21 c0 rfl rfl (Nat.le_of_ble_eq_true rfl) (rmSH (by decide) (by decide)) (h2 q1)
theorem bX0_goOn_15 {X : pX} {Q : Option Value → pMem → Prop} {m : pMem} {a0 : Nat} {a1 : Nat} {a2 : Nat} {x3 : Int32} {x4 : Int32} {xs0 : Int32} (hW : Wf m) (c0 : SH[a0]? = some (.inl 0)) (c1 : SH[a1]? = some (.inl 8)) (c2 : SH[a2]? = some (.inl 6))
    (h1 : Go X 5 mX0_goOn Q 3 [(0, .ref a0), (1, .ref a1), (2, .ref a2), (3, .int x3), (4, .int (x4 + (1 : Int32)))] [] m) :
    Go X 5 mX0_goOn Q 15 [(0, .ref a0), (1, .ref a1), (2, .ref a2), (3, .int x3), (4, .int x4)] [.int xs0] m := by
  refine g_pop dX0_goOn_15 rfl ?_
  refine g_iinc (v := x4 + (1 : Int32)) (ls2 := [(4, .int (x4 + (1 : Int32))), (0, .ref a0), (1, .ref a1), (2, .ref a2), (3, .int x3)]) 4 dX0_goOn_16 rfl rfl (by decide) rfl ?_
  refine g_goto 3 dX0_goOn_19 (by decide) ?_
  exact g_ls [1, 2, 3, 4, 0] rfl h1
theorem bX0_goOnN_0 {X : pX} {Q : Option Value → pMem → Prop} {m : pMem} {a0 : Nat} {a1 : Nat} {x3 : Int32} (hW : Wf m) (c0 : SH[a0]? = some (.inl 0)) (c1 : SH[a1]? = some (.inl 8))
    (h1 : Go X 5 mX0_goOn Q 3 [(0, .ref a0), (1, .ref a1), (2, .null), (3, .int x3), (4, .int (0 : Int32))] [] m) :
    Go X 5 mX0_goOn Q 0 [(0, .ref a0), (1, .ref a1), (2, .null), (3, .int x3)] [] m := by
  refine g_iconst (v := 0) dX0_goOn_0 (by decide) ?_
  refine g_istore (ls2 := [(4, .int (0 : Int32)), (0, .ref a0), (1, .ref a1), (2, .null), (3, .int x3)]) dX0_goOn_1 (by decide) rfl ?_
  exact g_ls [1, 2, 3, 4, 0] rfl h1
theorem bX0_goOnN_3 {X : pX} {Q : Option Value → pMem → Prop} {m : pMem} {a0 : Nat} {a1 : Nat} {x3 : Int32} {x4 : Int32} (hW : Wf m) (c0 : SH[a0]? = some (.inl 0)) (c1 : SH[a1]? = some (.inl 8))
    (h1 : x3 ≤ x4 → Q none m)
    (h2 : ¬ (x3 ≤ x4) → Cl X 4 mX0_oneDay [.ref a0, .ref a1, .null] m (fun v m2 => Go X 5 mX0_goOn Q 15 [(0, .ref a0), (1, .ref a1), (2, .null), (3, .int x3), (4, .int x4)] (v.toList ++ []) m2)) :
    Go X 5 mX0_goOn Q 3 [(0, .ref a0), (1, .ref a1), (2, .null), (3, .int x3), (4, .int x4)] [] m := by
  refine g_iload 4 dX0_goOn_3 rfl ?_
  refine g_iload_n 3 dX0_goOn_5 rfl rfl ?_
  refine g_icmp_ge 22 dX0_goOn_6 (by decide) (fun q1 => ?_) (fun q1 => ?_)
  · exact g_vret dX0_goOn_22 rfl enSH (h1 q1)
  · refine g_aload_n 0 dX0_goOn_9 rfl rfl ?_
    refine g_aload_n 1 dX0_goOn_10 rfl rfl ?_
    refine g_aload_nN 2 dX0_goOn_11 rfl rfl ?_
    exact g_callV (As := [.ref a1, .null]) (st := []) dX0_goOn_12 clX0_21 c0 rfl rfl (Nat.le_of_ble_eq_true rfl) (rmSH (by decide) (by decide)) (h2 q1)
theorem bX0_goOnN_15 {X : pX} {Q : Option Value → pMem → Prop} {m : pMem} {a0 : Nat} {a1 : Nat} {x3 : Int32} {x4 : Int32} {xs0 : Int32} (hW : Wf m) (c0 : SH[a0]? = some (.inl 0)) (c1 : SH[a1]? = some (.inl 8))
    (h1 : Go X 5 mX0_goOn Q 3 [(0, .ref a0), (1, .ref a1), (2, .null), (3, .int x3), (4, .int (x4 + (1 : Int32)))] [] m) :
    Go X 5 mX0_goOn Q 15 [(0, .ref a0), (1, .ref a1), (2, .null), (3, .int x3), (4, .int x4)] [.int xs0] m := by
  refine g_pop dX0_goOn_15 rfl ?_
  refine g_iinc (v := x4 + (1 : Int32)) (ls2 := [(4, .int (x4 + (1 : Int32))), (0, .ref a0), (1, .ref a1), (2, .null), (3, .int x3)]) 4 dX0_goOn_16 rfl rfl (by decide) rfl ?_
  refine g_goto 3 dX0_goOn_19 (by decide) ?_
  exact g_ls [1, 2, 3, 4, 0] rfl h1
theorem bX0_oneDay_0 {X : pX} {Q : Option Value → pMem → Prop} {m : pMem} {a0 : Nat} {a1 : Nat} {a2 : Nat} (hW : Wf m) (c0 : SH[a0]? = some (.inl 0)) (c1 : SH[a1]? = some (.inl 8)) (c2 : SH[a2]? = some (.inl 6))
    (h1 : Go X 4 mX0_oneDay Q 5 [(0, .ref a0), (1, .ref a1), (2, .ref a2), (3, .int (0 : Int32)), (4, .int (0 : Int32))] [] m) :
    Go X 4 mX0_oneDay Q 0 [(0, .ref a0), (1, .ref a1), (2, .ref a2)] [] m := by
  refine g_iconst (v := 0) dX0_oneDay_0 (by decide) ?_
  refine g_istore_n (ls2 := [(3, .int (0 : Int32)), (0, .ref a0), (1, .ref a1), (2, .ref a2)]) dX0_oneDay_1 rfl (by decide) rfl ?_
  refine g_iconst (v := 0) dX0_oneDay_2 (by decide) ?_
  refine g_istore (ls2 := [(4, .int (0 : Int32)), (3, .int (0 : Int32)), (0, .ref a0), (1, .ref a1), (2, .ref a2)]) dX0_oneDay_3 (by decide) rfl ?_
  exact g_ls [2, 3, 4, 1, 0] rfl h1
theorem bX0_oneDay_5 {X : pX} {Q : Option Value → pMem → Prop} {m : pMem} {a0 : Nat} {a1 : Nat} {a2 : Nat} {x3 : Int32} {x4 : Int32} (hW : Wf m) (c0 : SH[a0]? = some (.inl 0)) (c1 : SH[a1]? = some (.inl 8)) (c2 : SH[a2]? = some (.inl 6))
    (h1 : (mI m 31 3) ≤ x4 → Q (some (.int x3)) (uI m a1 0 ((mI m a1 0) + (1 : Int32))))
    (h2 : ¬ ((mI m 31 3) ≤ x4) → vp_in x4 4)
    (h3 : ¬ ((mI m 31 3) ≤ x4) → (mI m 31 2) ≤ (mI m (a1 + 1) x4.toNatClampNeg) → Go X 4 mX0_oneDay Q 5 [(0, .ref a0), (1, .ref a1), (2, .ref a2), (3, .int x3), (4, .int (x4 + (1 : Int32)))] [] m)
    (h4 : ¬ ((mI m 31 3) ≤ x4) → ¬ ((mI m 31 2) ≤ (mI m (a1 + 1) x4.toNatClampNeg)) → vp_in x4 4)
    (h5 : ¬ ((mI m 31 3) ≤ x4) → ¬ ((mI m 31 2) ≤ (mI m (a1 + 1) x4.toNatClampNeg)) → ¬ (mI m (a1 + 2) x4.toNatClampNeg) = 0 → Cl X 2 mX0_walk [.ref a0, .ref a1, .int x4] m (fun v m2 => Go X 4 mX0_oneDay Q 63 [(0, .ref a0), (1, .ref a1), (2, .ref a2), (3, .int x3), (4, .int x4)] (v.toList ++ []) m2))
    (h6 : ¬ ((mI m 31 3) ≤ x4) → ¬ ((mI m 31 2) ≤ (mI m (a1 + 1) x4.toNatClampNeg)) → (mI m (a1 + 2) x4.toNatClampNeg) = 0 → Cl X 3 mX0_carryByRule [.ref a0, .ref a1, .ref a2, .int x4] m (fun v m2 => Go X 4 mX0_oneDay Q 56 [(0, .ref a0), (1, .ref a1), (2, .ref a2), (3, .int x3), (4, .int x4)] (v.toList ++ []) m2)) :
    Go X 4 mX0_oneDay Q 5 [(0, .ref a0), (1, .ref a1), (2, .ref a2), (3, .int x3), (4, .int x4)] [] m := by
  refine g_iload 4 dX0_oneDay_5 rfl ?_
  refine g_aload_n 0 dX0_oneDay_7 rfl rfl ?_
  refine g_getR dX0_oneDay_8 fl0_17 rfl c0 (w0_0 hW c0) ?_
  refine g_getI dX0_oneDay_11 fl0_25 sh31 ?_
  refine g_icmp_ge 79 dX0_oneDay_14 (by decide) (fun q1 => ?_) (fun q1 => ?_)
  · refine g_aload_n 1 dX0_oneDay_79 rfl rfl ?_
    refine g_dup dX0_oneDay_80 rfl ?_
    refine g_getI dX0_oneDay_81 fl0_50 c1 ?_
    refine g_iconst (v := 1) dX0_oneDay_84 (by decide) ?_
    refine g_iadd dX0_oneDay_85 ?_
    refine g_putI dX0_oneDay_86 fl0_50 (fun h => by cases h) c1 ?_
    refine g_iload_n 3 dX0_oneDay_89 rfl rfl ?_
    exact g_iret dX0_oneDay_90 rfl enSH (h1 q1)
  · refine g_aload_n 1 dX0_oneDay_17 rfl rfl ?_
    refine g_getR dX0_oneDay_18 fl0_31 rfl c1 (w8_1 hW c1) ?_
    refine g_iload 4 dX0_oneDay_21 rfl ?_
    refine g_iald (j := x4.toNatClampNeg) dX0_oneDay_23 (s8_1 c1) (h2 q1) rfl ?_
    refine g_aload_n 0 dX0_oneDay_24 rfl rfl ?_
    refine g_getR dX0_oneDay_25 fl0_17 rfl c0 (w0_0 hW c0) ?_
    refine g_getI dX0_oneDay_28 fl0_36 sh31 ?_
    refine g_icmp_ge 73 dX0_oneDay_31 (by decide) (fun q2 => ?_) (fun q2 => ?_)
    · refine g_iinc (v := x4 + (1 : Int32)) (ls2 := [(4, .int (x4 + (1 : Int32))), (0, .ref a0), (1, .ref a1), (2, .ref a2), (3, .int x3)]) 4 dX0_oneDay_73 rfl rfl (by decide) rfl ?_
      refine g_goto 5 dX0_oneDay_76 (by decide) ?_
      exact g_ls [1, 2, 3, 4, 0] rfl (h3 q1 q2)
    · refine g_aload_n 2 dX0_oneDay_34 rfl rfl ?_
      refine g_ifnull dX0_oneDay_35 ?_
      refine g_aload_n 1 dX0_oneDay_38 rfl rfl ?_
      refine g_getR dX0_oneDay_39 fl0_39 rfl c1 (w8_2 hW c1) ?_
      refine g_iload 4 dX0_oneDay_42 rfl ?_
      refine g_iald (j := x4.toNatClampNeg) dX0_oneDay_44 (s8_2 c1) (h4 q1 q2) rfl ?_
      refine g_if_ne 56 dX0_oneDay_45 (by decide) (fun q3 => ?_) (fun q3 => ?_)
      · refine g_aload_n 0 dX0_oneDay_56 rfl rfl ?_
        refine g_aload_n 1 dX0_oneDay_57 rfl rfl ?_
        refine g_iload 4 dX0_oneDay_58 rfl ?_
        exact g_callV (As := [.ref a1, .int x4]) (st := []) dX0_oneDay_60 clX0_46 c0 rfl rfl (Nat.le_of_ble_eq_true rfl) (rmSH (by decide) (by decide)) (h5 q1 q2 q3)
      · refine g_aload_n 0 dX0_oneDay_48 rfl rfl ?_
        refine g_aload_n 1 dX0_oneDay_49 rfl rfl ?_
        refine g_aload_n 2 dX0_oneDay_50 rfl rfl ?_
        refine g_iload 4 dX0_oneDay_51 rfl ?_
        exact g_callV (As := [.ref a1, .ref a2, .int x4]) (st := []) dX0_oneDay_53 clX0_42 c0 rfl rfl (Nat.le_of_ble_eq_true rfl) (rmSH (by decide) (by decide)) (h6 q1 q2 q3)
theorem bX0_oneDay_63 {X : pX} {Q : Option Value → pMem → Prop} {m : pMem} {a0 : Nat} {a1 : Nat} {a2 : Nat} {x3 : Int32} {x4 : Int32} {xs0 : Int32} (hW : Wf m) (c0 : SH[a0]? = some (.inl 0)) (c1 : SH[a1]? = some (.inl 8)) (c2 : SH[a2]? = some (.inl 6))
    (h1 : xs0 = 0 → Go X 4 mX0_oneDay Q 5 [(0, .ref a0), (1, .ref a1), (2, .ref a2), (3, .int x3), (4, .int (x4 + (1 : Int32)))] [] m)
    (h2 : ¬ (xs0 = 0) → Go X 4 mX0_oneDay Q 5 [(0, .ref a0), (1, .ref a1), (2, .ref a2), (3, .int (x3 ||| ((1 : Int32) <<< (x4 &&& 31)))), (4, .int (x4 + (1 : Int32)))] [] m) :
    Go X 4 mX0_oneDay Q 63 [(0, .ref a0), (1, .ref a1), (2, .ref a2), (3, .int x3), (4, .int x4)] [.int xs0] m := by
  refine g_if_eq 73 dX0_oneDay_63 (by decide) (fun q1 => ?_) (fun q1 => ?_)
  · refine g_iinc (v := x4 + (1 : Int32)) (ls2 := [(4, .int (x4 + (1 : Int32))), (0, .ref a0), (1, .ref a1), (2, .ref a2), (3, .int x3)]) 4 dX0_oneDay_73 rfl rfl (by decide) rfl ?_
    refine g_goto 5 dX0_oneDay_76 (by decide) ?_
    exact g_ls [1, 2, 3, 4, 0] rfl (h1 q1)
  · refine g_iload_n 3 dX0_oneDay_66 rfl rfl ?_
    refine g_iconst (v := 1) dX0_oneDay_67 (by decide) ?_
    refine g_iload 4 dX0_oneDay_68 rfl ?_
    refine g_ishl dX0_oneDay_70 ?_
    refine g_ior dX0_oneDay_71 ?_
    refine g_istore_n (ls2 := [(3, .int (x3 ||| ((1 : Int32) <<< (x4 &&& 31)))), (0, .ref a0), (1, .ref a1), (2, .ref a2), (4, .int x4)]) dX0_oneDay_72 rfl (by decide) rfl ?_
    refine g_iinc (v := x4 + (1 : Int32)) (ls2 := [(4, .int (x4 + (1 : Int32))), (3, .int (x3 ||| ((1 : Int32) <<< (x4 &&& 31)))), (0, .ref a0), (1, .ref a1), (2, .ref a2)]) 4 dX0_oneDay_73 rfl rfl (by decide) rfl ?_
    refine g_goto 5 dX0_oneDay_76 (by decide) ?_
    exact g_ls [2, 3, 4, 1, 0] rfl (h2 q1)
theorem bX0_oneDay_56 {X : pX} {Q : Option Value → pMem → Prop} {m : pMem} {a0 : Nat} {a1 : Nat} {a2 : Nat} {x3 : Int32} {x4 : Int32} (hW : Wf m) (c0 : SH[a0]? = some (.inl 0)) (c1 : SH[a1]? = some (.inl 8)) (c2 : SH[a2]? = some (.inl 6))
    (h1 : Cl X 2 mX0_walk [.ref a0, .ref a1, .int x4] m (fun v m2 => Go X 4 mX0_oneDay Q 63 [(0, .ref a0), (1, .ref a1), (2, .ref a2), (3, .int x3), (4, .int x4)] (v.toList ++ []) m2)) :
    Go X 4 mX0_oneDay Q 56 [(0, .ref a0), (1, .ref a1), (2, .ref a2), (3, .int x3), (4, .int x4)] [] m := by
  refine g_aload_n 0 dX0_oneDay_56 rfl rfl ?_
  refine g_aload_n 1 dX0_oneDay_57 rfl rfl ?_
  refine g_iload 4 dX0_oneDay_58 rfl ?_
  exact g_callV (As := [.ref a1, .int x4]) (st := []) dX0_oneDay_60 clX0_46 c0 rfl rfl (Nat.le_of_ble_eq_true rfl) (rmSH (by decide) (by decide)) h1
theorem bX0_oneDayN_0 {X : pX} {Q : Option Value → pMem → Prop} {m : pMem} {a0 : Nat} {a1 : Nat} (hW : Wf m) (c0 : SH[a0]? = some (.inl 0)) (c1 : SH[a1]? = some (.inl 8))
    (h1 : Go X 4 mX0_oneDay Q 5 [(0, .ref a0), (1, .ref a1), (2, .null), (3, .int (0 : Int32)), (4, .int (0 : Int32))] [] m) :
    Go X 4 mX0_oneDay Q 0 [(0, .ref a0), (1, .ref a1), (2, .null)] [] m := by
  refine g_iconst (v := 0) dX0_oneDay_0 (by decide) ?_
  refine g_istore_n (ls2 := [(3, .int (0 : Int32)), (0, .ref a0), (1, .ref a1), (2, .null)]) dX0_oneDay_1 rfl (by decide) rfl ?_
  refine g_iconst (v := 0) dX0_oneDay_2 (by decide) ?_
  refine g_istore (ls2 := [(4, .int (0 : Int32)), (3, .int (0 : Int32)), (0, .ref a0), (1, .ref a1), (2, .null)]) dX0_oneDay_3 (by decide) rfl ?_
  exact g_ls [2, 3, 4, 1, 0] rfl h1
theorem bX0_oneDayN_5 {X : pX} {Q : Option Value → pMem → Prop} {m : pMem} {a0 : Nat} {a1 : Nat} {x3 : Int32} {x4 : Int32} (hW : Wf m) (c0 : SH[a0]? = some (.inl 0)) (c1 : SH[a1]? = some (.inl 8))
    (h1 : (mI m 31 3) ≤ x4 → Q (some (.int x3)) (uI m a1 0 ((mI m a1 0) + (1 : Int32))))
    (h2 : ¬ ((mI m 31 3) ≤ x4) → vp_in x4 4)
    (h3 : ¬ ((mI m 31 3) ≤ x4) → (mI m 31 2) ≤ (mI m (a1 + 1) x4.toNatClampNeg) → Go X 4 mX0_oneDay Q 5 [(0, .ref a0), (1, .ref a1), (2, .null), (3, .int x3), (4, .int (x4 + (1 : Int32)))] [] m)
    (h4 : ¬ ((mI m 31 3) ≤ x4) → ¬ ((mI m 31 2) ≤ (mI m (a1 + 1) x4.toNatClampNeg)) → Cl X 2 mX0_walk [.ref a0, .ref a1, .int x4] m (fun v m2 => Go X 4 mX0_oneDay Q 63 [(0, .ref a0), (1, .ref a1), (2, .null), (3, .int x3), (4, .int x4)] (v.toList ++ []) m2)) :
    Go X 4 mX0_oneDay Q 5 [(0, .ref a0), (1, .ref a1), (2, .null), (3, .int x3), (4, .int x4)] [] m := by
  refine g_iload 4 dX0_oneDay_5 rfl ?_
  refine g_aload_n 0 dX0_oneDay_7 rfl rfl ?_
  refine g_getR dX0_oneDay_8 fl0_17 rfl c0 (w0_0 hW c0) ?_
  refine g_getI dX0_oneDay_11 fl0_25 sh31 ?_
  refine g_icmp_ge 79 dX0_oneDay_14 (by decide) (fun q1 => ?_) (fun q1 => ?_)
  · refine g_aload_n 1 dX0_oneDay_79 rfl rfl ?_
    refine g_dup dX0_oneDay_80 rfl ?_
    refine g_getI dX0_oneDay_81 fl0_50 c1 ?_
    refine g_iconst (v := 1) dX0_oneDay_84 (by decide) ?_
    refine g_iadd dX0_oneDay_85 ?_
    refine g_putI dX0_oneDay_86 fl0_50 (fun h => by cases h) c1 ?_
    refine g_iload_n 3 dX0_oneDay_89 rfl rfl ?_
    exact g_iret dX0_oneDay_90 rfl enSH (h1 q1)
  · refine g_aload_n 1 dX0_oneDay_17 rfl rfl ?_
    refine g_getR dX0_oneDay_18 fl0_31 rfl c1 (w8_1 hW c1) ?_
    refine g_iload 4 dX0_oneDay_21 rfl ?_
    refine g_iald (j := x4.toNatClampNeg) dX0_oneDay_23 (s8_1 c1) (h2 q1) rfl ?_
    refine g_aload_n 0 dX0_oneDay_24 rfl rfl ?_
    refine g_getR dX0_oneDay_25 fl0_17 rfl c0 (w0_0 hW c0) ?_
    refine g_getI dX0_oneDay_28 fl0_36 sh31 ?_
    refine g_icmp_ge 73 dX0_oneDay_31 (by decide) (fun q2 => ?_) (fun q2 => ?_)
    · refine g_iinc (v := x4 + (1 : Int32)) (ls2 := [(4, .int (x4 + (1 : Int32))), (0, .ref a0), (1, .ref a1), (2, .null), (3, .int x3)]) 4 dX0_oneDay_73 rfl rfl (by decide) rfl ?_
      refine g_goto 5 dX0_oneDay_76 (by decide) ?_
      exact g_ls [1, 2, 3, 4, 0] rfl (h3 q1 q2)
    · refine g_aload_nN 2 dX0_oneDay_34 rfl rfl ?_
      refine g_ifnullN 56 dX0_oneDay_35 (by decide) ?_
      refine g_aload_n 0 dX0_oneDay_56 rfl rfl ?_
      refine g_aload_n 1 dX0_oneDay_57 rfl rfl ?_
      refine g_iload 4 dX0_oneDay_58 rfl ?_
      exact g_callV (As := [.ref a1, .int x4]) (st := []) dX0_oneDay_60 clX0_46 c0 rfl rfl (Nat.le_of_ble_eq_true rfl) (rmSH (by decide) (by decide)) (h4 q1 q2)
theorem bX0_oneDayN_63 {X : pX} {Q : Option Value → pMem → Prop} {m : pMem} {a0 : Nat} {a1 : Nat} {x3 : Int32} {x4 : Int32} {xs0 : Int32} (hW : Wf m) (c0 : SH[a0]? = some (.inl 0)) (c1 : SH[a1]? = some (.inl 8))
    (h1 : xs0 = 0 → Go X 4 mX0_oneDay Q 5 [(0, .ref a0), (1, .ref a1), (2, .null), (3, .int x3), (4, .int (x4 + (1 : Int32)))] [] m)
    (h2 : ¬ (xs0 = 0) → Go X 4 mX0_oneDay Q 5 [(0, .ref a0), (1, .ref a1), (2, .null), (3, .int (x3 ||| ((1 : Int32) <<< (x4 &&& 31)))), (4, .int (x4 + (1 : Int32)))] [] m) :
    Go X 4 mX0_oneDay Q 63 [(0, .ref a0), (1, .ref a1), (2, .null), (3, .int x3), (4, .int x4)] [.int xs0] m := by
  refine g_if_eq 73 dX0_oneDay_63 (by decide) (fun q1 => ?_) (fun q1 => ?_)
  · refine g_iinc (v := x4 + (1 : Int32)) (ls2 := [(4, .int (x4 + (1 : Int32))), (0, .ref a0), (1, .ref a1), (2, .null), (3, .int x3)]) 4 dX0_oneDay_73 rfl rfl (by decide) rfl ?_
    refine g_goto 5 dX0_oneDay_76 (by decide) ?_
    exact g_ls [1, 2, 3, 4, 0] rfl (h1 q1)
  · refine g_iload_n 3 dX0_oneDay_66 rfl rfl ?_
    refine g_iconst (v := 1) dX0_oneDay_67 (by decide) ?_
    refine g_iload 4 dX0_oneDay_68 rfl ?_
    refine g_ishl dX0_oneDay_70 ?_
    refine g_ior dX0_oneDay_71 ?_
    refine g_istore_n (ls2 := [(3, .int (x3 ||| ((1 : Int32) <<< (x4 &&& 31)))), (0, .ref a0), (1, .ref a1), (2, .null), (4, .int x4)]) dX0_oneDay_72 rfl (by decide) rfl ?_
    refine g_iinc (v := x4 + (1 : Int32)) (ls2 := [(4, .int (x4 + (1 : Int32))), (3, .int (x3 ||| ((1 : Int32) <<< (x4 &&& 31)))), (0, .ref a0), (1, .ref a1), (2, .null)]) 4 dX0_oneDay_73 rfl rfl (by decide) rfl ?_
    refine g_goto 5 dX0_oneDay_76 (by decide) ?_
    exact g_ls [2, 3, 4, 1, 0] rfl (h2 q1)
theorem bX0_carryByRule_0 {X : pX} {Q : Option Value → pMem → Prop} {m : pMem} {a0 : Nat} {a1 : Nat} {a2 : Nat} {x3 : Int32} (hW : Wf m) (c0 : SH[a0]? = some (.inl 0)) (c1 : SH[a1]? = some (.inl 8)) (c2 : SH[a2]? = some (.inl 6))
    (h1 : vp_in x3 4)
    (h2 : Go X 3 mX0_carryByRule Q 14 [(0, .ref a0), (1, .ref a1), (2, .ref a2), (3, .int x3), (4, .int ((10 : Int32) + (mI m (a1 + 1) x3.toNatClampNeg))), (5, .int (0 : Int32))] [] m) :
    Go X 3 mX0_carryByRule Q 0 [(0, .ref a0), (1, .ref a1), (2, .ref a2), (3, .int x3)] [] m := by
  refine g_bipush (v := 10) dX0_carryByRule_0 (by decide) ?_
  refine g_aload_n 1 dX0_carryByRule_2 rfl rfl ?_
  refine g_getR dX0_carryByRule_3 fl0_31 rfl c1 (w8_1 hW c1) ?_
  refine g_iload_n 3 dX0_carryByRule_6 rfl rfl ?_
  refine g_iald (j := x3.toNatClampNeg) dX0_carryByRule_7 (s8_1 c1) h1 rfl ?_
  refine g_iadd dX0_carryByRule_8 ?_
  refine g_istore (ls2 := [(4, .int ((10 : Int32) + (mI m (a1 + 1) x3.toNatClampNeg))), (0, .ref a0), (1, .ref a1), (2, .ref a2), (3, .int x3)]) dX0_carryByRule_9 (by decide) rfl ?_
  refine g_iconst (v := 0) dX0_carryByRule_11 (by decide) ?_
  refine g_istore (ls2 := [(5, .int (0 : Int32)), (4, .int ((10 : Int32) + (mI m (a1 + 1) x3.toNatClampNeg))), (0, .ref a0), (1, .ref a1), (2, .ref a2), (3, .int x3)]) dX0_carryByRule_12 (by decide) rfl ?_
  exact g_ls [2, 3, 4, 5, 1, 0] rfl h2
theorem bX0_carryByRule_14 {X : pX} {Q : Option Value → pMem → Prop} {m : pMem} {a0 : Nat} {a1 : Nat} {a2 : Nat} {x3 : Int32} {x4 : Int32} {x5 : Int32} (hW : Wf m) (c0 : SH[a0]? = some (.inl 0)) (c1 : SH[a1]? = some (.inl 8)) (c2 : SH[a2]? = some (.inl 6))
    (h1 : (mI m 31 4) ≤ x5 → Q none m)
    (h2 : ¬ ((mI m 31 4) ≤ x5) → vp_in x5 6)
    (h3 : ¬ ((mI m 31 4) ≤ x5) → (mI m (a1 + 3) x5.toNatClampNeg) = x3 → Cl X 2 mX0_setWords [.ref a0, .ref a1, .int x3, .int x5] m (fun v m2 => Go X 3 mX0_carryByRule Q 56 [(0, .ref a0), (1, .ref a1), (2, .ref a2), (3, .int x3), (4, .int x4), (5, .int x5), (6, .int (mI m (a1 + 3) x5.toNatClampNeg))] (v.toList ++ []) m2))
    (h4 : ¬ ((mI m 31 4) ≤ x5) → ¬ ((mI m (a1 + 3) x5.toNatClampNeg) = x3) → ¬ (mI m (a1 + 3) x5.toNatClampNeg) = x4 → Go X 3 mX0_carryByRule Q 14 [(0, .ref a0), (1, .ref a1), (2, .ref a2), (3, .int x3), (4, .int x4), (5, .int (x5 + (1 : Int32)))] [] m)
    (h5 : ¬ ((mI m 31 4) ≤ x5) → ¬ ((mI m (a1 + 3) x5.toNatClampNeg) = x3) → (mI m (a1 + 3) x5.toNatClampNeg) = x4 → Cl X 2 mX0_setWords [.ref a0, .ref a1, .int x3, .int x5] m (fun v m2 => Go X 3 mX0_carryByRule Q 56 [(0, .ref a0), (1, .ref a1), (2, .ref a2), (3, .int x3), (4, .int x4), (5, .int x5), (6, .int (mI m (a1 + 3) x5.toNatClampNeg))] (v.toList ++ []) m2)) :
    Go X 3 mX0_carryByRule Q 14 [(0, .ref a0), (1, .ref a1), (2, .ref a2), (3, .int x3), (4, .int x4), (5, .int x5)] [] m := by
  refine g_iload 5 dX0_carryByRule_14 rfl ?_
  refine g_aload_n 0 dX0_carryByRule_16 rfl rfl ?_
  refine g_getR dX0_carryByRule_17 fl0_17 rfl c0 (w0_0 hW c0) ?_
  refine g_getI dX0_carryByRule_20 fl0_53 sh31 ?_
  refine g_icmp_ge 110 dX0_carryByRule_23 (by decide) (fun q1 => ?_) (fun q1 => ?_)
  · exact g_vret dX0_carryByRule_110 rfl enSH (h1 q1)
  · refine g_aload_n 1 dX0_carryByRule_26 rfl rfl ?_
    refine g_getR dX0_carryByRule_27 fl0_56 rfl c1 (w8_3 hW c1) ?_
    refine g_iload 5 dX0_carryByRule_30 rfl ?_
    refine g_iald (j := x5.toNatClampNeg) dX0_carryByRule_32 (s8_3 c1) (h2 q1) rfl ?_
    refine g_istore (ls2 := [(6, .int (mI m (a1 + 3) x5.toNatClampNeg)), (0, .ref a0), (1, .ref a1), (2, .ref a2), (3, .int x3), (4, .int x4), (5, .int x5)]) dX0_carryByRule_33 (by decide) rfl ?_
    refine g_iload 0 dX0_carryByRule_35 rfl ?_
    refine g_iload_n 4 dX0_carryByRule_37 rfl rfl ?_
    refine g_icmp_eq 48 dX0_carryByRule_38 (by decide) (fun q2 => ?_) (fun q2 => ?_)
    · refine g_aload_n 1 dX0_carryByRule_48 rfl rfl ?_
      refine g_aload_n 2 dX0_carryByRule_49 rfl rfl ?_
      refine g_iload_n 4 dX0_carryByRule_50 rfl rfl ?_
      refine g_iload 6 dX0_carryByRule_51 rfl ?_
      refine g_ls [1, 2, 3, 4, 5, 6, 0] (ls2 := [(0, .ref a0), (1, .ref a1), (2, .ref a2), (3, .int x3), (4, .int x4), (5, .int x5), (6, .int (mI m (a1 + 3) x5.toNatClampNeg))]) rfl ?_
      exact g_callV (As := [.ref a1, .int x3, .int x5]) (st := []) dX0_carryByRule_53 clX0_59 c0 rfl rfl (Nat.le_of_ble_eq_true rfl) (rmSH (by decide) (by decide)) (h3 q1 q2)
    · refine g_iload 0 dX0_carryByRule_41 rfl ?_
      refine g_iload 5 dX0_carryByRule_43 rfl ?_
      refine g_icmp_ne 104 dX0_carryByRule_45 (by decide) (fun q3 => ?_) (fun q3 => ?_)
      · refine g_iinc (v := x5 + (1 : Int32)) (ls2 := [(5, .int (x5 + (1 : Int32))), (6, .int (mI m (a1 + 3) x5.toNatClampNeg)), (0, .ref a0), (1, .ref a1), (2, .ref a2), (3, .int x3), (4, .int x4)]) 6 dX0_carryByRule_104 rfl rfl (by decide) rfl ?_
        refine g_goto 14 dX0_carryByRule_107 (by decide) ?_
        exact g_ls [2, 3, 4, 5, 6, 0] rfl (h4 q1 q2 q3)
      · refine g_aload_n 1 dX0_carryByRule_48 rfl rfl ?_
        refine g_aload_n 2 dX0_carryByRule_49 rfl rfl ?_
        refine g_iload_n 4 dX0_carryByRule_50 rfl rfl ?_
        refine g_iload 6 dX0_carryByRule_51 rfl ?_
        refine g_ls [1, 2, 3, 4, 5, 6, 0] (ls2 := [(0, .ref a0), (1, .ref a1), (2, .ref a2), (3, .int x3), (4, .int x4), (5, .int x5), (6, .int (mI m (a1 + 3) x5.toNatClampNeg))]) rfl ?_
        exact g_callV (As := [.ref a1, .int x3, .int x5]) (st := []) dX0_carryByRule_53 clX0_59 c0 rfl rfl (Nat.le_of_ble_eq_true rfl) (rmSH (by decide) (by decide)) (h5 q1 q2 q3)
theorem bX0_carryByRule_56 {X : pX} {Q : Option Value → pMem → Prop} {m : pMem} {a0 : Nat} {a1 : Nat} {a2 : Nat} {x3 : Int32} {x4 : Int32} {x5 : Int32} {x6 : Int32} (hW : Wf m) (c0 : SH[a0]? = some (.inl 0)) (c1 : SH[a1]? = some (.inl 8)) (c2 : SH[a2]? = some (.inl 6))
    (h1 : Cl X 1 mX6_sum [.ref a2, .ref (a0 + 1)] m (fun v m2 => Go X 3 mX0_carryByRule Q 64 [(0, .ref a0), (1, .ref a1), (2, .ref a2), (3, .int x3), (4, .int x4), (5, .int x5), (6, .int x6)] (v.toList ++ []) m2)) :
    Go X 3 mX0_carryByRule Q 56 [(0, .ref a0), (1, .ref a1), (2, .ref a2), (3, .int x3), (4, .int x4), (5, .int x5), (6, .int x6)] [] m := by
  refine g_aload_n 2 dX0_carryByRule_56 rfl rfl ?_
  refine g_aload_n 0 dX0_carryByRule_57 rfl rfl ?_
  refine g_getR dX0_carryByRule_58 fl0_11 rfl c0 (w0_1 hW c0) ?_
  exact g_callV (As := [.ref (a0 + 1)]) (st := []) dX0_carryByRule_61 clX0_63 c2 rfl rfl (Nat.le_of_ble_eq_true rfl) (rmSH (by decide) (by decide)) h1
theorem bX0_carryByRule_64 {X : pX} {Q : Option Value → pMem → Prop} {m : pMem} {a0 : Nat} {a1 : Nat} {a2 : Nat} {x3 : Int32} {x4 : Int32} {x5 : Int32} {x6 : Int32} {ys0 : Int64} (hW : Wf m) (c0 : SH[a0]? = some (.inl 0)) (c1 : SH[a1]? = some (.inl 8)) (c2 : SH[a2]? = some (.inl 6))
    (h1 : 0 < (lg_cmp ys0 (0 : Int64)) → Cl X 1 mX8_manyOf [.ref a1, .int x3] m (fun v m2 => Go X 3 mX0_carryByRule Q 86 [(0, .ref a0), (1, .ref a1), (2, .ref a2), (3, .int x3), (4, .int x4), (5, .int x5), (6, .int x6)] (v.toList ++ []) m2))
    (h2 : ¬ (0 < (lg_cmp ys0 (0 : Int64))) → vp_in x5 6)
    (h3 : ¬ (0 < (lg_cmp ys0 (0 : Int64))) → Go X 3 mX0_carryByRule Q 14 [(0, .ref a0), (1, .ref a1), (2, .ref a2), (3, .int x3), (4, .int x4), (5, .int (x5 + (1 : Int32)))] [] (uI m (a1 + 3) x5.toNatClampNeg x4)) :
    Go X 3 mX0_carryByRule Q 64 [(0, .ref a0), (1, .ref a1), (2, .ref a2), (3, .int x3), (4, .int x4), (5, .int x5), (6, .int x6)] [.long ys0] m := by
  refine g_lconst (v := 0) dX0_carryByRule_64 (by decide) ?_
  refine g_lcmp dX0_carryByRule_65 ?_
  refine g_if_gt 81 dX0_carryByRule_66 (by decide) (fun q1 => ?_) (fun q1 => ?_)
  · refine g_aload_n 1 dX0_carryByRule_81 rfl rfl ?_
    refine g_iload_n 3 dX0_carryByRule_82 rfl rfl ?_
    exact g_callV (As := [.int x3]) (st := []) dX0_carryByRule_83 clX0_67 c1 rfl rfl (Nat.le_of_ble_eq_true rfl) (rmSH (by decide) (by decide)) (h1 q1)
  · refine g_aload_n 1 dX0_carryByRule_69 rfl rfl ?_
    refine g_getR dX0_carryByRule_70 fl0_56 rfl c1 (w8_3 hW c1) ?_
    refine g_iload 5 dX0_carryByRule_73 rfl ?_
    refine g_iload 4 dX0_carryByRule_75 rfl ?_
    refine g_iast (j := x5.toNatClampNeg) dX0_carryByRule_77 (s8_3 c1) (h2 q1) rfl ?_
    refine g_goto 104 dX0_carryByRule_78 (by decide) ?_
    refine g_iinc (v := x5 + (1 : Int32)) (ls2 := [(5, .int (x5 + (1 : Int32))), (0, .ref a0), (1, .ref a1), (2, .ref a2), (3, .int x3), (4, .int x4), (6, .int x6)]) 5 dX0_carryByRule_104 rfl rfl (by decide) rfl ?_
    refine g_goto 14 dX0_carryByRule_107 (by decide) ?_
    exact g_ls [1, 2, 3, 4, 5, 0] rfl (h3 q1)
theorem bX0_carryByRule_86 {X : pX} {Q : Option Value → pMem → Prop} {m : pMem} {a0 : Nat} {a1 : Nat} {a2 : Nat} {x3 : Int32} {x4 : Int32} {x5 : Int32} {x6 : Int32} {xs0 : Int32} (hW : Wf m) (c0 : SH[a0]? = some (.inl 0)) (c1 : SH[a1]? = some (.inl 8)) (c2 : SH[a2]? = some (.inl 6))
    (h1 : (mI m 31 1) ≤ xs0 → Go X 3 mX0_carryByRule Q 14 [(0, .ref a0), (1, .ref a1), (2, .ref a2), (3, .int x3), (4, .int x4), (5, .int (x5 + (1 : Int32)))] [] m)
    (h2 : ¬ ((mI m 31 1) ≤ xs0) → vp_in x5 6)
    (h3 : ¬ ((mI m 31 1) ≤ xs0) → Go X 3 mX0_carryByRule Q 14 [(0, .ref a0), (1, .ref a1), (2, .ref a2), (3, .int x3), (4, .int x4), (5, .int (x5 + (1 : Int32)))] [] (uI m (a1 + 3) x5.toNatClampNeg x3)) :
    Go X 3 mX0_carryByRule Q 86 [(0, .ref a0), (1, .ref a1), (2, .ref a2), (3, .int x3), (4, .int x4), (5, .int x5), (6, .int x6)] [.int xs0] m := by
  refine g_aload_n 0 dX0_carryByRule_86 rfl rfl ?_
  refine g_getR dX0_carryByRule_87 fl0_17 rfl c0 (w0_0 hW c0) ?_
  refine g_getI dX0_carryByRule_90 fl0_71 sh31 ?_
  refine g_icmp_ge 104 dX0_carryByRule_93 (by decide) (fun q1 => ?_) (fun q1 => ?_)
  · refine g_iinc (v := x5 + (1 : Int32)) (ls2 := [(5, .int (x5 + (1 : Int32))), (0, .ref a0), (1, .ref a1), (2, .ref a2), (3, .int x3), (4, .int x4), (6, .int x6)]) 5 dX0_carryByRule_104 rfl rfl (by decide) rfl ?_
    refine g_goto 14 dX0_carryByRule_107 (by decide) ?_
    exact g_ls [1, 2, 3, 4, 5, 0] rfl (h1 q1)
  · refine g_aload_n 1 dX0_carryByRule_96 rfl rfl ?_
    refine g_getR dX0_carryByRule_97 fl0_56 rfl c1 (w8_3 hW c1) ?_
    refine g_iload 5 dX0_carryByRule_100 rfl ?_
    refine g_iload_n 3 dX0_carryByRule_102 rfl rfl ?_
    refine g_iast (j := x5.toNatClampNeg) dX0_carryByRule_103 (s8_3 c1) (h2 q1) rfl ?_
    refine g_iinc (v := x5 + (1 : Int32)) (ls2 := [(5, .int (x5 + (1 : Int32))), (0, .ref a0), (1, .ref a1), (2, .ref a2), (3, .int x3), (4, .int x4), (6, .int x6)]) 5 dX0_carryByRule_104 rfl rfl (by decide) rfl ?_
    refine g_goto 14 dX0_carryByRule_107 (by decide) ?_
    exact g_ls [1, 2, 3, 4, 5, 0] rfl (h3 q1)
theorem bX0_setWords_0 {X : pX} {Q : Option Value → pMem → Prop} {m : pMem} {a0 : Nat} {a1 : Nat} {x2 : Int32} {x3 : Int32} (hW : Wf m) (c0 : SH[a0]? = some (.inl 0)) (c1 : SH[a1]? = some (.inl 8))
    (h1 : Cl X 1 mX8_hadBy [.ref a1, .int x2] m (fun v m2 => Go X 2 mX0_setWords Q 5 [(0, .ref a0), (1, .ref a1), (2, .int x2), (3, .int x3)] (v.toList ++ []) m2)) :
    Go X 2 mX0_setWords Q 0 [(0, .ref a0), (1, .ref a1), (2, .int x2), (3, .int x3)] [] m := by
  refine g_aload_n 1 dX0_setWords_0 rfl rfl ?_
  refine g_iload_n 2 dX0_setWords_1 rfl rfl ?_
  exact g_callV (As := [.int x2]) (st := []) dX0_setWords_2 clX0_74 c1 rfl rfl (Nat.le_of_ble_eq_true rfl) (rmSH (by decide) (by decide)) h1
theorem bX0_setWords_5 {X : pX} {Q : Option Value → pMem → Prop} {m : pMem} {a0 : Nat} {a1 : Nat} {x2 : Int32} {x3 : Int32} {xs0 : Int32} (hW : Wf m) (c0 : SH[a0]? = some (.inl 0)) (c1 : SH[a1]? = some (.inl 8))
    (h1 : vp_in x2 4)
    (h2 : vp_in x3 6)
    (h3 : vp_in x3 6)
    (h4 : Cl X 0 mJ6_bitCount_0f7a4 [.int xs0] (uI (uI (uI (uI (uI m (a0 + 1) 0 x2) (a0 + 1) 1 x3) (a0 + 1) 2 (mI (uI (uI m (a0 + 1) 0 x2) (a0 + 1) 1 x3) 34 x3.toNatClampNeg)) (a0 + 1) 3 (mI (uI (uI (uI m (a0 + 1) 0 x2) (a0 + 1) 1 x3) (a0 + 1) 2 (mI (uI (uI m (a0 + 1) 0 x2) (a0 + 1) 1 x3) 34 x3.toNatClampNeg)) 35 x3.toNatClampNeg)) (a0 + 1) 4 ((xs0 >>> (x3 &&& 31)) &&& (1 : Int32))) (fun v m2 => Go X 2 mX0_setWords Q 81 [(0, .ref a0), (1, .ref a1), (2, .int x2), (3, .int x3), (4, .int xs0), (5, .int (mI m (a1 + 1) x2.toNatClampNeg))] (v.toList ++ [.int (5 : Int32), .ref (a0 + 1)]) m2)) :
    Go X 2 mX0_setWords Q 5 [(0, .ref a0), (1, .ref a1), (2, .int x2), (3, .int x3)] [.int xs0] m := by
  refine g_istore (ls2 := [(4, .int xs0), (0, .ref a0), (1, .ref a1), (2, .int x2), (3, .int x3)]) dX0_setWords_5 (by decide) rfl ?_
  refine g_aload_n 2 dX0_setWords_7 rfl rfl ?_
  refine g_getR dX0_setWords_8 fl0_31 rfl c1 (w8_1 hW c1) ?_
  refine g_iload_n 3 dX0_setWords_11 rfl rfl ?_
  refine g_iald (j := x2.toNatClampNeg) dX0_setWords_12 (s8_1 c1) h1 rfl ?_
  refine g_istore (ls2 := [(5, .int (mI m (a1 + 1) x2.toNatClampNeg)), (4, .int xs0), (0, .ref a0), (1, .ref a1), (2, .int x2), (3, .int x3)]) dX0_setWords_13 (by decide) rfl ?_
  refine g_aload_n 2 dX0_setWords_15 rfl rfl ?_
  refine g_getR dX0_setWords_16 fl0_11 rfl c0 (w0_1 hW c0) ?_
  refine g_iconst (v := 0) dX0_setWords_19 (by decide) ?_
  refine g_iload_n 4 dX0_setWords_20 rfl rfl ?_
  refine g_iast (j := 0) dX0_setWords_21 (s0_1 c0) (by unfold vp_in; decide) (by decide) ?_
  refine g_aload_n 2 dX0_setWords_22 rfl rfl ?_
  refine g_getR dX0_setWords_23 fl0_11 rfl c0 (w0_1 hW c0) ?_
  refine g_iconst (v := 1) dX0_setWords_26 (by decide) ?_
  refine g_iload_n 5 dX0_setWords_27 rfl rfl ?_
  refine g_iast (j := 1) dX0_setWords_28 (s0_1 c0) (by unfold vp_in; decide) (by decide) ?_
  refine g_aload_n 2 dX0_setWords_29 rfl rfl ?_
  refine g_getR dX0_setWords_30 fl0_11 rfl c0 (w0_1 hW c0) ?_
  refine g_iconst (v := 2) dX0_setWords_33 (by decide) ?_
  refine g_aload_n 2 dX0_setWords_34 rfl rfl ?_
  refine g_getR dX0_setWords_35 fl0_17 rfl c0 (w0_0 hW c0) ?_
  refine g_getR dX0_setWords_38 fl0_77 rfl sh31 (w4_7 hW sh31) ?_
  refine g_iload_n 5 dX0_setWords_41 rfl rfl ?_
  refine g_iald (j := x3.toNatClampNeg) dX0_setWords_42 (s4_7 sh31) h2 rfl ?_
  refine g_iast (j := 2) dX0_setWords_43 (s0_1 c0) (by unfold vp_in; decide) (by decide) ?_
  refine g_aload_n 2 dX0_setWords_44 rfl rfl ?_
  refine g_getR dX0_setWords_45 fl0_11 rfl c0 (w0_1 hW c0) ?_
  refine g_iconst (v := 3) dX0_setWords_48 (by decide) ?_
  refine g_aload_n 2 dX0_setWords_49 rfl rfl ?_
  refine g_getR dX0_setWords_50 fl0_17 rfl c0 (w0_0 hW c0) ?_
  refine g_getR dX0_setWords_53 fl0_80 rfl sh31 (w4_8 hW sh31) ?_
  refine g_iload_n 5 dX0_setWords_56 rfl rfl ?_
  refine g_iald (j := x3.toNatClampNeg) dX0_setWords_57 (s4_8 sh31) h3 rfl ?_
  refine g_iast (j := 3) dX0_setWords_58 (s0_1 c0) (by unfold vp_in; decide) (by decide) ?_
  refine g_aload_n 2 dX0_setWords_59 rfl rfl ?_
  refine g_getR dX0_setWords_60 fl0_11 rfl c0 (w0_1 hW c0) ?_
  refine g_iconst (v := 4) dX0_setWords_63 (by decide) ?_
  refine g_iload 1 dX0_setWords_64 rfl ?_
  refine g_iload_n 5 dX0_setWords_66 rfl rfl ?_
  refine g_ishr dX0_setWords_67 ?_
  refine g_iconst (v := 1) dX0_setWords_68 (by decide) ?_
  refine g_iand dX0_setWords_69 ?_
  refine g_iast (j := 4) dX0_setWords_70 (s0_1 c0) (by unfold vp_in; decide) (by decide) ?_
  refine g_aload_n 2 dX0_setWords_71 rfl rfl ?_
  refine g_getR dX0_setWords_72 fl0_11 rfl c0 (w0_1 hW c0) ?_
  refine g_iconst (v := 5) dX0_setWords_75 (by decide) ?_
  refine g_iload 1 dX0_setWords_76 rfl ?_
  refine g_ls [2, 3, 4, 5, 1, 0] (ls2 := [(0, .ref a0), (1, .ref a1), (2, .int x2), (3, .int x3), (4, .int xs0), (5, .int (mI m (a1 + 1) x2.toNatClampNeg))]) rfl ?_
  exact g_callS (As := [.int xs0]) (st := [.int (5 : Int32), .ref (a0 + 1)]) dX0_setWords_78 clX0_83 rfl rfl (Nat.le_of_ble_eq_true rfl) (rmSH (by decide) (by decide)) h4
theorem bX0_setWords_81 {X : pX} {Q : Option Value → pMem → Prop} {m : pMem} {a0 : Nat} {a1 : Nat} {x2 : Int32} {x3 : Int32} {x4 : Int32} {x5 : Int32} {xs0 : Int32} {as2 : Nat} (hW : Wf m) (c0 : SH[a0]? = some (.inl 0)) (c1 : SH[a1]? = some (.inl 8)) (cs2 : SH[as2]? = some (.inr (.int, 12)))
    (h1 : Cl X 0 mX4_weightOf [.ref 31, .int x4] (uI m as2 5 xs0) (fun v m2 => Go X 2 mX0_setWords Q 97 [(0, .ref a0), (1, .ref a1), (2, .int x2), (3, .int x3), (4, .int x4), (5, .int x5)] (v.toList ++ [.int (6 : Int32), .ref (a0 + 1)]) m2)) :
    Go X 2 mX0_setWords Q 81 [(0, .ref a0), (1, .ref a1), (2, .int x2), (3, .int x3), (4, .int x4), (5, .int x5)] [.int xs0, .int (5 : Int32), .ref as2] m := by
  refine g_iast (j := 5) dX0_setWords_81 cs2 (by unfold vp_in; decide) (by decide) ?_
  refine g_aload_n 0 dX0_setWords_82 rfl rfl ?_
  refine g_getR dX0_setWords_83 fl0_11 rfl c0 (w0_1 hW c0) ?_
  refine g_bipush (v := 6) dX0_setWords_86 (by decide) ?_
  refine g_aload_n 0 dX0_setWords_88 rfl rfl ?_
  refine g_getR dX0_setWords_89 fl0_17 rfl c0 (w0_0 hW c0) ?_
  refine g_iload 4 dX0_setWords_92 rfl ?_
  exact g_callV (As := [.int x4]) (st := [.int (6 : Int32), .ref (a0 + 1)]) dX0_setWords_94 clX0_88 sh31 rfl rfl (Nat.le_of_ble_eq_true rfl) (rmSH (by decide) (by decide)) h1
theorem bX0_setWords_97 {X : pX} {Q : Option Value → pMem → Prop} {m : pMem} {a0 : Nat} {a1 : Nat} {x2 : Int32} {x3 : Int32} {x4 : Int32} {x5 : Int32} {xs0 : Int32} {as2 : Nat} (hW : Wf m) (c0 : SH[a0]? = some (.inl 0)) (c1 : SH[a1]? = some (.inl 8)) (cs2 : SH[as2]? = some (.inr (.int, 12)))
    (h1 : vp_in x2 4)
    (h2 : Cl X 0 mX4_isStage [.ref 31, .int x5] (uI (uI (uI (uI m as2 6 xs0) (a0 + 1) 7 x5) (a0 + 1) 8 ((mI (uI (uI m as2 6 xs0) (a0 + 1) 7 x5) 31 2) - x5)) (a0 + 1) 9 (mI (uI (uI (uI m as2 6 xs0) (a0 + 1) 7 x5) (a0 + 1) 8 ((mI (uI (uI m as2 6 xs0) (a0 + 1) 7 x5) 31 2) - x5)) 33 x2.toNatClampNeg)) (fun v m2 => Go X 2 mX0_setWords Q 155 [(0, .ref a0), (1, .ref a1), (2, .int x2), (3, .int x3), (4, .int x4), (5, .int x5)] (v.toList ++ [.int (10 : Int32), .ref (a0 + 1)]) m2)) :
    Go X 2 mX0_setWords Q 97 [(0, .ref a0), (1, .ref a1), (2, .int x2), (3, .int x3), (4, .int x4), (5, .int x5)] [.int xs0, .int (6 : Int32), .ref as2] m := by
  refine g_iast (j := 6) dX0_setWords_97 cs2 (by unfold vp_in; decide) (by decide) ?_
  refine g_aload_n 0 dX0_setWords_98 rfl rfl ?_
  refine g_getR dX0_setWords_99 fl0_11 rfl c0 (w0_1 hW c0) ?_
  refine g_bipush (v := 7) dX0_setWords_102 (by decide) ?_
  refine g_iload 5 dX0_setWords_104 rfl ?_
  refine g_iast (j := 7) dX0_setWords_106 (s0_1 c0) (by unfold vp_in; decide) (by decide) ?_
  refine g_aload_n 0 dX0_setWords_107 rfl rfl ?_
  refine g_getR dX0_setWords_108 fl0_11 rfl c0 (w0_1 hW c0) ?_
  refine g_bipush (v := 8) dX0_setWords_111 (by decide) ?_
  refine g_aload_n 0 dX0_setWords_113 rfl rfl ?_
  refine g_getR dX0_setWords_114 fl0_17 rfl c0 (w0_0 hW c0) ?_
  refine g_getI dX0_setWords_117 fl0_36 sh31 ?_
  refine g_iload 5 dX0_setWords_120 rfl ?_
  refine g_isub dX0_setWords_122 ?_
  refine g_iast (j := 8) dX0_setWords_123 (s0_1 c0) (by unfold vp_in; decide) (by decide) ?_
  refine g_aload_n 0 dX0_setWords_124 rfl rfl ?_
  refine g_getR dX0_setWords_125 fl0_11 rfl c0 (w0_1 hW c0) ?_
  refine g_bipush (v := 9) dX0_setWords_128 (by decide) ?_
  refine g_aload_n 0 dX0_setWords_130 rfl rfl ?_
  refine g_getR dX0_setWords_131 fl0_17 rfl c0 (w0_0 hW c0) ?_
  refine g_getR dX0_setWords_134 fl0_91 rfl sh31 (w4_6 hW sh31) ?_
  refine g_iload_n 2 dX0_setWords_137 rfl rfl ?_
  refine g_iald (j := x2.toNatClampNeg) dX0_setWords_138 (s4_6 sh31) h1 rfl ?_
  refine g_iast (j := 9) dX0_setWords_139 (s0_1 c0) (by unfold vp_in; decide) (by decide) ?_
  refine g_aload_n 0 dX0_setWords_140 rfl rfl ?_
  refine g_getR dX0_setWords_141 fl0_11 rfl c0 (w0_1 hW c0) ?_
  refine g_bipush (v := 10) dX0_setWords_144 (by decide) ?_
  refine g_aload_n 0 dX0_setWords_146 rfl rfl ?_
  refine g_getR dX0_setWords_147 fl0_17 rfl c0 (w0_0 hW c0) ?_
  refine g_iload 5 dX0_setWords_150 rfl ?_
  exact g_callV (As := [.int x5]) (st := [.int (10 : Int32), .ref (a0 + 1)]) dX0_setWords_152 clX0_94 sh31 rfl rfl (Nat.le_of_ble_eq_true rfl) (rmSH (by decide) (by decide)) h2
theorem bX0_setWords_155 {X : pX} {Q : Option Value → pMem → Prop} {m : pMem} {a0 : Nat} {a1 : Nat} {x2 : Int32} {x3 : Int32} {x4 : Int32} {x5 : Int32} {xs0 : Int32} {as2 : Nat} (hW : Wf m) (c0 : SH[a0]? = some (.inl 0)) (c1 : SH[a1]? = some (.inl 8)) (cs2 : SH[as2]? = some (.inr (.int, 12)))
    (h1 : xs0 = 0 → Q none (uI (uI m as2 10 (0 : Int32)) (a0 + 1) 11 (mI (uI m as2 10 (0 : Int32)) a1 0)))
    (h2 : ¬ (xs0 = 0) → vp_in x5 8)
    (h3 : ¬ (xs0 = 0) → Q none (uI (uI m as2 10 (mI m 32 x5.toNatClampNeg)) (a0 + 1) 11 (mI (uI m as2 10 (mI m 32 x5.toNatClampNeg)) a1 0))) :
    Go X 2 mX0_setWords Q 155 [(0, .ref a0), (1, .ref a1), (2, .int x2), (3, .int x3), (4, .int x4), (5, .int x5)] [.int xs0, .int (10 : Int32), .ref as2] m := by
  refine g_if_eq 171 dX0_setWords_155 (by decide) (fun q1 => ?_) (fun q1 => ?_)
  · refine g_iconst (v := 0) dX0_setWords_171 (by decide) ?_
    refine g_iast (j := 10) dX0_setWords_172 cs2 (by unfold vp_in; decide) (by decide) ?_
    refine g_aload_n 0 dX0_setWords_173 rfl rfl ?_
    refine g_getR dX0_setWords_174 fl0_11 rfl c0 (w0_1 hW c0) ?_
    refine g_bipush (v := 11) dX0_setWords_177 (by decide) ?_
    refine g_aload_n 1 dX0_setWords_179 rfl rfl ?_
    refine g_getI dX0_setWords_180 fl0_50 c1 ?_
    refine g_iast (j := 11) dX0_setWords_183 (s0_1 c0) (by unfold vp_in; decide) (by decide) ?_
    exact g_vret dX0_setWords_184 rfl enSH (h1 q1)
  · refine g_aload_n 0 dX0_setWords_158 rfl rfl ?_
    refine g_getR dX0_setWords_159 fl0_17 rfl c0 (w0_0 hW c0) ?_
    refine g_getR dX0_setWords_162 fl0_98 rfl sh31 (w4_5 hW sh31) ?_
    refine g_iload 5 dX0_setWords_165 rfl ?_
    refine g_iald (j := x5.toNatClampNeg) dX0_setWords_167 (s4_5 sh31) (h2 q1) rfl ?_
    refine g_goto 172 dX0_setWords_168 (by decide) ?_
    refine g_iast (j := 10) dX0_setWords_172 cs2 (by unfold vp_in; decide) (by decide) ?_
    refine g_aload_n 0 dX0_setWords_173 rfl rfl ?_
    refine g_getR dX0_setWords_174 fl0_11 rfl c0 (w0_1 hW c0) ?_
    refine g_bipush (v := 11) dX0_setWords_177 (by decide) ?_
    refine g_aload_n 1 dX0_setWords_179 rfl rfl ?_
    refine g_getI dX0_setWords_180 fl0_50 c1 ?_
    refine g_iast (j := 11) dX0_setWords_183 (s0_1 c0) (by unfold vp_in; decide) (by decide) ?_
    exact g_vret dX0_setWords_184 rfl enSH (h3 q1)
theorem bX0_walk_0 {X : pX} {Q : Option Value → pMem → Prop} {m : pMem} {a0 : Nat} {a1 : Nat} {x2 : Int32} (hW : Wf m) (c0 : SH[a0]? = some (.inl 0)) (c1 : SH[a1]? = some (.inl 8))
    (h1 : vp_in x2 4)
    (h2 : Cl X 0 mX4_isStage [.ref 31, .int (mI m (a1 + 1) x2.toNatClampNeg)] m (fun v m2 => Go X 2 mX0_walk Q 15 [(0, .ref a0), (1, .ref a1), (2, .int x2), (3, .int (mI m (a1 + 1) x2.toNatClampNeg))] (v.toList ++ []) m2)) :
    Go X 2 mX0_walk Q 0 [(0, .ref a0), (1, .ref a1), (2, .int x2)] [] m := by
  refine g_aload_n 1 dX0_walk_0 rfl rfl ?_
  refine g_getR dX0_walk_1 fl0_31 rfl c1 (w8_1 hW c1) ?_
  refine g_iload_n 2 dX0_walk_4 rfl rfl ?_
  refine g_iald (j := x2.toNatClampNeg) dX0_walk_5 (s8_1 c1) h1 rfl ?_
  refine g_istore_n (ls2 := [(3, .int (mI m (a1 + 1) x2.toNatClampNeg)), (0, .ref a0), (1, .ref a1), (2, .int x2)]) dX0_walk_6 rfl (by decide) rfl ?_
  refine g_aload_n 1 dX0_walk_7 rfl rfl ?_
  refine g_getR dX0_walk_8 fl0_17 rfl c0 (w0_0 hW c0) ?_
  refine g_iload_n 0 dX0_walk_11 rfl rfl ?_
  refine g_ls [1, 2, 3, 0] (ls2 := [(0, .ref a0), (1, .ref a1), (2, .int x2), (3, .int (mI m (a1 + 1) x2.toNatClampNeg))]) rfl ?_
  exact g_callV (As := [.int (mI m (a1 + 1) x2.toNatClampNeg)]) (st := []) dX0_walk_12 clX0_94 sh31 rfl rfl (Nat.le_of_ble_eq_true rfl) (rmSH (by decide) (by decide)) h2
theorem bX0_walk_15 {X : pX} {Q : Option Value → pMem → Prop} {m : pMem} {a0 : Nat} {a1 : Nat} {x2 : Int32} {x3 : Int32} {xs0 : Int32} (hW : Wf m) (c0 : SH[a0]? = some (.inl 0)) (c1 : SH[a1]? = some (.inl 8))
    (h1 : xs0 = 0 → Go X 2 mX0_walk Q 31 [(0, .ref a0), (1, .ref a1), (2, .int x2)] [.int (0 : Int32)] m)
    (h2 : ¬ (xs0 = 0) → vp_in x3 8)
    (h3 : ¬ (xs0 = 0) → Go X 2 mX0_walk Q 31 [(0, .ref a0), (1, .ref a1), (2, .int x2)] [.int (mI m 32 x3.toNatClampNeg)] m) :
    Go X 2 mX0_walk Q 15 [(0, .ref a0), (1, .ref a1), (2, .int x2), (3, .int x3)] [.int xs0] m := by
  refine g_if_eq 30 dX0_walk_15 (by decide) (fun q1 => ?_) (fun q1 => ?_)
  · refine g_iconst (v := 0) dX0_walk_30 (by decide) ?_
    exact g_ls [0, 1, 2] rfl (h1 q1)
  · refine g_aload_n 0 dX0_walk_18 rfl rfl ?_
    refine g_getR dX0_walk_19 fl0_17 rfl c0 (w0_0 hW c0) ?_
    refine g_getR dX0_walk_22 fl0_98 rfl sh31 (w4_5 hW sh31) ?_
    refine g_iload_n 3 dX0_walk_25 rfl rfl ?_
    refine g_iald (j := x3.toNatClampNeg) dX0_walk_26 (s4_5 sh31) (h2 q1) rfl ?_
    refine g_goto 31 dX0_walk_27 (by decide) ?_
    exact g_ls [0, 1, 2] rfl (h3 q1)
theorem bX0_walk_31 {X : pX} {Q : Option Value → pMem → Prop} {m : pMem} {a0 : Nat} {a1 : Nat} {x2 : Int32} (hW : Wf m) (c0 : SH[a0]? = some (.inl 0)) (c1 : SH[a1]? = some (.inl 8))
    (h1 : vp_in x2 4)
    (h2 : vp_in x2 4)
    (h3 : vp_in x2 4)
    (h4 : vp_in x2 4)
    (h5 : Cl X 1 mX8_hadBy [.ref a1, .int x2] (uI m (a1 + 2) x2.toNatClampNeg ((mI m (a1 + 2) x2.toNatClampNeg) + (mI m 33 x2.toNatClampNeg))) (fun v m2 => Go X 2 mX0_walk Q 68 [(0, .ref a0), (1, .ref a1), (2, .int x2), (4, .int (0 : Int32))] (v.toList ++ [.ref 31, .int (0 : Int32), .int (mI (uI m (a1 + 2) x2.toNatClampNeg ((mI m (a1 + 2) x2.toNatClampNeg) + (mI m 33 x2.toNatClampNeg))) (a1 + 2) x2.toNatClampNeg)]) m2)) :
    Go X 2 mX0_walk Q 31 [(0, .ref a0), (1, .ref a1), (2, .int x2)] [.int (0 : Int32)] m := by
  refine g_istore (ls2 := [(4, .int (0 : Int32)), (0, .ref a0), (1, .ref a1), (2, .int x2)]) dX0_walk_31 (by decide) rfl ?_
  refine g_aload_n 2 dX0_walk_33 rfl rfl ?_
  refine g_getR dX0_walk_34 fl0_39 rfl c1 (w8_2 hW c1) ?_
  refine g_iload_n 3 dX0_walk_37 rfl rfl ?_
  refine g_dup2 dX0_walk_38 rfl rfl ?_
  refine g_iald (j := x2.toNatClampNeg) dX0_walk_39 (s8_2 c1) h1 rfl ?_
  refine g_aload_n 1 dX0_walk_40 rfl rfl ?_
  refine g_getR dX0_walk_41 fl0_17 rfl c0 (w0_0 hW c0) ?_
  refine g_getR dX0_walk_44 fl0_91 rfl sh31 (w4_6 hW sh31) ?_
  refine g_iload_n 3 dX0_walk_47 rfl rfl ?_
  refine g_iald (j := x2.toNatClampNeg) dX0_walk_48 (s4_6 sh31) h2 rfl ?_
  refine g_iadd dX0_walk_49 ?_
  refine g_iast (j := x2.toNatClampNeg) dX0_walk_50 (s8_2 c1) h3 rfl ?_
  refine g_aload_n 2 dX0_walk_51 rfl rfl ?_
  refine g_getR dX0_walk_52 fl0_39 rfl c1 (w8_2 hW c1) ?_
  refine g_iload_n 3 dX0_walk_55 rfl rfl ?_
  refine g_iald (j := x2.toNatClampNeg) dX0_walk_56 (s8_2 c1) h4 rfl ?_
  refine g_iload 0 dX0_walk_57 rfl ?_
  refine g_aload_n 1 dX0_walk_59 rfl rfl ?_
  refine g_getR dX0_walk_60 fl0_17 rfl c0 (w0_0 hW c0) ?_
  refine g_aload_n 2 dX0_walk_63 rfl rfl ?_
  refine g_iload_n 3 dX0_walk_64 rfl rfl ?_
  refine g_ls [1, 2, 3, 0] (ls2 := [(0, .ref a0), (1, .ref a1), (2, .int x2), (4, .int (0 : Int32))]) rfl ?_
  exact g_callV (As := [.int x2]) (st := [.ref 31, .int (0 : Int32), .int (mI (uI m (a1 + 2) x2.toNatClampNeg ((mI m (a1 + 2) x2.toNatClampNeg) + (mI m 33 x2.toNatClampNeg))) (a1 + 2) x2.toNatClampNeg)]) dX0_walk_65 clX0_74 c1 rfl rfl (Nat.le_of_ble_eq_true rfl) (rmSH (by decide) (by decide)) h5
theorem bX0_walk_31v1 {X : pX} {Q : Option Value → pMem → Prop} {m : pMem} {a0 : Nat} {a1 : Nat} {x2 : Int32} {xs0 : Int32} (hW : Wf m) (c0 : SH[a0]? = some (.inl 0)) (c1 : SH[a1]? = some (.inl 8))
    (h1 : vp_in x2 4)
    (h2 : vp_in x2 4)
    (h3 : vp_in x2 4)
    (h4 : vp_in x2 4)
    (h5 : Cl X 1 mX8_hadBy [.ref a1, .int x2] (uI m (a1 + 2) x2.toNatClampNeg ((mI m (a1 + 2) x2.toNatClampNeg) + (mI m 33 x2.toNatClampNeg))) (fun v m2 => Go X 2 mX0_walk Q 68 [(0, .ref a0), (1, .ref a1), (2, .int x2), (4, .int xs0)] (v.toList ++ [.ref 31, .int xs0, .int (mI (uI m (a1 + 2) x2.toNatClampNeg ((mI m (a1 + 2) x2.toNatClampNeg) + (mI m 33 x2.toNatClampNeg))) (a1 + 2) x2.toNatClampNeg)]) m2)) :
    Go X 2 mX0_walk Q 31 [(0, .ref a0), (1, .ref a1), (2, .int x2)] [.int xs0] m := by
  refine g_istore (ls2 := [(4, .int xs0), (0, .ref a0), (1, .ref a1), (2, .int x2)]) dX0_walk_31 (by decide) rfl ?_
  refine g_aload_n 2 dX0_walk_33 rfl rfl ?_
  refine g_getR dX0_walk_34 fl0_39 rfl c1 (w8_2 hW c1) ?_
  refine g_iload_n 3 dX0_walk_37 rfl rfl ?_
  refine g_dup2 dX0_walk_38 rfl rfl ?_
  refine g_iald (j := x2.toNatClampNeg) dX0_walk_39 (s8_2 c1) h1 rfl ?_
  refine g_aload_n 1 dX0_walk_40 rfl rfl ?_
  refine g_getR dX0_walk_41 fl0_17 rfl c0 (w0_0 hW c0) ?_
  refine g_getR dX0_walk_44 fl0_91 rfl sh31 (w4_6 hW sh31) ?_
  refine g_iload_n 3 dX0_walk_47 rfl rfl ?_
  refine g_iald (j := x2.toNatClampNeg) dX0_walk_48 (s4_6 sh31) h2 rfl ?_
  refine g_iadd dX0_walk_49 ?_
  refine g_iast (j := x2.toNatClampNeg) dX0_walk_50 (s8_2 c1) h3 rfl ?_
  refine g_aload_n 2 dX0_walk_51 rfl rfl ?_
  refine g_getR dX0_walk_52 fl0_39 rfl c1 (w8_2 hW c1) ?_
  refine g_iload_n 3 dX0_walk_55 rfl rfl ?_
  refine g_iald (j := x2.toNatClampNeg) dX0_walk_56 (s8_2 c1) h4 rfl ?_
  refine g_iload 0 dX0_walk_57 rfl ?_
  refine g_aload_n 1 dX0_walk_59 rfl rfl ?_
  refine g_getR dX0_walk_60 fl0_17 rfl c0 (w0_0 hW c0) ?_
  refine g_aload_n 2 dX0_walk_63 rfl rfl ?_
  refine g_iload_n 3 dX0_walk_64 rfl rfl ?_
  refine g_ls [1, 2, 3, 0] (ls2 := [(0, .ref a0), (1, .ref a1), (2, .int x2), (4, .int xs0)]) rfl ?_
  exact g_callV (As := [.int x2]) (st := [.ref 31, .int xs0, .int (mI (uI m (a1 + 2) x2.toNatClampNeg ((mI m (a1 + 2) x2.toNatClampNeg) + (mI m 33 x2.toNatClampNeg))) (a1 + 2) x2.toNatClampNeg)]) dX0_walk_65 clX0_74 c1 rfl rfl (Nat.le_of_ble_eq_true rfl) (rmSH (by decide) (by decide)) h5
theorem bX0_walk_68 {X : pX} {Q : Option Value → pMem → Prop} {m : pMem} {a0 : Nat} {a1 : Nat} {x2 : Int32} {x4 : Int32} {xs0 : Int32} {as1 : Nat} {xs3 : Int32} (hW : Wf m) (c0 : SH[a0]? = some (.inl 0)) (c1 : SH[a1]? = some (.inl 8)) (cs1 : SH[as1]? = some (.inl 4))
    (h1 : Cl X 0 mX4_weightOf [.ref as1, .int xs0] m (fun v m2 => Go X 2 mX0_walk Q 71 [(0, .ref a0), (1, .ref a1), (2, .int x2), (4, .int x4)] (v.toList ++ [.int (0 : Int32), .int xs3]) m2)) :
    Go X 2 mX0_walk Q 68 [(0, .ref a0), (1, .ref a1), (2, .int x2), (4, .int x4)] [.int xs0, .ref as1, .int (0 : Int32), .int xs3] m := by
  exact g_callV (As := [.int xs0]) (st := [.int (0 : Int32), .int xs3]) dX0_walk_68 clX0_88 cs1 rfl rfl (Nat.le_of_ble_eq_true rfl) (rmSH (by decide) (by decide)) h1
theorem bX0_walk_68v1 {X : pX} {Q : Option Value → pMem → Prop} {m : pMem} {a0 : Nat} {a1 : Nat} {x2 : Int32} {x4 : Int32} {xs0 : Int32} {as1 : Nat} {xs2 : Int32} {xs3 : Int32} (hW : Wf m) (c0 : SH[a0]? = some (.inl 0)) (c1 : SH[a1]? = some (.inl 8)) (cs1 : SH[as1]? = some (.inl 4))
    (h1 : Cl X 0 mX4_weightOf [.ref as1, .int xs0] m (fun v m2 => Go X 2 mX0_walk Q 71 [(0, .ref a0), (1, .ref a1), (2, .int x2), (4, .int x4)] (v.toList ++ [.int xs2, .int xs3]) m2)) :
    Go X 2 mX0_walk Q 68 [(0, .ref a0), (1, .ref a1), (2, .int x2), (4, .int x4)] [.int xs0, .ref as1, .int xs2, .int xs3] m := by
  exact g_callV (As := [.int xs0]) (st := [.int xs2, .int xs3]) dX0_walk_68 clX0_88 cs1 rfl rfl (Nat.le_of_ble_eq_true rfl) (rmSH (by decide) (by decide)) h1
theorem bX0_walk_71 {X : pX} {Q : Option Value → pMem → Prop} {m : pMem} {a0 : Nat} {a1 : Nat} {x2 : Int32} {x4 : Int32} {xs0 : Int32} {xs2 : Int32} (hW : Wf m) (c0 : SH[a0]? = some (.inl 0)) (c1 : SH[a1]? = some (.inl 8))
    (h1 : ((0 : Int32) + xs0) ≤ xs2 → vp_in x2 4)
    (h2 : ((0 : Int32) + xs0) ≤ xs2 → vp_in x2 4)
    (h3 : ((0 : Int32) + xs0) ≤ xs2 → vp_in x2 4)
    (h4 : ((0 : Int32) + xs0) ≤ xs2 → Q (some (.int (1 : Int32))) (uI (uI m (a1 + 1) x2.toNatClampNeg ((mI m (a1 + 1) x2.toNatClampNeg) + (1 : Int32))) (a1 + 2) x2.toNatClampNeg (0 : Int32)))
    (h5 : ¬ (((0 : Int32) + xs0) ≤ xs2) → Q (some (.int (0 : Int32))) m) :
    Go X 2 mX0_walk Q 71 [(0, .ref a0), (1, .ref a1), (2, .int x2), (4, .int x4)] [.int xs0, .int (0 : Int32), .int xs2] m := by
  refine g_iadd dX0_walk_71 ?_
  refine g_icmp_ge 77 dX0_walk_72 (by decide) (fun q1 => ?_) (fun q1 => ?_)
  · refine g_aload_n 1 dX0_walk_77 rfl rfl ?_
    refine g_getR dX0_walk_78 fl0_31 rfl c1 (w8_1 hW c1) ?_
    refine g_iload_n 2 dX0_walk_81 rfl rfl ?_
    refine g_dup2 dX0_walk_82 rfl rfl ?_
    refine g_iald (j := x2.toNatClampNeg) dX0_walk_83 (s8_1 c1) (h1 q1) rfl ?_
    refine g_iconst (v := 1) dX0_walk_84 (by decide) ?_
    refine g_iadd dX0_walk_85 ?_
    refine g_iast (j := x2.toNatClampNeg) dX0_walk_86 (s8_1 c1) (h2 q1) rfl ?_
    refine g_aload_n 1 dX0_walk_87 rfl rfl ?_
    refine g_getR dX0_walk_88 fl0_39 rfl c1 (w8_2 hW c1) ?_
    refine g_iload_n 2 dX0_walk_91 rfl rfl ?_
    refine g_iconst (v := 0) dX0_walk_92 (by decide) ?_
    refine g_iast (j := x2.toNatClampNeg) dX0_walk_93 (s8_2 c1) (h3 q1) rfl ?_
    refine g_iconst (v := 1) dX0_walk_94 (by decide) ?_
    exact g_bret dX0_walk_95 rfl (Or.inr rfl) enSH (h4 q1)
  · refine g_iconst (v := 0) dX0_walk_75 (by decide) ?_
    exact g_bret dX0_walk_76 rfl (Or.inl rfl) enSH (h5 q1)
theorem bX0_walk_71v1 {X : pX} {Q : Option Value → pMem → Prop} {m : pMem} {a0 : Nat} {a1 : Nat} {x2 : Int32} {x4 : Int32} {xs0 : Int32} {xs1 : Int32} {xs2 : Int32} (hW : Wf m) (c0 : SH[a0]? = some (.inl 0)) (c1 : SH[a1]? = some (.inl 8))
    (h1 : (xs1 + xs0) ≤ xs2 → vp_in x2 4)
    (h2 : (xs1 + xs0) ≤ xs2 → vp_in x2 4)
    (h3 : (xs1 + xs0) ≤ xs2 → vp_in x2 4)
    (h4 : (xs1 + xs0) ≤ xs2 → Q (some (.int (1 : Int32))) (uI (uI m (a1 + 1) x2.toNatClampNeg ((mI m (a1 + 1) x2.toNatClampNeg) + (1 : Int32))) (a1 + 2) x2.toNatClampNeg (0 : Int32)))
    (h5 : ¬ ((xs1 + xs0) ≤ xs2) → Q (some (.int (0 : Int32))) m) :
    Go X 2 mX0_walk Q 71 [(0, .ref a0), (1, .ref a1), (2, .int x2), (4, .int x4)] [.int xs0, .int xs1, .int xs2] m := by
  refine g_iadd dX0_walk_71 ?_
  refine g_icmp_ge 77 dX0_walk_72 (by decide) (fun q1 => ?_) (fun q1 => ?_)
  · refine g_aload_n 1 dX0_walk_77 rfl rfl ?_
    refine g_getR dX0_walk_78 fl0_31 rfl c1 (w8_1 hW c1) ?_
    refine g_iload_n 2 dX0_walk_81 rfl rfl ?_
    refine g_dup2 dX0_walk_82 rfl rfl ?_
    refine g_iald (j := x2.toNatClampNeg) dX0_walk_83 (s8_1 c1) (h1 q1) rfl ?_
    refine g_iconst (v := 1) dX0_walk_84 (by decide) ?_
    refine g_iadd dX0_walk_85 ?_
    refine g_iast (j := x2.toNatClampNeg) dX0_walk_86 (s8_1 c1) (h2 q1) rfl ?_
    refine g_aload_n 1 dX0_walk_87 rfl rfl ?_
    refine g_getR dX0_walk_88 fl0_39 rfl c1 (w8_2 hW c1) ?_
    refine g_iload_n 2 dX0_walk_91 rfl rfl ?_
    refine g_iconst (v := 0) dX0_walk_92 (by decide) ?_
    refine g_iast (j := x2.toNatClampNeg) dX0_walk_93 (s8_2 c1) (h3 q1) rfl ?_
    refine g_iconst (v := 1) dX0_walk_94 (by decide) ?_
    exact g_bret dX0_walk_95 rfl (Or.inr rfl) enSH (h4 q1)
  · refine g_iconst (v := 0) dX0_walk_75 (by decide) ?_
    exact g_bret dX0_walk_76 rfl (Or.inl rfl) enSH (h5 q1)
theorem bX0_peopleInTown_0 {X : pX} {Q : Option Value → pMem → Prop} {m : pMem} {a0 : Nat} {a1 : Nat} (hW : Wf m) (c0 : SH[a0]? = some (.inl 0)) (c1 : SH[a1]? = some (.inl 8))
    (h1 : Go X 0 mX0_peopleInTown Q 4 [(0, .ref a0), (1, .ref a1), (2, .int (0 : Int32)), (3, .int (0 : Int32))] [] m) :
    Go X 0 mX0_peopleInTown Q 0 [(0, .ref a0), (1, .ref a1)] [] m := by
  refine g_iconst (v := 0) dX0_peopleInTown_0 (by decide) ?_
  refine g_istore_n (ls2 := [(2, .int (0 : Int32)), (0, .ref a0), (1, .ref a1)]) dX0_peopleInTown_1 rfl (by decide) rfl ?_
  refine g_iconst (v := 0) dX0_peopleInTown_2 (by decide) ?_
  refine g_istore_n (ls2 := [(3, .int (0 : Int32)), (2, .int (0 : Int32)), (0, .ref a0), (1, .ref a1)]) dX0_peopleInTown_3 rfl (by decide) rfl ?_
  exact g_ls [2, 3, 1, 0] rfl h1
theorem bX0_peopleInTown_4 {X : pX} {Q : Option Value → pMem → Prop} {m : pMem} {a0 : Nat} {a1 : Nat} {x2 : Int32} {x3 : Int32} (hW : Wf m) (c0 : SH[a0]? = some (.inl 0)) (c1 : SH[a1]? = some (.inl 8))
    (h1 : (mI m 31 3) ≤ x3 → Q (some (.int x2)) m)
    (h2 : ¬ ((mI m 31 3) ≤ x3) → vp_in x3 4)
    (h3 : ¬ ((mI m 31 3) ≤ x3) → ¬ (mI m (a1 + 1) x3.toNatClampNeg) = (mI m 31 2) → Go X 0 mX0_peopleInTown Q 4 [(0, .ref a0), (1, .ref a1), (2, .int x2), (3, .int (x3 + (1 : Int32)))] [] m)
    (h4 : ¬ ((mI m 31 3) ≤ x3) → (mI m (a1 + 1) x3.toNatClampNeg) = (mI m 31 2) → Go X 0 mX0_peopleInTown Q 4 [(0, .ref a0), (1, .ref a1), (2, .int (x2 ||| ((1 : Int32) <<< (x3 &&& 31)))), (3, .int (x3 + (1 : Int32)))] [] m) :
    Go X 0 mX0_peopleInTown Q 4 [(0, .ref a0), (1, .ref a1), (2, .int x2), (3, .int x3)] [] m := by
  refine g_iload_n 3 dX0_peopleInTown_4 rfl rfl ?_
  refine g_aload_n 0 dX0_peopleInTown_5 rfl rfl ?_
  refine g_getR dX0_peopleInTown_6 fl0_17 rfl c0 (w0_0 hW c0) ?_
  refine g_getI dX0_peopleInTown_9 fl0_25 sh31 ?_
  refine g_icmp_ge 43 dX0_peopleInTown_12 (by decide) (fun q1 => ?_) (fun q1 => ?_)
  · refine g_iload_n 2 dX0_peopleInTown_43 rfl rfl ?_
    exact g_iret dX0_peopleInTown_44 rfl enSH (h1 q1)
  · refine g_aload_n 1 dX0_peopleInTown_15 rfl rfl ?_
    refine g_getR dX0_peopleInTown_16 fl0_31 rfl c1 (w8_1 hW c1) ?_
    refine g_iload_n 3 dX0_peopleInTown_19 rfl rfl ?_
    refine g_iald (j := x3.toNatClampNeg) dX0_peopleInTown_20 (s8_1 c1) (h2 q1) rfl ?_
    refine g_aload_n 0 dX0_peopleInTown_21 rfl rfl ?_
    refine g_getR dX0_peopleInTown_22 fl0_17 rfl c0 (w0_0 hW c0) ?_
    refine g_getI dX0_peopleInTown_25 fl0_36 sh31 ?_
    refine g_icmp_ne 37 dX0_peopleInTown_28 (by decide) (fun q2 => ?_) (fun q2 => ?_)
    · refine g_iinc (v := x3 + (1 : Int32)) (ls2 := [(3, .int (x3 + (1 : Int32))), (0, .ref a0), (1, .ref a1), (2, .int x2)]) 3 dX0_peopleInTown_37 rfl rfl (by decide) rfl ?_
      refine g_goto 4 dX0_peopleInTown_40 (by decide) ?_
      exact g_ls [1, 2, 3, 0] rfl (h3 q1 q2)
    · refine g_iload_n 2 dX0_peopleInTown_31 rfl rfl ?_
      refine g_iconst (v := 1) dX0_peopleInTown_32 (by decide) ?_
      refine g_iload_n 3 dX0_peopleInTown_33 rfl rfl ?_
      refine g_ishl dX0_peopleInTown_34 ?_
      refine g_ior dX0_peopleInTown_35 ?_
      refine g_istore_n (ls2 := [(2, .int (x2 ||| ((1 : Int32) <<< (x3 &&& 31)))), (0, .ref a0), (1, .ref a1), (3, .int x3)]) dX0_peopleInTown_36 rfl (by decide) rfl ?_
      refine g_iinc (v := x3 + (1 : Int32)) (ls2 := [(3, .int (x3 + (1 : Int32))), (2, .int (x2 ||| ((1 : Int32) <<< (x3 &&& 31)))), (0, .ref a0), (1, .ref a1)]) 3 dX0_peopleInTown_37 rfl rfl (by decide) rfl ?_
      refine g_goto 4 dX0_peopleInTown_40 (by decide) ?_
      exact g_ls [2, 3, 1, 0] rfl (h4 q1 q2)
theorem bX0_worthInTown_0 {X : pX} {Q : Option Value → pMem → Prop} {m : pMem} {a0 : Nat} {a1 : Nat} (hW : Wf m) (c0 : SH[a0]? = some (.inl 0)) (c1 : SH[a1]? = some (.inl 8))
    (h1 : Cl X 0 mX8_thingsAt [.ref a1, .int ((10 : Int32) + (mI m 31 2))] m (fun v m2 => Go X 2 mX0_worthInTown Q 14 [(0, .ref a0), (1, .ref a1)] (v.toList ++ []) m2)) :
    Go X 2 mX0_worthInTown Q 0 [(0, .ref a0), (1, .ref a1)] [] m := by
  refine g_aload_n 1 dX0_worthInTown_0 rfl rfl ?_
  refine g_bipush (v := 10) dX0_worthInTown_1 (by decide) ?_
  refine g_aload_n 0 dX0_worthInTown_3 rfl rfl ?_
  refine g_getR dX0_worthInTown_4 fl0_17 rfl c0 (w0_0 hW c0) ?_
  refine g_getI dX0_worthInTown_7 fl0_36 sh31 ?_
  refine g_iadd dX0_worthInTown_10 ?_
  exact g_callV (As := [.int ((10 : Int32) + (mI m 31 2))]) (st := []) dX0_worthInTown_11 clX0_101 c1 rfl rfl (Nat.le_of_ble_eq_true rfl) (rmSH (by decide) (by decide)) h1
theorem bX0_worthInTown_14 {X : pX} {Q : Option Value → pMem → Prop} {m : pMem} {a0 : Nat} {a1 : Nat} {xs0 : Int32} (hW : Wf m) (c0 : SH[a0]? = some (.inl 0)) (c1 : SH[a1]? = some (.inl 8))
    (h1 : Go X 2 mX0_worthInTown Q 17 [(0, .ref a0), (1, .ref a1), (2, .int xs0), (3, .int (0 : Int32))] [] m) :
    Go X 2 mX0_worthInTown Q 14 [(0, .ref a0), (1, .ref a1)] [.int xs0] m := by
  refine g_istore_n (ls2 := [(2, .int xs0), (0, .ref a0), (1, .ref a1)]) dX0_worthInTown_14 rfl (by decide) rfl ?_
  refine g_iconst (v := 0) dX0_worthInTown_15 (by decide) ?_
  refine g_istore_n (ls2 := [(3, .int (0 : Int32)), (2, .int xs0), (0, .ref a0), (1, .ref a1)]) dX0_worthInTown_16 rfl (by decide) rfl ?_
  exact g_ls [2, 3, 1, 0] rfl h1
theorem bX0_worthInTown_17 {X : pX} {Q : Option Value → pMem → Prop} {m : pMem} {a0 : Nat} {a1 : Nat} {x2 : Int32} {x3 : Int32} (hW : Wf m) (c0 : SH[a0]? = some (.inl 0)) (c1 : SH[a1]? = some (.inl 8))
    (h1 : (mI m 31 3) ≤ x3 → Cl X 0 mX4_worthOf [.ref 31, .int x2] m (fun v m2 => Go X 2 mX0_worthInTown Q 66 [(0, .ref a0), (1, .ref a1), (2, .int x2), (3, .int x3)] (v.toList ++ []) m2))
    (h2 : ¬ ((mI m 31 3) ≤ x3) → vp_in x3 4)
    (h3 : ¬ ((mI m 31 3) ≤ x3) → ¬ (mI m (a1 + 1) x3.toNatClampNeg) = (mI m 31 2) → Go X 2 mX0_worthInTown Q 17 [(0, .ref a0), (1, .ref a1), (2, .int x2), (3, .int (x3 + (1 : Int32)))] [] m)
    (h4 : ¬ ((mI m 31 3) ≤ x3) → (mI m (a1 + 1) x3.toNatClampNeg) = (mI m 31 2) → Cl X 1 mX8_hadBy [.ref a1, .int x3] m (fun v m2 => Go X 2 mX0_worthInTown Q 50 [(0, .ref a0), (1, .ref a1), (2, .int x2), (3, .int x3)] (v.toList ++ [.int x2]) m2)) :
    Go X 2 mX0_worthInTown Q 17 [(0, .ref a0), (1, .ref a1), (2, .int x2), (3, .int x3)] [] m := by
  refine g_iload_n 3 dX0_worthInTown_17 rfl rfl ?_
  refine g_aload_n 0 dX0_worthInTown_18 rfl rfl ?_
  refine g_getR dX0_worthInTown_19 fl0_17 rfl c0 (w0_0 hW c0) ?_
  refine g_getI dX0_worthInTown_22 fl0_25 sh31 ?_
  refine g_icmp_ge 58 dX0_worthInTown_25 (by decide) (fun q1 => ?_) (fun q1 => ?_)
  · refine g_aload_n 0 dX0_worthInTown_58 rfl rfl ?_
    refine g_getR dX0_worthInTown_59 fl0_17 rfl c0 (w0_0 hW c0) ?_
    refine g_iload_n 2 dX0_worthInTown_62 rfl rfl ?_
    exact g_callV (As := [.int x2]) (st := []) dX0_worthInTown_63 clX0_104 sh31 rfl rfl (Nat.le_of_ble_eq_true rfl) (rmSH (by decide) (by decide)) (h1 q1)
  · refine g_aload_n 1 dX0_worthInTown_28 rfl rfl ?_
    refine g_getR dX0_worthInTown_29 fl0_31 rfl c1 (w8_1 hW c1) ?_
    refine g_iload_n 3 dX0_worthInTown_32 rfl rfl ?_
    refine g_iald (j := x3.toNatClampNeg) dX0_worthInTown_33 (s8_1 c1) (h2 q1) rfl ?_
    refine g_aload_n 0 dX0_worthInTown_34 rfl rfl ?_
    refine g_getR dX0_worthInTown_35 fl0_17 rfl c0 (w0_0 hW c0) ?_
    refine g_getI dX0_worthInTown_38 fl0_36 sh31 ?_
    refine g_icmp_ne 52 dX0_worthInTown_41 (by decide) (fun q2 => ?_) (fun q2 => ?_)
    · refine g_iinc (v := x3 + (1 : Int32)) (ls2 := [(3, .int (x3 + (1 : Int32))), (0, .ref a0), (1, .ref a1), (2, .int x2)]) 3 dX0_worthInTown_52 rfl rfl (by decide) rfl ?_
      refine g_goto 17 dX0_worthInTown_55 (by decide) ?_
      exact g_ls [1, 2, 3, 0] rfl (h3 q1 q2)
    · refine g_iload_n 2 dX0_worthInTown_44 rfl rfl ?_
      refine g_aload_n 1 dX0_worthInTown_45 rfl rfl ?_
      refine g_iload_n 3 dX0_worthInTown_46 rfl rfl ?_
      exact g_callV (As := [.int x3]) (st := [.int x2]) dX0_worthInTown_47 clX0_74 c1 rfl rfl (Nat.le_of_ble_eq_true rfl) (rmSH (by decide) (by decide)) (h4 q1 q2)
theorem bX0_worthInTown_66 {X : pX} {Q : Option Value → pMem → Prop} {m : pMem} {a0 : Nat} {a1 : Nat} {x2 : Int32} {x3 : Int32} {xs0 : Int32} (hW : Wf m) (c0 : SH[a0]? = some (.inl 0)) (c1 : SH[a1]? = some (.inl 8))
    (h1 : Q (some (.int xs0)) m) :
    Go X 2 mX0_worthInTown Q 66 [(0, .ref a0), (1, .ref a1), (2, .int x2), (3, .int x3)] [.int xs0] m := by
  exact g_iret dX0_worthInTown_66 rfl enSH h1
theorem bX0_worthInTown_50 {X : pX} {Q : Option Value → pMem → Prop} {m : pMem} {a0 : Nat} {a1 : Nat} {x2 : Int32} {x3 : Int32} {xs0 : Int32} {xs1 : Int32} (hW : Wf m) (c0 : SH[a0]? = some (.inl 0)) (c1 : SH[a1]? = some (.inl 8))
    (h1 : Go X 2 mX0_worthInTown Q 17 [(0, .ref a0), (1, .ref a1), (2, .int (xs1 ||| xs0)), (3, .int (x3 + (1 : Int32)))] [] m) :
    Go X 2 mX0_worthInTown Q 50 [(0, .ref a0), (1, .ref a1), (2, .int x2), (3, .int x3)] [.int xs0, .int xs1] m := by
  refine g_ior dX0_worthInTown_50 ?_
  refine g_istore_n (ls2 := [(2, .int (xs1 ||| xs0)), (0, .ref a0), (1, .ref a1), (3, .int x3)]) dX0_worthInTown_51 rfl (by decide) rfl ?_
  refine g_iinc (v := x3 + (1 : Int32)) (ls2 := [(3, .int (x3 + (1 : Int32))), (2, .int (xs1 ||| xs0)), (0, .ref a0), (1, .ref a1)]) 3 dX0_worthInTown_52 rfl rfl (by decide) rfl ?_
  refine g_goto 17 dX0_worthInTown_55 (by decide) ?_
  exact g_ls [2, 3, 1, 0] rfl h1
