theorem bX8_copy_0 {X : pX} {Q : Option Value → pMem → Prop} {m : pMem} {a0 : Nat} {a1 : Nat} (hW : Wf m) (c0 : SH[a0]? = some (.inl 8)) (c1 : SH[a1]? = some (.inl 8))
    (h1 : Q none (uC (uC (uC (uI m a0 0 (mI m a1 0)) (a1 + 1) 0 (a0 + 1) 0 4) (a1 + 2) 0 (a0 + 2) 0 4) (a1 + 3) 0 (a0 + 3) 0 6)) :
    Go X 1 mX8_copy Q 0 [(0, .ref a0), (1, .ref a1)] [] m := by
  refine g_aload_n 0 dX8_copy_0 rfl rfl ?_
  refine g_aload_n 1 dX8_copy_1 rfl rfl ?_
  refine g_getI dX8_copy_2 fl8_21 c1 ?_
  refine g_putI dX8_copy_5 fl8_21 (fun h => by cases h) c0 ?_
  refine g_aload_n 1 dX8_copy_8 rfl rfl ?_
  refine g_getR dX8_copy_9 fl8_9 rfl c1 (w8_1 hW c1) ?_
  refine g_iconst (v := 0) dX8_copy_12 (by decide) ?_
  refine g_aload_n 0 dX8_copy_13 rfl rfl ?_
  refine g_getR dX8_copy_14 fl8_9 rfl c0 (w8_1 hW c0) ?_
  refine g_iconst (v := 0) dX8_copy_17 (by decide) ?_
  refine g_iconst (v := 4) dX8_copy_18 (by decide) ?_
  refine g_copyN (s1 := 0) (d1 := 0) (n1 := 4) dX8_copy_19 acwX8_25 (s8_1 c1) (s8_1 c0) (by decide) (by decide) (by decide) (by decide) (by decide) (by decide) (Nat.le_of_ble_eq_true rfl) ⟨by decide, by decide⟩ ?_
  refine g_aload_n 1 dX8_copy_22 rfl rfl ?_
  refine g_getR dX8_copy_23 fl8_15 rfl c1 (w8_2 hW c1) ?_
  refine g_iconst (v := 0) dX8_copy_26 (by decide) ?_
  refine g_aload_n 0 dX8_copy_27 rfl rfl ?_
  refine g_getR dX8_copy_28 fl8_15 rfl c0 (w8_2 hW c0) ?_
  refine g_iconst (v := 0) dX8_copy_31 (by decide) ?_
  refine g_iconst (v := 4) dX8_copy_32 (by decide) ?_
  refine g_copyN (s1 := 0) (d1 := 0) (n1 := 4) dX8_copy_33 acwX8_25 (s8_2 c1) (s8_2 c0) (by decide) (by decide) (by decide) (by decide) (by decide) (by decide) (Nat.le_of_ble_eq_true rfl) ⟨by decide, by decide⟩ ?_
  refine g_aload_n 1 dX8_copy_36 rfl rfl ?_
  refine g_getR dX8_copy_37 fl8_18 rfl c1 (w8_3 hW c1) ?_
  refine g_iconst (v := 0) dX8_copy_40 (by decide) ?_
  refine g_aload_n 0 dX8_copy_41 rfl rfl ?_
  refine g_getR dX8_copy_42 fl8_18 rfl c0 (w8_3 hW c0) ?_
  refine g_iconst (v := 0) dX8_copy_45 (by decide) ?_
  refine g_bipush (v := 6) dX8_copy_46 (by decide) ?_
  refine g_copyN (s1 := 0) (d1 := 0) (n1 := 6) dX8_copy_48 acwX8_25 (s8_3 c1) (s8_3 c0) (by decide) (by decide) (by decide) (by decide) (by decide) (by decide) (Nat.le_of_ble_eq_true rfl) ⟨by decide, by decide⟩ ?_
  exact g_vret dX8_copy_51 rfl enSH h1
theorem bX8_thingsAt_0 {X : pX} {Q : Option Value → pMem → Prop} {m : pMem} {a0 : Nat} {x1 : Int32} (hW : Wf m) (c0 : SH[a0]? = some (.inl 8))
    (h1 : Go X 0 mX8_thingsAt Q 4 [(0, .ref a0), (1, .int x1), (2, .int (0 : Int32)), (3, .int (0 : Int32))] [] m) :
    Go X 0 mX8_thingsAt Q 0 [(0, .ref a0), (1, .int x1)] [] m := by
  refine g_iconst (v := 0) dX8_thingsAt_0 (by decide) ?_
  refine g_istore_n (ls2 := [(2, .int (0 : Int32)), (0, .ref a0), (1, .int x1)]) dX8_thingsAt_1 rfl (by decide) rfl ?_
  refine g_iconst (v := 0) dX8_thingsAt_2 (by decide) ?_
  refine g_istore_n (ls2 := [(3, .int (0 : Int32)), (2, .int (0 : Int32)), (0, .ref a0), (1, .int x1)]) dX8_thingsAt_3 rfl (by decide) rfl ?_
  exact g_ls [2, 3, 1, 0] rfl h1
theorem bX8_thingsAt_4 {X : pX} {Q : Option Value → pMem → Prop} {m : pMem} {a0 : Nat} {x1 : Int32} {x2 : Int32} {x3 : Int32} (hW : Wf m) (c0 : SH[a0]? = some (.inl 8))
    (h1 : (6 : Int32) ≤ x3 → Q (some (.int x2)) m)
    (h2 : ¬ ((6 : Int32) ≤ x3) → vp_in x3 6)
    (h3 : ¬ ((6 : Int32) ≤ x3) → ¬ (mI m (a0 + 3) x3.toNatClampNeg) = x1 → Go X 0 mX8_thingsAt Q 4 [(0, .ref a0), (1, .int x1), (2, .int x2), (3, .int (x3 + (1 : Int32)))] [] m)
    (h4 : ¬ ((6 : Int32) ≤ x3) → (mI m (a0 + 3) x3.toNatClampNeg) = x1 → Go X 0 mX8_thingsAt Q 4 [(0, .ref a0), (1, .int x1), (2, .int (x2 ||| ((1 : Int32) <<< (x3 &&& 31)))), (3, .int (x3 + (1 : Int32)))] [] m) :
    Go X 0 mX8_thingsAt Q 4 [(0, .ref a0), (1, .int x1), (2, .int x2), (3, .int x3)] [] m := by
  refine g_iload_n 3 dX8_thingsAt_4 rfl rfl ?_
  refine g_bipush (v := 6) dX8_thingsAt_5 (by decide) ?_
  refine g_icmp_ge 32 dX8_thingsAt_7 (by decide) (fun q1 => ?_) (fun q1 => ?_)
  · refine g_iload_n 2 dX8_thingsAt_32 rfl rfl ?_
    exact g_iret dX8_thingsAt_33 rfl enSH (h1 q1)
  · refine g_aload_n 0 dX8_thingsAt_10 rfl rfl ?_
    refine g_getR dX8_thingsAt_11 fl8_18 rfl c0 (w8_3 hW c0) ?_
    refine g_iload_n 3 dX8_thingsAt_14 rfl rfl ?_
    refine g_iald (j := x3.toNatClampNeg) dX8_thingsAt_15 (s8_3 c0) (h2 q1) rfl ?_
    refine g_iload_n 1 dX8_thingsAt_16 rfl rfl ?_
    refine g_icmp_ne 26 dX8_thingsAt_17 (by decide) (fun q2 => ?_) (fun q2 => ?_)
    · refine g_iinc (v := x3 + (1 : Int32)) (ls2 := [(3, .int (x3 + (1 : Int32))), (0, .ref a0), (1, .int x1), (2, .int x2)]) 3 dX8_thingsAt_26 rfl rfl (by decide) rfl ?_
      refine g_goto 4 dX8_thingsAt_29 (by decide) ?_
      exact g_ls [1, 2, 3, 0] rfl (h3 q1 q2)
    · refine g_iload_n 2 dX8_thingsAt_20 rfl rfl ?_
      refine g_iconst (v := 1) dX8_thingsAt_21 (by decide) ?_
      refine g_iload_n 3 dX8_thingsAt_22 rfl rfl ?_
      refine g_ishl dX8_thingsAt_23 ?_
      refine g_ior dX8_thingsAt_24 ?_
      refine g_istore_n (ls2 := [(2, .int (x2 ||| ((1 : Int32) <<< (x3 &&& 31)))), (0, .ref a0), (1, .int x1), (3, .int x3)]) dX8_thingsAt_25 rfl (by decide) rfl ?_
      refine g_iinc (v := x3 + (1 : Int32)) (ls2 := [(3, .int (x3 + (1 : Int32))), (2, .int (x2 ||| ((1 : Int32) <<< (x3 &&& 31)))), (0, .ref a0), (1, .int x1)]) 3 dX8_thingsAt_26 rfl rfl (by decide) rfl ?_
      refine g_goto 4 dX8_thingsAt_29 (by decide) ?_
      exact g_ls [2, 3, 1, 0] rfl (h4 q1 q2)
theorem bX8_hadBy_0 {X : pX} {Q : Option Value → pMem → Prop} {m : pMem} {a0 : Nat} {x1 : Int32} (hW : Wf m) (c0 : SH[a0]? = some (.inl 8))
    (h1 : Cl X 0 mX8_thingsAt [.ref a0, .int x1] m (fun v m2 => Go X 1 mX8_hadBy Q 5 [(0, .ref a0), (1, .int x1)] (v.toList ++ []) m2)) :
    Go X 1 mX8_hadBy Q 0 [(0, .ref a0), (1, .int x1)] [] m := by
  refine g_aload_n 0 dX8_hadBy_0 rfl rfl ?_
  refine g_iload_n 1 dX8_hadBy_1 rfl rfl ?_
  exact g_callV (As := [.int x1]) (st := []) dX8_hadBy_2 clX8_31 c0 rfl rfl (Nat.le_of_ble_eq_true rfl) (rmSH (by decide) (by decide)) h1
theorem bX8_hadBy_5 {X : pX} {Q : Option Value → pMem → Prop} {m : pMem} {a0 : Nat} {x1 : Int32} {xs0 : Int32} (hW : Wf m) (c0 : SH[a0]? = some (.inl 8))
    (h1 : Q (some (.int xs0)) m) :
    Go X 1 mX8_hadBy Q 5 [(0, .ref a0), (1, .int x1)] [.int xs0] m := by
  exact g_iret dX8_hadBy_5 rfl enSH h1
theorem bX8_manyOf_0 {X : pX} {Q : Option Value → pMem → Prop} {m : pMem} {a0 : Nat} {x1 : Int32} (hW : Wf m) (c0 : SH[a0]? = some (.inl 8))
    (h1 : Cl X 0 mX8_thingsAt [.ref a0, .int x1] m (fun v m2 => Go X 1 mX8_manyOf Q 5 [(0, .ref a0), (1, .int x1)] (v.toList ++ []) m2)) :
    Go X 1 mX8_manyOf Q 0 [(0, .ref a0), (1, .int x1)] [] m := by
  refine g_aload_n 0 dX8_manyOf_0 rfl rfl ?_
  refine g_iload_n 1 dX8_manyOf_1 rfl rfl ?_
  exact g_callV (As := [.int x1]) (st := []) dX8_manyOf_2 clX8_31 c0 rfl rfl (Nat.le_of_ble_eq_true rfl) (rmSH (by decide) (by decide)) h1
theorem bX8_manyOf_5 {X : pX} {Q : Option Value → pMem → Prop} {m : pMem} {a0 : Nat} {x1 : Int32} {xs0 : Int32} (hW : Wf m) (c0 : SH[a0]? = some (.inl 8))
    (h1 : Cl X 0 mJ6_bitCount_0f7a4 [.int xs0] m (fun v m2 => Go X 1 mX8_manyOf Q 8 [(0, .ref a0), (1, .int x1)] (v.toList ++ []) m2)) :
    Go X 1 mX8_manyOf Q 5 [(0, .ref a0), (1, .int x1)] [.int xs0] m := by
  exact g_callS (As := [.int xs0]) (st := []) dX8_manyOf_5 clX8_35 rfl rfl (Nat.le_of_ble_eq_true rfl) (rmSH (by decide) (by decide)) h1
theorem bX8_manyOf_8 {X : pX} {Q : Option Value → pMem → Prop} {m : pMem} {a0 : Nat} {x1 : Int32} {xs0 : Int32} (hW : Wf m) (c0 : SH[a0]? = some (.inl 8))
    (h1 : Q (some (.int xs0)) m) :
    Go X 1 mX8_manyOf Q 8 [(0, .ref a0), (1, .int x1)] [.int xs0] m := by
  exact g_iret dX8_manyOf_8 rfl enSH h1
theorem bX8_lyingBy_0 {X : pX} {Q : Option Value → pMem → Prop} {m : pMem} {a0 : Nat} {x1 : Int32} (hW : Wf m) (c0 : SH[a0]? = some (.inl 8))
    (h1 : vp_in x1 4)
    (h2 : Cl X 0 mX8_thingsAt [.ref a0, .int ((10 : Int32) + (mI m (a0 + 1) x1.toNatClampNeg))] m (fun v m2 => Go X 1 mX8_lyingBy Q 13 [(0, .ref a0), (1, .int x1)] (v.toList ++ []) m2)) :
    Go X 1 mX8_lyingBy Q 0 [(0, .ref a0), (1, .int x1)] [] m := by
  refine g_aload_n 0 dX8_lyingBy_0 rfl rfl ?_
  refine g_bipush (v := 10) dX8_lyingBy_1 (by decide) ?_
  refine g_aload_n 0 dX8_lyingBy_3 rfl rfl ?_
  refine g_getR dX8_lyingBy_4 fl8_9 rfl c0 (w8_1 hW c0) ?_
  refine g_iload_n 1 dX8_lyingBy_7 rfl rfl ?_
  refine g_iald (j := x1.toNatClampNeg) dX8_lyingBy_8 (s8_1 c0) h1 rfl ?_
  refine g_iadd dX8_lyingBy_9 ?_
  exact g_callV (As := [.int ((10 : Int32) + (mI m (a0 + 1) x1.toNatClampNeg))]) (st := []) dX8_lyingBy_10 clX8_31 c0 rfl rfl (Nat.le_of_ble_eq_true rfl) (rmSH (by decide) (by decide)) h2
theorem bX8_lyingBy_13 {X : pX} {Q : Option Value → pMem → Prop} {m : pMem} {a0 : Nat} {x1 : Int32} {xs0 : Int32} (hW : Wf m) (c0 : SH[a0]? = some (.inl 8))
    (h1 : Q (some (.int xs0)) m) :
    Go X 1 mX8_lyingBy Q 13 [(0, .ref a0), (1, .int x1)] [.int xs0] m := by
  exact g_iret dX8_lyingBy_13 rfl enSH h1
