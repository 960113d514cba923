theorem bX3_canBeCarried_0 {X : pX} {Q : Option Value → pMem → Prop} {m : pMem} {a0 : Nat} {x1 : Int32} (hW : Wf m) (c0 : SH[a0]? = some (.inl 3))
    (h1 : x1 < 0 → Q (some (.int (0 : Int32))) m)
    (h2 : ¬ (x1 < 0) → Cl X 0 mX4_allThings [.ref 31] m (fun v m2 => Go X 1 mX3_canBeCarried Q 12 [(0, .ref a0), (1, .int x1)] (v.toList ++ [.int x1]) m2)) :
    Go X 1 mX3_canBeCarried Q 0 [(0, .ref a0), (1, .int x1)] [] m := by
  refine g_iload_n 1 dX3_canBeCarried_0 rfl rfl ?_
  refine g_if_lt 33 dX3_canBeCarried_1 (by decide) (fun q1 => ?_) (fun q1 => ?_)
  · refine g_iconst (v := 0) dX3_canBeCarried_33 (by decide) ?_
    exact g_bret dX3_canBeCarried_34 rfl (Or.inl rfl) enSH (h1 q1)
  · refine g_iload_n 1 dX3_canBeCarried_4 rfl rfl ?_
    refine g_aload_n 0 dX3_canBeCarried_5 rfl rfl ?_
    refine g_getR dX3_canBeCarried_6 fl3_9 rfl c0 (w3_0 hW c0) ?_
    exact g_callV (As := []) (st := [.int x1]) dX3_canBeCarried_9 clX3_19 sh31 rfl rfl (Nat.le_of_ble_eq_true rfl) (rmSH (by decide) (by decide)) (h2 q1)
theorem bX3_canBeCarried_12 {X : pX} {Q : Option Value → pMem → Prop} {m : pMem} {a0 : Nat} {x1 : Int32} {xs0 : Int32} {xs1 : Int32} (hW : Wf m) (c0 : SH[a0]? = some (.inl 3))
    (h1 : xs0 < xs1 → Q (some (.int (0 : Int32))) m)
    (h2 : ¬ (xs0 < xs1) → Cl X 0 mJ6_bitCount_0f7a4 [.int x1] m (fun v m2 => Go X 1 mX3_canBeCarried Q 19 [(0, .ref a0), (1, .int x1)] (v.toList ++ []) m2)) :
    Go X 1 mX3_canBeCarried Q 12 [(0, .ref a0), (1, .int x1)] [.int xs0, .int xs1] m := by
  refine g_icmp_gt 33 dX3_canBeCarried_12 (by decide) (fun q1 => ?_) (fun q1 => ?_)
  · refine g_iconst (v := 0) dX3_canBeCarried_33 (by decide) ?_
    exact g_bret dX3_canBeCarried_34 rfl (Or.inl rfl) enSH (h1 q1)
  · refine g_iload_n 1 dX3_canBeCarried_15 rfl rfl ?_
    exact g_callS (As := [.int x1]) (st := []) dX3_canBeCarried_16 clX3_25 rfl rfl (Nat.le_of_ble_eq_true rfl) (rmSH (by decide) (by decide)) (h2 q1)
theorem bX3_canBeCarried_19 {X : pX} {Q : Option Value → pMem → Prop} {m : pMem} {a0 : Nat} {x1 : Int32} {xs0 : Int32} (hW : Wf m) (c0 : SH[a0]? = some (.inl 3))
    (h1 : (mI m 31 1) < xs0 → Q (some (.int (0 : Int32))) m)
    (h2 : ¬ ((mI m 31 1) < xs0) → Q (some (.int (1 : Int32))) m) :
    Go X 1 mX3_canBeCarried Q 19 [(0, .ref a0), (1, .int x1)] [.int xs0] m := by
  refine g_aload_n 0 dX3_canBeCarried_19 rfl rfl ?_
  refine g_getR dX3_canBeCarried_20 fl3_9 rfl c0 (w3_0 hW c0) ?_
  refine g_getI dX3_canBeCarried_23 fl3_31 sh31 ?_
  refine g_icmp_gt 33 dX3_canBeCarried_26 (by decide) (fun q1 => ?_) (fun q1 => ?_)
  · refine g_iconst (v := 0) dX3_canBeCarried_33 (by decide) ?_
    exact g_bret dX3_canBeCarried_34 rfl (Or.inl rfl) enSH (h1 q1)
  · refine g_iconst (v := 1) dX3_canBeCarried_29 (by decide) ?_
    refine g_goto 34 dX3_canBeCarried_30 (by decide) ?_
    exact g_bret dX3_canBeCarried_34 rfl (Or.inr rfl) enSH (h2 q1)
theorem bX3_daysToTown_0 {X : pX} {Q : Option Value → pMem → Prop} {m : pMem} {a0 : Nat} {x1 : Int32} {x2 : Int32} (hW : Wf m) (c0 : SH[a0]? = some (.inl 3))
    (h1 : vp_in x1 4)
    (h2 : Cl X 1 mX4_daysFor [.ref 31, .int x1, .int (mI m 38 x1.toNatClampNeg), .int (mI m 31 2), .int x2] m (fun v m2 => Go X 2 mX3_daysToTown Q 25 [(0, .ref a0), (1, .int x1), (2, .int x2)] (v.toList ++ []) m2)) :
    Go X 2 mX3_daysToTown Q 0 [(0, .ref a0), (1, .int x1), (2, .int x2)] [] m := by
  refine g_aload_n 0 dX3_daysToTown_0 rfl rfl ?_
  refine g_getR dX3_daysToTown_1 fl3_9 rfl c0 (w3_0 hW c0) ?_
  refine g_iload_n 1 dX3_daysToTown_4 rfl rfl ?_
  refine g_aload_n 0 dX3_daysToTown_5 rfl rfl ?_
  refine g_getR dX3_daysToTown_6 fl3_15 rfl c0 (w3_1 hW c0) ?_
  refine g_getR dX3_daysToTown_9 fl3_35 rfl sh37 (w8_1 hW sh37) ?_
  refine g_iload_n 1 dX3_daysToTown_12 rfl rfl ?_
  refine g_iald (j := x1.toNatClampNeg) dX3_daysToTown_13 (s8_1 sh37) h1 rfl ?_
  refine g_aload_n 0 dX3_daysToTown_14 rfl rfl ?_
  refine g_getR dX3_daysToTown_15 fl3_9 rfl c0 (w3_0 hW c0) ?_
  refine g_getI dX3_daysToTown_18 fl3_41 sh31 ?_
  refine g_iload_n 2 dX3_daysToTown_21 rfl rfl ?_
  exact g_callV (As := [.int x1, .int (mI m 38 x1.toNatClampNeg), .int (mI m 31 2), .int x2]) (st := []) dX3_daysToTown_22 clX3_44 sh31 rfl rfl (Nat.le_of_ble_eq_true rfl) (rmSH (by decide) (by decide)) h2
theorem bX3_daysToTown_25 {X : pX} {Q : Option Value → pMem → Prop} {m : pMem} {a0 : Nat} {x1 : Int32} {x2 : Int32} {xs0 : Int32} (hW : Wf m) (c0 : SH[a0]? = some (.inl 3))
    (h1 : Q (some (.int xs0)) m) :
    Go X 2 mX3_daysToTown Q 25 [(0, .ref a0), (1, .int x1), (2, .int x2)] [.int xs0] m := by
  exact g_iret dX3_daysToTown_25 rfl enSH h1
theorem bX3_bestLoad_0 {X : pX} {Q : Option Value → pMem → Prop} {m : pMem} {a0 : Nat} {x1 : Int32} {x2 : Int32} (hW : Wf m) (c0 : SH[a0]? = some (.inl 3))
    (h1 : Cl X 1 mX8_hadBy [.ref 37, .int x1] m (fun v m2 => Go X 3 mX3_bestLoad Q 8 [(0, .ref a0), (1, .int x1), (2, .int x2)] (v.toList ++ []) m2)) :
    Go X 3 mX3_bestLoad Q 0 [(0, .ref a0), (1, .int x1), (2, .int x2)] [] m := by
  refine g_aload_n 0 dX3_bestLoad_0 rfl rfl ?_
  refine g_getR dX3_bestLoad_1 fl3_15 rfl c0 (w3_1 hW c0) ?_
  refine g_iload_n 1 dX3_bestLoad_4 rfl rfl ?_
  exact g_callV (As := [.int x1]) (st := []) dX3_bestLoad_5 clX3_48 sh37 rfl rfl (Nat.le_of_ble_eq_true rfl) (rmSH (by decide) (by decide)) h1
theorem bX3_bestLoad_8 {X : pX} {Q : Option Value → pMem → Prop} {m : pMem} {a0 : Nat} {x1 : Int32} {x2 : Int32} {xs0 : Int32} (hW : Wf m) (c0 : SH[a0]? = some (.inl 3))
    (h1 : Cl X 1 mX8_lyingBy [.ref 37, .int x1] m (fun v m2 => Go X 3 mX3_bestLoad Q 16 [(0, .ref a0), (1, .int x1), (2, .int x2)] (v.toList ++ [.int xs0]) m2)) :
    Go X 3 mX3_bestLoad Q 8 [(0, .ref a0), (1, .int x1), (2, .int x2)] [.int xs0] m := by
  refine g_aload_n 0 dX3_bestLoad_8 rfl rfl ?_
  refine g_getR dX3_bestLoad_9 fl3_15 rfl c0 (w3_1 hW c0) ?_
  refine g_iload_n 1 dX3_bestLoad_12 rfl rfl ?_
  exact g_callV (As := [.int x1]) (st := [.int xs0]) dX3_bestLoad_13 clX3_51 sh37 rfl rfl (Nat.le_of_ble_eq_true rfl) (rmSH (by decide) (by decide)) h1
theorem bX3_bestLoad_16 {X : pX} {Q : Option Value → pMem → Prop} {m : pMem} {a0 : Nat} {x1 : Int32} {x2 : Int32} {xs0 : Int32} {xs1 : Int32} (hW : Wf m) (c0 : SH[a0]? = some (.inl 3))
    (h1 : Go X 3 mX3_bestLoad Q 30 [(0, .ref a0), (1, .int x1), (2, .int x2), (3, .int (xs1 ||| xs0)), (4, .int (-1 : Int32)), (5, .int (0 : Int32)), (6, .int (0 : Int32)), (7, .int (0 : Int32))] [] m) :
    Go X 3 mX3_bestLoad Q 16 [(0, .ref a0), (1, .int x1), (2, .int x2)] [.int xs0, .int xs1] m := by
  refine g_ior dX3_bestLoad_16 ?_
  refine g_istore_n (ls2 := [(3, .int (xs1 ||| xs0)), (0, .ref a0), (1, .int x1), (2, .int x2)]) dX3_bestLoad_17 rfl (by decide) rfl ?_
  refine g_iconst (v := -1) dX3_bestLoad_18 (by decide) ?_
  refine g_istore (ls2 := [(4, .int (-1 : Int32)), (3, .int (xs1 ||| xs0)), (0, .ref a0), (1, .int x1), (2, .int x2)]) dX3_bestLoad_19 (by decide) rfl ?_
  refine g_iconst (v := 0) dX3_bestLoad_21 (by decide) ?_
  refine g_istore (ls2 := [(5, .int (0 : Int32)), (4, .int (-1 : Int32)), (3, .int (xs1 ||| xs0)), (0, .ref a0), (1, .int x1), (2, .int x2)]) dX3_bestLoad_22 (by decide) rfl ?_
  refine g_iconst (v := 0) dX3_bestLoad_24 (by decide) ?_
  refine g_istore (ls2 := [(6, .int (0 : Int32)), (5, .int (0 : Int32)), (4, .int (-1 : Int32)), (3, .int (xs1 ||| xs0)), (0, .ref a0), (1, .int x1), (2, .int x2)]) dX3_bestLoad_25 (by decide) rfl ?_
  refine g_iconst (v := 0) dX3_bestLoad_27 (by decide) ?_
  refine g_istore (ls2 := [(7, .int (0 : Int32)), (6, .int (0 : Int32)), (5, .int (0 : Int32)), (4, .int (-1 : Int32)), (3, .int (xs1 ||| xs0)), (0, .ref a0), (1, .int x1), (2, .int x2)]) dX3_bestLoad_28 (by decide) rfl ?_
  exact g_ls [5, 6, 7, 4, 3, 2, 1, 0] rfl h1
theorem bX3_bestLoad_30 {X : pX} {Q : Option Value → pMem → Prop} {m : pMem} {a0 : Nat} {x1 : Int32} {x2 : Int32} {x3 : Int32} {x4 : Int32} {x5 : Int32} {x6 : Int32} {x7 : Int32} (hW : Wf m) (c0 : SH[a0]? = some (.inl 3))
    (h1 : Cl X 0 mX4_allThings [.ref 31] m (fun v m2 => Go X 3 mX3_bestLoad Q 39 [(0, .ref a0), (1, .int x1), (2, .int x2), (3, .int x3), (4, .int x4), (5, .int x5), (6, .int x6), (7, .int x7)] (v.toList ++ [.int x7]) m2)) :
    Go X 3 mX3_bestLoad Q 30 [(0, .ref a0), (1, .int x1), (2, .int x2), (3, .int x3), (4, .int x4), (5, .int x5), (6, .int x6), (7, .int x7)] [] m := by
  refine g_iload 7 dX3_bestLoad_30 rfl ?_
  refine g_aload_n 0 dX3_bestLoad_32 rfl rfl ?_
  refine g_getR dX3_bestLoad_33 fl3_9 rfl c0 (w3_0 hW c0) ?_
  exact g_callV (As := []) (st := [.int x7]) dX3_bestLoad_36 clX3_19 sh31 rfl rfl (Nat.le_of_ble_eq_true rfl) (rmSH (by decide) (by decide)) h1
theorem bX3_bestLoad_39 {X : pX} {Q : Option Value → pMem → Prop} {m : pMem} {a0 : Nat} {x1 : Int32} {x2 : Int32} {x3 : Int32} {x4 : Int32} {x5 : Int32} {x6 : Int32} {x7 : Int32} {xs0 : Int32} {xs1 : Int32} (hW : Wf m) (c0 : SH[a0]? = some (.inl 3))
    (h1 : xs0 < xs1 → Q (some (.int x4)) m)
    (h2 : ¬ (xs0 < xs1) → ¬ (x7 &&& (x3 ^^^ (-1 : Int32))) = 0 → Go X 3 mX3_bestLoad Q 30 [(0, .ref a0), (1, .int x1), (2, .int x2), (3, .int x3), (4, .int x4), (5, .int x5), (6, .int x6), (7, .int (x7 + (1 : Int32)))] [] m)
    (h3 : ¬ (xs0 < xs1) → (x7 &&& (x3 ^^^ (-1 : Int32))) = 0 → Cl X 1 mX3_canBeCarried [.ref a0, .int x7] m (fun v m2 => Go X 3 mX3_bestLoad Q 57 [(0, .ref a0), (1, .int x1), (2, .int x2), (3, .int x3), (4, .int x4), (5, .int x5), (6, .int x6), (7, .int x7)] (v.toList ++ []) m2)) :
    Go X 3 mX3_bestLoad Q 39 [(0, .ref a0), (1, .int x1), (2, .int x2), (3, .int x3), (4, .int x4), (5, .int x5), (6, .int x6), (7, .int x7)] [.int xs0, .int xs1] m := by
  refine g_icmp_gt 143 dX3_bestLoad_39 (by decide) (fun q1 => ?_) (fun q1 => ?_)
  · refine g_iload 4 dX3_bestLoad_143 rfl ?_
    exact g_iret dX3_bestLoad_145 rfl enSH (h1 q1)
  · refine g_iload 7 dX3_bestLoad_42 rfl ?_
    refine g_iload_n 3 dX3_bestLoad_44 rfl rfl ?_
    refine g_iconst (v := -1) dX3_bestLoad_45 (by decide) ?_
    refine g_ixor dX3_bestLoad_46 ?_
    refine g_iand dX3_bestLoad_47 ?_
    refine g_if_ne 137 dX3_bestLoad_48 (by decide) (fun q2 => ?_) (fun q2 => ?_)
    · refine g_iinc (v := x7 + (1 : Int32)) (ls2 := [(7, .int (x7 + (1 : Int32))), (0, .ref a0), (1, .int x1), (2, .int x2), (3, .int x3), (4, .int x4), (5, .int x5), (6, .int x6)]) 7 dX3_bestLoad_137 rfl rfl (by decide) rfl ?_
      refine g_goto 30 dX3_bestLoad_140 (by decide) ?_
      exact g_ls [1, 2, 3, 4, 5, 6, 7, 0] rfl (h2 q1 q2)
    · refine g_aload_n 0 dX3_bestLoad_51 rfl rfl ?_
      refine g_iload 7 dX3_bestLoad_52 rfl ?_
      exact g_callV (As := [.int x7]) (st := []) dX3_bestLoad_54 clX3_54 c0 rfl rfl (Nat.le_of_ble_eq_true rfl) (rmSH (by decide) (by decide)) (h3 q1 q2)
theorem bX3_bestLoad_57 {X : pX} {Q : Option Value → pMem → Prop} {m : pMem} {a0 : Nat} {x1 : Int32} {x2 : Int32} {x3 : Int32} {x4 : Int32} {x5 : Int32} {x6 : Int32} {x7 : Int32} {xs0 : Int32} (hW : Wf m) (c0 : SH[a0]? = some (.inl 3))
    (h1 : xs0 = 0 → Go X 3 mX3_bestLoad Q 30 [(0, .ref a0), (1, .int x1), (2, .int x2), (3, .int x3), (4, .int x4), (5, .int x5), (6, .int x6), (7, .int (x7 + (1 : Int32)))] [] m)
    (h2 : ¬ (xs0 = 0) → Cl X 0 mX4_worthOf [.ref 31, .int x7] m (fun v m2 => Go X 3 mX3_bestLoad Q 69 [(0, .ref a0), (1, .int x1), (2, .int x2), (3, .int x3), (4, .int x4), (5, .int x5), (6, .int x6), (7, .int x7)] (v.toList ++ []) m2)) :
    Go X 3 mX3_bestLoad Q 57 [(0, .ref a0), (1, .int x1), (2, .int x2), (3, .int x3), (4, .int x4), (5, .int x5), (6, .int x6), (7, .int x7)] [.int xs0] m := by
  refine g_if_eq 137 dX3_bestLoad_57 (by decide) (fun q1 => ?_) (fun q1 => ?_)
  · refine g_iinc (v := x7 + (1 : Int32)) (ls2 := [(7, .int (x7 + (1 : Int32))), (0, .ref a0), (1, .int x1), (2, .int x2), (3, .int x3), (4, .int x4), (5, .int x5), (6, .int x6)]) 7 dX3_bestLoad_137 rfl rfl (by decide) rfl ?_
    refine g_goto 30 dX3_bestLoad_140 (by decide) ?_
    exact g_ls [1, 2, 3, 4, 5, 6, 7, 0] rfl (h1 q1)
  · refine g_aload_n 0 dX3_bestLoad_60 rfl rfl ?_
    refine g_getR dX3_bestLoad_61 fl3_9 rfl c0 (w3_0 hW c0) ?_
    refine g_iload 7 dX3_bestLoad_64 rfl ?_
    exact g_callV (As := [.int x7]) (st := []) dX3_bestLoad_66 clX3_58 sh31 rfl rfl (Nat.le_of_ble_eq_true rfl) (rmSH (by decide) (by decide)) (h2 q1)
theorem bX3_bestLoad_69 {X : pX} {Q : Option Value → pMem → Prop} {m : pMem} {a0 : Nat} {x1 : Int32} {x2 : Int32} {x3 : Int32} {x4 : Int32} {x5 : Int32} {x6 : Int32} {x7 : Int32} {xs0 : Int32} (hW : Wf m) (c0 : SH[a0]? = some (.inl 3))
    (h1 : Cl X 2 mX3_daysToTown [.ref a0, .int x1, .int x7] m (fun v m2 => Go X 3 mX3_bestLoad Q 78 [(0, .ref a0), (1, .int x1), (2, .int x2), (3, .int x3), (4, .int x4), (5, .int x5), (6, .int x6), (7, .int x7), (8, .int xs0)] (v.toList ++ []) m2)) :
    Go X 3 mX3_bestLoad Q 69 [(0, .ref a0), (1, .int x1), (2, .int x2), (3, .int x3), (4, .int x4), (5, .int x5), (6, .int x6), (7, .int x7)] [.int xs0] m := by
  refine g_istore (ls2 := [(8, .int xs0), (0, .ref a0), (1, .int x1), (2, .int x2), (3, .int x3), (4, .int x4), (5, .int x5), (6, .int x6), (7, .int x7)]) dX3_bestLoad_69 (by decide) rfl ?_
  refine g_aload_n 1 dX3_bestLoad_71 rfl rfl ?_
  refine g_iload_n 2 dX3_bestLoad_72 rfl rfl ?_
  refine g_iload 8 dX3_bestLoad_73 rfl ?_
  refine g_ls [1, 2, 3, 4, 5, 6, 7, 8, 0] (ls2 := [(0, .ref a0), (1, .int x1), (2, .int x2), (3, .int x3), (4, .int x4), (5, .int x5), (6, .int x6), (7, .int x7), (8, .int xs0)]) rfl ?_
  exact g_callV (As := [.int x1, .int x7]) (st := []) dX3_bestLoad_75 clX3_61 c0 rfl rfl (Nat.le_of_ble_eq_true rfl) (rmSH (by decide) (by decide)) h1
theorem bX3_bestLoad_78 {X : pX} {Q : Option Value → pMem → Prop} {m : pMem} {a0 : Nat} {x1 : Int32} {x2 : Int32} {x3 : Int32} {x4 : Int32} {x5 : Int32} {x6 : Int32} {x7 : Int32} {x8 : Int32} {xs0 : Int32} (hW : Wf m) (c0 : SH[a0]? = some (.inl 3))
    (h1 : x4 = (-1 : Int32) → Go X 3 mX3_bestLoad Q 107 [(0, .ref a0), (1, .int x1), (2, .int x2), (3, .int x3), (4, .int x4), (5, .int x5), (6, .int x6), (7, .int x7), (8, .int x8), (9, .int xs0)] [] m)
    (h2 : ¬ (x4 = (-1 : Int32)) → x5 < x8 → Go X 3 mX3_bestLoad Q 107 [(0, .ref a0), (1, .int x1), (2, .int x2), (3, .int x3), (4, .int x4), (5, .int x5), (6, .int x6), (7, .int x7), (8, .int x8), (9, .int xs0)] [] m)
    (h3 : ¬ (x4 = (-1 : Int32)) → ¬ (x5 < x8) → ¬ x8 = x5 → Go X 3 mX3_bestLoad Q 111 [(0, .ref a0), (1, .int x1), (2, .int x2), (3, .int x3), (4, .int x4), (5, .int x5), (6, .int x6), (7, .int x7), (8, .int x8), (9, .int xs0)] [] m)
    (h4 : ¬ (x4 = (-1 : Int32)) → ¬ (x5 < x8) → x8 = x5 → x6 ≤ xs0 → Go X 3 mX3_bestLoad Q 111 [(0, .ref a0), (1, .int x1), (2, .int x2), (3, .int x3), (4, .int x4), (5, .int x5), (6, .int x6), (7, .int x7), (8, .int x8), (9, .int xs0)] [] m)
    (h5 : ¬ (x4 = (-1 : Int32)) → ¬ (x5 < x8) → x8 = x5 → ¬ (x6 ≤ xs0) → Go X 3 mX3_bestLoad Q 107 [(0, .ref a0), (1, .int x1), (2, .int x2), (3, .int x3), (4, .int x4), (5, .int x5), (6, .int x6), (7, .int x7), (8, .int x8), (9, .int xs0)] [] m) :
    Go X 3 mX3_bestLoad Q 78 [(0, .ref a0), (1, .int x1), (2, .int x2), (3, .int x3), (4, .int x4), (5, .int x5), (6, .int x6), (7, .int x7), (8, .int x8)] [.int xs0] m := by
  refine g_istore (ls2 := [(9, .int xs0), (0, .ref a0), (1, .int x1), (2, .int x2), (3, .int x3), (4, .int x4), (5, .int x5), (6, .int x6), (7, .int x7), (8, .int x8)]) dX3_bestLoad_78 (by decide) rfl ?_
  refine g_iload 5 dX3_bestLoad_80 rfl ?_
  refine g_iconst (v := -1) dX3_bestLoad_82 (by decide) ?_
  refine g_icmp_eq 107 dX3_bestLoad_83 (by decide) (fun q1 => ?_) (fun q1 => ?_)
  · exact g_ls [1, 2, 3, 4, 5, 6, 7, 8, 9, 0] rfl (h1 q1)
  · refine g_iload 9 dX3_bestLoad_86 rfl ?_
    refine g_iload 6 dX3_bestLoad_88 rfl ?_
    refine g_icmp_gt 107 dX3_bestLoad_90 (by decide) (fun q2 => ?_) (fun q2 => ?_)
    · exact g_ls [1, 2, 3, 4, 5, 6, 7, 8, 9, 0] rfl (h2 q1 q2)
    · refine g_iload 9 dX3_bestLoad_93 rfl ?_
      refine g_iload 6 dX3_bestLoad_95 rfl ?_
      refine g_icmp_ne 111 dX3_bestLoad_97 (by decide) (fun q3 => ?_) (fun q3 => ?_)
      · exact g_ls [1, 2, 3, 4, 5, 6, 7, 8, 9, 0] rfl (h3 q1 q2 q3)
      · refine g_iload 0 dX3_bestLoad_100 rfl ?_
        refine g_iload 7 dX3_bestLoad_102 rfl ?_
        refine g_icmp_ge 111 dX3_bestLoad_104 (by decide) (fun q4 => ?_) (fun q4 => ?_)
        · exact g_ls [1, 2, 3, 4, 5, 6, 7, 8, 9, 0] rfl (h4 q1 q2 q3 q4)
        · exact g_ls [1, 2, 3, 4, 5, 6, 7, 8, 9, 0] rfl (h5 q1 q2 q3 q4)
theorem bX3_bestLoad_107 {X : pX} {Q : Option Value → pMem → Prop} {m : pMem} {a0 : Nat} {x1 : Int32} {x2 : Int32} {x3 : Int32} {x4 : Int32} {x5 : Int32} {x6 : Int32} {x7 : Int32} {x8 : Int32} {x9 : Int32} (hW : Wf m) (c0 : SH[a0]? = some (.inl 3))
    (h1 : Go X 3 mX3_bestLoad Q 112 [(0, .ref a0), (1, .int x1), (2, .int x2), (3, .int x3), (4, .int x4), (5, .int x5), (6, .int x6), (7, .int x7), (8, .int x8), (9, .int x9)] [.int (1 : Int32)] m) :
    Go X 3 mX3_bestLoad Q 107 [(0, .ref a0), (1, .int x1), (2, .int x2), (3, .int x3), (4, .int x4), (5, .int x5), (6, .int x6), (7, .int x7), (8, .int x8), (9, .int x9)] [] m := by
  refine g_iconst (v := 1) dX3_bestLoad_107 (by decide) ?_
  refine g_goto 112 dX3_bestLoad_108 (by decide) ?_
  exact g_ls [0, 1, 2, 3, 4, 5, 6, 7, 8, 9] rfl h1
theorem bX3_bestLoad_111 {X : pX} {Q : Option Value → pMem → Prop} {m : pMem} {a0 : Nat} {x1 : Int32} {x2 : Int32} {x3 : Int32} {x4 : Int32} {x5 : Int32} {x6 : Int32} {x7 : Int32} {x8 : Int32} {x9 : Int32} (hW : Wf m) (c0 : SH[a0]? = some (.inl 3))
    (h1 : Go X 3 mX3_bestLoad Q 112 [(0, .ref a0), (1, .int x1), (2, .int x2), (3, .int x3), (4, .int x4), (5, .int x5), (6, .int x6), (7, .int x7), (8, .int x8), (9, .int x9)] [.int (0 : Int32)] m) :
    Go X 3 mX3_bestLoad Q 111 [(0, .ref a0), (1, .int x1), (2, .int x2), (3, .int x3), (4, .int x4), (5, .int x5), (6, .int x6), (7, .int x7), (8, .int x8), (9, .int x9)] [] m := by
  refine g_iconst (v := 0) dX3_bestLoad_111 (by decide) ?_
  exact g_ls [0, 1, 2, 3, 4, 5, 6, 7, 8, 9] rfl h1
theorem bX3_bestLoad_112 {X : pX} {Q : Option Value → pMem → Prop} {m : pMem} {a0 : Nat} {x1 : Int32} {x2 : Int32} {x3 : Int32} {x4 : Int32} {x5 : Int32} {x6 : Int32} {x7 : Int32} {x8 : Int32} {x9 : Int32} (hW : Wf m) (c0 : SH[a0]? = some (.inl 3))
    (h1 : x2 < x9 → Go X 3 mX3_bestLoad Q 30 [(0, .ref a0), (1, .int x1), (2, .int x2), (3, .int x3), (4, .int x4), (5, .int x5), (6, .int x6), (7, .int (x7 + (1 : Int32)))] [] m)
    (h2 : ¬ (x2 < x9) → (1 : Int32) = 0 → Go X 3 mX3_bestLoad Q 30 [(0, .ref a0), (1, .int x1), (2, .int x2), (3, .int x3), (4, .int x4), (5, .int x5), (6, .int x6), (7, .int (x7 + (1 : Int32)))] [] m)
    (h3 : ¬ (x2 < x9) → ¬ ((1 : Int32) = 0) → Go X 3 mX3_bestLoad Q 30 [(0, .ref a0), (1, .int x1), (2, .int x2), (3, .int x3), (4, .int x7), (5, .int x8), (6, .int x9), (7, .int (x7 + (1 : Int32)))] [] m) :
    Go X 3 mX3_bestLoad Q 112 [(0, .ref a0), (1, .int x1), (2, .int x2), (3, .int x3), (4, .int x4), (5, .int x5), (6, .int x6), (7, .int x7), (8, .int x8), (9, .int x9)] [.int (1 : Int32)] m := by
  refine g_istore (ls2 := [(10, .int (1 : Int32)), (0, .ref a0), (1, .int x1), (2, .int x2), (3, .int x3), (4, .int x4), (5, .int x5), (6, .int x6), (7, .int x7), (8, .int x8), (9, .int x9)]) dX3_bestLoad_112 (by decide) rfl ?_
  refine g_iload 10 dX3_bestLoad_114 rfl ?_
  refine g_iload_n 3 dX3_bestLoad_116 rfl rfl ?_
  refine g_icmp_gt 137 dX3_bestLoad_117 (by decide) (fun q1 => ?_) (fun q1 => ?_)
  · refine g_iinc (v := x7 + (1 : Int32)) (ls2 := [(7, .int (x7 + (1 : Int32))), (10, .int (1 : Int32)), (0, .ref a0), (1, .int x1), (2, .int x2), (3, .int x3), (4, .int x4), (5, .int x5), (6, .int x6), (8, .int x8), (9, .int x9)]) 8 dX3_bestLoad_137 rfl rfl (by decide) rfl ?_
    refine g_goto 30 dX3_bestLoad_140 (by decide) ?_
    exact g_ls [2, 3, 4, 5, 6, 7, 8, 0] rfl (h1 q1)
  · refine g_iload 0 dX3_bestLoad_120 rfl ?_
    refine g_if_eq 137 dX3_bestLoad_122 (by decide) (fun q2 => ?_) (fun q2 => ?_)
    · refine g_iinc (v := x7 + (1 : Int32)) (ls2 := [(7, .int (x7 + (1 : Int32))), (10, .int (1 : Int32)), (0, .ref a0), (1, .int x1), (2, .int x2), (3, .int x3), (4, .int x4), (5, .int x5), (6, .int x6), (8, .int x8), (9, .int x9)]) 8 dX3_bestLoad_137 rfl rfl (by decide) rfl ?_
      refine g_goto 30 dX3_bestLoad_140 (by decide) ?_
      exact g_ls [2, 3, 4, 5, 6, 7, 8, 0] rfl (h2 q1 q2)
    · refine g_iload 8 dX3_bestLoad_125 rfl ?_
      refine g_istore (ls2 := [(4, .int x7), (10, .int (1 : Int32)), (0, .ref a0), (1, .int x1), (2, .int x2), (3, .int x3), (5, .int x5), (6, .int x6), (7, .int x7), (8, .int x8), (9, .int x9)]) dX3_bestLoad_127 (by decide) rfl ?_
      refine g_iload 9 dX3_bestLoad_129 rfl ?_
      refine g_istore (ls2 := [(5, .int x8), (4, .int x7), (10, .int (1 : Int32)), (0, .ref a0), (1, .int x1), (2, .int x2), (3, .int x3), (6, .int x6), (7, .int x7), (8, .int x8), (9, .int x9)]) dX3_bestLoad_131 (by decide) rfl ?_
      refine g_iload 10 dX3_bestLoad_133 rfl ?_
      refine g_istore (ls2 := [(6, .int x9), (5, .int x8), (4, .int x7), (10, .int (1 : Int32)), (0, .ref a0), (1, .int x1), (2, .int x2), (3, .int x3), (7, .int x7), (8, .int x8), (9, .int x9)]) dX3_bestLoad_135 (by decide) rfl ?_
      refine g_iinc (v := x7 + (1 : Int32)) (ls2 := [(7, .int (x7 + (1 : Int32))), (6, .int x9), (5, .int x8), (4, .int x7), (10, .int (1 : Int32)), (0, .ref a0), (1, .int x1), (2, .int x2), (3, .int x3), (8, .int x8), (9, .int x9)]) 8 dX3_bestLoad_137 rfl rfl (by decide) rfl ?_
      refine g_goto 30 dX3_bestLoad_140 (by decide) ?_
      exact g_ls [5, 6, 7, 8, 3, 2, 1, 0] rfl (h3 q1 q2)
theorem bX3_bestLoad_112v1 {X : pX} {Q : Option Value → pMem → Prop} {m : pMem} {a0 : Nat} {x1 : Int32} {x2 : Int32} {x3 : Int32} {x4 : Int32} {x5 : Int32} {x6 : Int32} {x7 : Int32} {x8 : Int32} {x9 : Int32} (hW : Wf m) (c0 : SH[a0]? = some (.inl 3))
    (h1 : x2 < x9 → Go X 3 mX3_bestLoad Q 30 [(0, .ref a0), (1, .int x1), (2, .int x2), (3, .int x3), (4, .int x4), (5, .int x5), (6, .int x6), (7, .int (x7 + (1 : Int32)))] [] m)
    (h2 : ¬ (x2 < x9) → (0 : Int32) = 0 → Go X 3 mX3_bestLoad Q 30 [(0, .ref a0), (1, .int x1), (2, .int x2), (3, .int x3), (4, .int x4), (5, .int x5), (6, .int x6), (7, .int (x7 + (1 : Int32)))] [] m)
    (h3 : ¬ (x2 < x9) → ¬ ((0 : Int32) = 0) → Go X 3 mX3_bestLoad Q 30 [(0, .ref a0), (1, .int x1), (2, .int x2), (3, .int x3), (4, .int x7), (5, .int x8), (6, .int x9), (7, .int (x7 + (1 : Int32)))] [] m) :
    Go X 3 mX3_bestLoad Q 112 [(0, .ref a0), (1, .int x1), (2, .int x2), (3, .int x3), (4, .int x4), (5, .int x5), (6, .int x6), (7, .int x7), (8, .int x8), (9, .int x9)] [.int (0 : Int32)] m := by
  refine g_istore (ls2 := [(10, .int (0 : Int32)), (0, .ref a0), (1, .int x1), (2, .int x2), (3, .int x3), (4, .int x4), (5, .int x5), (6, .int x6), (7, .int x7), (8, .int x8), (9, .int x9)]) dX3_bestLoad_112 (by decide) rfl ?_
  refine g_iload 10 dX3_bestLoad_114 rfl ?_
  refine g_iload_n 3 dX3_bestLoad_116 rfl rfl ?_
  refine g_icmp_gt 137 dX3_bestLoad_117 (by decide) (fun q1 => ?_) (fun q1 => ?_)
  · refine g_iinc (v := x7 + (1 : Int32)) (ls2 := [(7, .int (x7 + (1 : Int32))), (10, .int (0 : Int32)), (0, .ref a0), (1, .int x1), (2, .int x2), (3, .int x3), (4, .int x4), (5, .int x5), (6, .int x6), (8, .int x8), (9, .int x9)]) 8 dX3_bestLoad_137 rfl rfl (by decide) rfl ?_
    refine g_goto 30 dX3_bestLoad_140 (by decide) ?_
    exact g_ls [2, 3, 4, 5, 6, 7, 8, 0] rfl (h1 q1)
  · refine g_iload 0 dX3_bestLoad_120 rfl ?_
    refine g_if_eq 137 dX3_bestLoad_122 (by decide) (fun q2 => ?_) (fun q2 => ?_)
    · refine g_iinc (v := x7 + (1 : Int32)) (ls2 := [(7, .int (x7 + (1 : Int32))), (10, .int (0 : Int32)), (0, .ref a0), (1, .int x1), (2, .int x2), (3, .int x3), (4, .int x4), (5, .int x5), (6, .int x6), (8, .int x8), (9, .int x9)]) 8 dX3_bestLoad_137 rfl rfl (by decide) rfl ?_
      refine g_goto 30 dX3_bestLoad_140 (by decide) ?_
      exact g_ls [2, 3, 4, 5, 6, 7, 8, 0] rfl (h2 q1 q2)
    · refine g_iload 8 dX3_bestLoad_125 rfl ?_
      refine g_istore (ls2 := [(4, .int x7), (10, .int (0 : Int32)), (0, .ref a0), (1, .int x1), (2, .int x2), (3, .int x3), (5, .int x5), (6, .int x6), (7, .int x7), (8, .int x8), (9, .int x9)]) dX3_bestLoad_127 (by decide) rfl ?_
      refine g_iload 9 dX3_bestLoad_129 rfl ?_
      refine g_istore (ls2 := [(5, .int x8), (4, .int x7), (10, .int (0 : Int32)), (0, .ref a0), (1, .int x1), (2, .int x2), (3, .int x3), (6, .int x6), (7, .int x7), (8, .int x8), (9, .int x9)]) dX3_bestLoad_131 (by decide) rfl ?_
      refine g_iload 10 dX3_bestLoad_133 rfl ?_
      refine g_istore (ls2 := [(6, .int x9), (5, .int x8), (4, .int x7), (10, .int (0 : Int32)), (0, .ref a0), (1, .int x1), (2, .int x2), (3, .int x3), (7, .int x7), (8, .int x8), (9, .int x9)]) dX3_bestLoad_135 (by decide) rfl ?_
      refine g_iinc (v := x7 + (1 : Int32)) (ls2 := [(7, .int (x7 + (1 : Int32))), (6, .int x9), (5, .int x8), (4, .int x7), (10, .int (0 : Int32)), (0, .ref a0), (1, .int x1), (2, .int x2), (3, .int x3), (8, .int x8), (9, .int x9)]) 8 dX3_bestLoad_137 rfl rfl (by decide) rfl ?_
      refine g_goto 30 dX3_bestLoad_140 (by decide) ?_
      exact g_ls [5, 6, 7, 8, 3, 2, 1, 0] rfl (h3 q1 q2)
theorem bX3_thatTook_0 {X : pX} {Q : Option Value → pMem → Prop} {m : pMem} {a0 : Nat} {x1 : Int32} {x2 : Int32} {x3 : Int32} {x4 : Int32} {x5 : Int32} (hW : Wf m) (c0 : SH[a0]? = some (.inl 3))
    (h1 : Cl X 0 mX4_allThings [.ref 31] m (fun v m2 => Go X 2 mX3_thatTook Q 14 [(0, .ref a0), (1, .int x1), (2, .int x2), (3, .int x3), (4, .int x4), (5, .int x5), (6, .int (0 : Int32)), (7, .int (-2 : Int32))] (v.toList ++ []) m2)) :
    Go X 2 mX3_thatTook Q 0 [(0, .ref a0), (1, .int x1), (2, .int x2), (3, .int x3), (4, .int x4), (5, .int x5)] [] m := by
  refine g_iconst (v := 0) dX3_thatTook_0 (by decide) ?_
  refine g_istore (ls2 := [(6, .int (0 : Int32)), (0, .ref a0), (1, .int x1), (2, .int x2), (3, .int x3), (4, .int x4), (5, .int x5)]) dX3_thatTook_1 (by decide) rfl ?_
  refine g_bipush (v := -2) dX3_thatTook_3 (by decide) ?_
  refine g_istore (ls2 := [(7, .int (-2 : Int32)), (6, .int (0 : Int32)), (0, .ref a0), (1, .int x1), (2, .int x2), (3, .int x3), (4, .int x4), (5, .int x5)]) dX3_thatTook_5 (by decide) rfl ?_
  refine g_aload_n 2 dX3_thatTook_7 rfl rfl ?_
  refine g_getR dX3_thatTook_8 fl3_9 rfl c0 (w3_0 hW c0) ?_
  refine g_ls [2, 3, 4, 5, 6, 7, 1, 0] (ls2 := [(0, .ref a0), (1, .int x1), (2, .int x2), (3, .int x3), (4, .int x4), (5, .int x5), (6, .int (0 : Int32)), (7, .int (-2 : Int32))]) rfl ?_
  exact g_callV (As := []) (st := []) dX3_thatTook_11 clX3_19 sh31 rfl rfl (Nat.le_of_ble_eq_true rfl) (rmSH (by decide) (by decide)) h1
theorem bX3_thatTook_14 {X : pX} {Q : Option Value → pMem → Prop} {m : pMem} {a0 : Nat} {x1 : Int32} {x2 : Int32} {x3 : Int32} {x4 : Int32} {x5 : Int32} {x6 : Int32} {x7 : Int32} {xs0 : Int32} (hW : Wf m) (c0 : SH[a0]? = some (.inl 3))
    (h1 : Go X 2 mX3_thatTook Q 19 [(0, .ref a0), (1, .int x1), (2, .int x2), (3, .int x3), (4, .int x4), (5, .int x5), (6, .int x6), (7, .int x7), (8, .int xs0), (9, .int (0 : Int32))] [] m) :
    Go X 2 mX3_thatTook Q 14 [(0, .ref a0), (1, .int x1), (2, .int x2), (3, .int x3), (4, .int x4), (5, .int x5), (6, .int x6), (7, .int x7)] [.int xs0] m := by
  refine g_istore (ls2 := [(8, .int xs0), (0, .ref a0), (1, .int x1), (2, .int x2), (3, .int x3), (4, .int x4), (5, .int x5), (6, .int x6), (7, .int x7)]) dX3_thatTook_14 (by decide) rfl ?_
  refine g_iconst (v := 0) dX3_thatTook_16 (by decide) ?_
  refine g_istore (ls2 := [(9, .int (0 : Int32)), (8, .int xs0), (0, .ref a0), (1, .int x1), (2, .int x2), (3, .int x3), (4, .int x4), (5, .int x5), (6, .int x6), (7, .int x7)]) dX3_thatTook_17 (by decide) rfl ?_
  exact g_ls [2, 3, 4, 5, 6, 7, 8, 9, 1, 0] rfl h1
theorem bX3_thatTook_19 {X : pX} {Q : Option Value → pMem → Prop} {m : pMem} {a0 : Nat} {x1 : Int32} {x2 : Int32} {x3 : Int32} {x4 : Int32} {x5 : Int32} {x6 : Int32} {x7 : Int32} {x8 : Int32} {x9 : Int32} (hW : Wf m) (c0 : SH[a0]? = some (.inl 3))
    (h1 : Cl X 0 mX4_allThings [.ref 31] m (fun v m2 => Go X 2 mX3_thatTook Q 28 [(0, .ref a0), (1, .int x1), (2, .int x2), (3, .int x3), (4, .int x4), (5, .int x5), (6, .int x6), (7, .int x7), (8, .int x8), (9, .int x9)] (v.toList ++ [.int x9]) m2)) :
    Go X 2 mX3_thatTook Q 19 [(0, .ref a0), (1, .int x1), (2, .int x2), (3, .int x3), (4, .int x4), (5, .int x5), (6, .int x6), (7, .int x7), (8, .int x8), (9, .int x9)] [] m := by
  refine g_iload 9 dX3_thatTook_19 rfl ?_
  refine g_aload_n 0 dX3_thatTook_21 rfl rfl ?_
  refine g_getR dX3_thatTook_22 fl3_9 rfl c0 (w3_0 hW c0) ?_
  exact g_callV (As := []) (st := [.int x9]) dX3_thatTook_25 clX3_19 sh31 rfl rfl (Nat.le_of_ble_eq_true rfl) (rmSH (by decide) (by decide)) h1
theorem bX3_thatTook_28 {X : pX} {Q : Option Value → pMem → Prop} {m : pMem} {a0 : Nat} {x1 : Int32} {x2 : Int32} {x3 : Int32} {x4 : Int32} {x5 : Int32} {x6 : Int32} {x7 : Int32} {x8 : Int32} {x9 : Int32} {xs0 : Int32} {xs1 : Int32} (hW : Wf m) (c0 : SH[a0]? = some (.inl 3))
    (h1 : xs0 < xs1 → ¬ x5 = 0 → ¬ x5 = (1 : Int32) → ¬ x6 = 0 → Q (some (.int x8)) m)
    (h2 : xs0 < xs1 → ¬ x5 = 0 → ¬ x5 = (1 : Int32) → x6 = 0 → Q (some (.int (0 : Int32))) m)
    (h3 : xs0 < xs1 → ¬ x5 = 0 → x5 = (1 : Int32) → Q (some (.int x7)) m)
    (h4 : xs0 < xs1 → x5 = 0 → Q (some (.int x6)) m)
    (h5 : ¬ (xs0 < xs1) → Cl X 1 mX3_canBeCarried [.ref a0, .int x9] m (fun v m2 => Go X 2 mX3_thatTook Q 37 [(0, .ref a0), (1, .int x1), (2, .int x2), (3, .int x3), (4, .int x4), (5, .int x5), (6, .int x6), (7, .int x7), (8, .int x8), (9, .int x9)] (v.toList ++ []) m2)) :
    Go X 2 mX3_thatTook Q 28 [(0, .ref a0), (1, .int x1), (2, .int x2), (3, .int x3), (4, .int x4), (5, .int x5), (6, .int x6), (7, .int x7), (8, .int x8), (9, .int x9)] [.int xs0, .int xs1] m := by
  refine g_icmp_gt 82 dX3_thatTook_28 (by decide) (fun q1 => ?_) (fun q1 => ?_)
  · refine g_iload 5 dX3_thatTook_82 rfl ?_
    refine g_if_ne 90 dX3_thatTook_84 (by decide) (fun q2 => ?_) (fun q2 => ?_)
    · refine g_iload 5 dX3_thatTook_90 rfl ?_
      refine g_iconst (v := 1) dX3_thatTook_92 (by decide) ?_
      refine g_icmp_ne 99 dX3_thatTook_93 (by decide) (fun q3 => ?_) (fun q3 => ?_)
      · refine g_iload 6 dX3_thatTook_99 rfl ?_
        refine g_if_ne 108 dX3_thatTook_101 (by decide) (fun q4 => ?_) (fun q4 => ?_)
        · refine g_iload 8 dX3_thatTook_108 rfl ?_
          exact g_iret dX3_thatTook_110 rfl enSH (h1 q1 q2 q3 q4)
        · refine g_iconst (v := 0) dX3_thatTook_104 (by decide) ?_
          refine g_goto 110 dX3_thatTook_105 (by decide) ?_
          exact g_iret dX3_thatTook_110 rfl enSH (h2 q1 q2 q3 q4)
      · refine g_iload 7 dX3_thatTook_96 rfl ?_
        exact g_iret dX3_thatTook_98 rfl enSH (h3 q1 q2 q3)
    · refine g_iload 6 dX3_thatTook_87 rfl ?_
      exact g_iret dX3_thatTook_89 rfl enSH (h4 q1 q2)
  · refine g_aload_n 0 dX3_thatTook_31 rfl rfl ?_
    refine g_iload 9 dX3_thatTook_32 rfl ?_
    exact g_callV (As := [.int x9]) (st := []) dX3_thatTook_34 clX3_54 c0 rfl rfl (Nat.le_of_ble_eq_true rfl) (rmSH (by decide) (by decide)) (h5 q1)
theorem bX3_thatTook_37 {X : pX} {Q : Option Value → pMem → Prop} {m : pMem} {a0 : Nat} {x1 : Int32} {x2 : Int32} {x3 : Int32} {x4 : Int32} {x5 : Int32} {x6 : Int32} {x7 : Int32} {x8 : Int32} {x9 : Int32} {xs0 : Int32} (hW : Wf m) (c0 : SH[a0]? = some (.inl 3))
    (h1 : xs0 = 0 → Go X 2 mX3_thatTook Q 19 [(0, .ref a0), (1, .int x1), (2, .int x2), (3, .int x3), (4, .int x4), (5, .int x5), (6, .int x6), (7, .int x7), (8, .int x8), (9, .int (x9 + (1 : Int32)))] [] m)
    (h2 : ¬ (xs0 = 0) → Cl X 1 mX4_daysFor [.ref 31, .int x1, .int x2, .int x3, .int x9] m (fun v m2 => Go X 2 mX3_thatTook Q 52 [(0, .ref a0), (1, .int x1), (2, .int x2), (3, .int x3), (4, .int x4), (5, .int x5), (6, .int x6), (7, .int x7), (8, .int x8), (9, .int x9)] (v.toList ++ []) m2)) :
    Go X 2 mX3_thatTook Q 37 [(0, .ref a0), (1, .int x1), (2, .int x2), (3, .int x3), (4, .int x4), (5, .int x5), (6, .int x6), (7, .int x7), (8, .int x8), (9, .int x9)] [.int xs0] m := by
  refine g_if_eq 76 dX3_thatTook_37 (by decide) (fun q1 => ?_) (fun q1 => ?_)
  · refine g_iinc (v := x9 + (1 : Int32)) (ls2 := [(9, .int (x9 + (1 : Int32))), (0, .ref a0), (1, .int x1), (2, .int x2), (3, .int x3), (4, .int x4), (5, .int x5), (6, .int x6), (7, .int x7), (8, .int x8)]) 9 dX3_thatTook_76 rfl rfl (by decide) rfl ?_
    refine g_goto 19 dX3_thatTook_79 (by decide) ?_
    exact g_ls [1, 2, 3, 4, 5, 6, 7, 8, 9, 0] rfl (h1 q1)
  · refine g_aload_n 0 dX3_thatTook_40 rfl rfl ?_
    refine g_getR dX3_thatTook_41 fl3_9 rfl c0 (w3_0 hW c0) ?_
    refine g_iload_n 1 dX3_thatTook_44 rfl rfl ?_
    refine g_iload_n 2 dX3_thatTook_45 rfl rfl ?_
    refine g_iload_n 3 dX3_thatTook_46 rfl rfl ?_
    refine g_iload 9 dX3_thatTook_47 rfl ?_
    exact g_callV (As := [.int x1, .int x2, .int x3, .int x9]) (st := []) dX3_thatTook_49 clX3_44 sh31 rfl rfl (Nat.le_of_ble_eq_true rfl) (rmSH (by decide) (by decide)) (h2 q1)
theorem bX3_thatTook_52 {X : pX} {Q : Option Value → pMem → Prop} {m : pMem} {a0 : Nat} {x1 : Int32} {x2 : Int32} {x3 : Int32} {x4 : Int32} {x5 : Int32} {x6 : Int32} {x7 : Int32} {x8 : Int32} {x9 : Int32} {xs0 : Int32} (hW : Wf m) (c0 : SH[a0]? = some (.inl 3))
    (h1 : ¬ xs0 = x4 → Go X 2 mX3_thatTook Q 19 [(0, .ref a0), (1, .int x1), (2, .int x2), (3, .int x3), (4, .int x4), (5, .int x5), (6, .int x6), (7, .int x7), (8, .int x8), (9, .int (x9 + (1 : Int32)))] [] m)
    (h2 : xs0 = x4 → ¬ x6 = 0 → Go X 2 mX3_thatTook Q 19 [(0, .ref a0), (1, .int x1), (2, .int x2), (3, .int x3), (4, .int x4), (5, .int x5), (6, .int (x6 + (1 : Int32))), (7, .int x7), (8, .int (x8 &&& x9)), (9, .int (x9 + (1 : Int32)))] [] m)
    (h3 : xs0 = x4 → x6 = 0 → Go X 2 mX3_thatTook Q 19 [(0, .ref a0), (1, .int x1), (2, .int x2), (3, .int x3), (4, .int x4), (5, .int x5), (6, .int (x6 + (1 : Int32))), (7, .int x9), (8, .int (x8 &&& x9)), (9, .int (x9 + (1 : Int32)))] [] m) :
    Go X 2 mX3_thatTook Q 52 [(0, .ref a0), (1, .int x1), (2, .int x2), (3, .int x3), (4, .int x4), (5, .int x5), (6, .int x6), (7, .int x7), (8, .int x8), (9, .int x9)] [.int xs0] m := by
  refine g_iload 4 dX3_thatTook_52 rfl ?_
  refine g_icmp_ne 76 dX3_thatTook_54 (by decide) (fun q1 => ?_) (fun q1 => ?_)
  · refine g_iinc (v := x9 + (1 : Int32)) (ls2 := [(9, .int (x9 + (1 : Int32))), (0, .ref a0), (1, .int x1), (2, .int x2), (3, .int x3), (4, .int x4), (5, .int x5), (6, .int x6), (7, .int x7), (8, .int x8)]) 9 dX3_thatTook_76 rfl rfl (by decide) rfl ?_
    refine g_goto 19 dX3_thatTook_79 (by decide) ?_
    exact g_ls [1, 2, 3, 4, 5, 6, 7, 8, 9, 0] rfl (h1 q1)
  · refine g_iload 6 dX3_thatTook_57 rfl ?_
    refine g_if_ne 66 dX3_thatTook_59 (by decide) (fun q2 => ?_) (fun q2 => ?_)
    · refine g_iload 8 dX3_thatTook_66 rfl ?_
      refine g_iload 9 dX3_thatTook_68 rfl ?_
      refine g_iand dX3_thatTook_70 ?_
      refine g_istore (ls2 := [(8, .int (x8 &&& x9)), (0, .ref a0), (1, .int x1), (2, .int x2), (3, .int x3), (4, .int x4), (5, .int x5), (6, .int x6), (7, .int x7), (9, .int x9)]) dX3_thatTook_71 (by decide) rfl ?_
      refine g_iinc (v := x6 + (1 : Int32)) (ls2 := [(6, .int (x6 + (1 : Int32))), (8, .int (x8 &&& x9)), (0, .ref a0), (1, .int x1), (2, .int x2), (3, .int x3), (4, .int x4), (5, .int x5), (7, .int x7), (9, .int x9)]) 7 dX3_thatTook_73 rfl rfl (by decide) rfl ?_
      refine g_iinc (v := x9 + (1 : Int32)) (ls2 := [(9, .int (x9 + (1 : Int32))), (6, .int (x6 + (1 : Int32))), (8, .int (x8 &&& x9)), (0, .ref a0), (1, .int x1), (2, .int x2), (3, .int x3), (4, .int x4), (5, .int x5), (7, .int x7)]) 9 dX3_thatTook_76 rfl rfl (by decide) rfl ?_
      refine g_goto 19 dX3_thatTook_79 (by decide) ?_
      exact g_ls [3, 4, 5, 6, 7, 8, 1, 9, 2, 0] rfl (h2 q1 q2)
    · refine g_iload 9 dX3_thatTook_62 rfl ?_
      refine g_istore (ls2 := [(7, .int x9), (0, .ref a0), (1, .int x1), (2, .int x2), (3, .int x3), (4, .int x4), (5, .int x5), (6, .int x6), (8, .int x8), (9, .int x9)]) dX3_thatTook_64 (by decide) rfl ?_
      refine g_iload 8 dX3_thatTook_66 rfl ?_
      refine g_iload 9 dX3_thatTook_68 rfl ?_
      refine g_iand dX3_thatTook_70 ?_
      refine g_istore (ls2 := [(8, .int (x8 &&& x9)), (7, .int x9), (0, .ref a0), (1, .int x1), (2, .int x2), (3, .int x3), (4, .int x4), (5, .int x5), (6, .int x6), (9, .int x9)]) dX3_thatTook_71 (by decide) rfl ?_
      refine g_iinc (v := x6 + (1 : Int32)) (ls2 := [(6, .int (x6 + (1 : Int32))), (8, .int (x8 &&& x9)), (7, .int x9), (0, .ref a0), (1, .int x1), (2, .int x2), (3, .int x3), (4, .int x4), (5, .int x5), (9, .int x9)]) 8 dX3_thatTook_73 rfl rfl (by decide) rfl ?_
      refine g_iinc (v := x9 + (1 : Int32)) (ls2 := [(9, .int (x9 + (1 : Int32))), (6, .int (x6 + (1 : Int32))), (8, .int (x8 &&& x9)), (7, .int x9), (0, .ref a0), (1, .int x1), (2, .int x2), (3, .int x3), (4, .int x4), (5, .int x5)]) 9 dX3_thatTook_76 rfl rfl (by decide) rfl ?_
      refine g_goto 19 dX3_thatTook_79 (by decide) ?_
      exact g_ls [4, 5, 6, 7, 8, 9, 1, 3, 2, 0] rfl (h3 q1 q2)
theorem bX3_bestExchange_0 {X : pX} {Q : Option Value → pMem → Prop} {m : pMem} {a0 : Nat} {x1 : Int32} {x2 : Int32} (hW : Wf m) (c0 : SH[a0]? = some (.inl 3))
    (h1 : Cl X 1 mX8_hadBy [.ref 37, .int x1] m (fun v m2 => Go X 4 mX3_bestExchange Q 8 [(0, .ref a0), (1, .int x1), (2, .int x2)] (v.toList ++ []) m2)) :
    Go X 4 mX3_bestExchange Q 0 [(0, .ref a0), (1, .int x1), (2, .int x2)] [] m := by
  refine g_aload_n 0 dX3_bestExchange_0 rfl rfl ?_
  refine g_getR dX3_bestExchange_1 fl3_15 rfl c0 (w3_1 hW c0) ?_
  refine g_iload_n 1 dX3_bestExchange_4 rfl rfl ?_
  exact g_callV (As := [.int x1]) (st := []) dX3_bestExchange_5 clX3_48 sh37 rfl rfl (Nat.le_of_ble_eq_true rfl) (rmSH (by decide) (by decide)) h1
theorem bX3_bestExchange_8 {X : pX} {Q : Option Value → pMem → Prop} {m : pMem} {a0 : Nat} {x1 : Int32} {x2 : Int32} {xs0 : Int32} (hW : Wf m) (c0 : SH[a0]? = some (.inl 3))
    (h1 : Cl X 1 mX8_hadBy [.ref 37, .int x2] m (fun v m2 => Go X 4 mX3_bestExchange Q 17 [(0, .ref a0), (1, .int x1), (2, .int x2), (3, .int xs0)] (v.toList ++ []) m2)) :
    Go X 4 mX3_bestExchange Q 8 [(0, .ref a0), (1, .int x1), (2, .int x2)] [.int xs0] m := by
  refine g_istore_n (ls2 := [(3, .int xs0), (0, .ref a0), (1, .int x1), (2, .int x2)]) dX3_bestExchange_8 rfl (by decide) rfl ?_
  refine g_aload_n 1 dX3_bestExchange_9 rfl rfl ?_
  refine g_getR dX3_bestExchange_10 fl3_15 rfl c0 (w3_1 hW c0) ?_
  refine g_iload_n 3 dX3_bestExchange_13 rfl rfl ?_
  refine g_ls [1, 2, 3, 0] (ls2 := [(0, .ref a0), (1, .int x1), (2, .int x2), (3, .int xs0)]) rfl ?_
  exact g_callV (As := [.int x2]) (st := []) dX3_bestExchange_14 clX3_48 sh37 rfl rfl (Nat.le_of_ble_eq_true rfl) (rmSH (by decide) (by decide)) h1
theorem bX3_bestExchange_17 {X : pX} {Q : Option Value → pMem → Prop} {m : pMem} {a0 : Nat} {x1 : Int32} {x2 : Int32} {x3 : Int32} {xs0 : Int32} (hW : Wf m) (c0 : SH[a0]? = some (.inl 3))
    (h1 : Cl X 3 mX3_daysOfBoth [.ref a0, .int x1, .int x2, .int (-1 : Int32)] m (fun v m2 => Go X 4 mX3_bestExchange Q 29 [(0, .ref a0), (1, .int x1), (2, .int x2), (3, .int x3), (4, .int xs0), (5, .int (-1 : Int32))] (v.toList ++ []) m2)) :
    Go X 4 mX3_bestExchange Q 17 [(0, .ref a0), (1, .int x1), (2, .int x2), (3, .int x3)] [.int xs0] m := by
  refine g_istore (ls2 := [(4, .int xs0), (0, .ref a0), (1, .int x1), (2, .int x2), (3, .int x3)]) dX3_bestExchange_17 (by decide) rfl ?_
  refine g_iconst (v := -1) dX3_bestExchange_19 (by decide) ?_
  refine g_istore (ls2 := [(5, .int (-1 : Int32)), (4, .int xs0), (0, .ref a0), (1, .int x1), (2, .int x2), (3, .int x3)]) dX3_bestExchange_20 (by decide) rfl ?_
  refine g_aload_n 2 dX3_bestExchange_22 rfl rfl ?_
  refine g_iload_n 3 dX3_bestExchange_23 rfl rfl ?_
  refine g_iload_n 4 dX3_bestExchange_24 rfl rfl ?_
  refine g_iconst (v := -1) dX3_bestExchange_25 (by decide) ?_
  refine g_ls [2, 3, 4, 5, 1, 0] (ls2 := [(0, .ref a0), (1, .int x1), (2, .int x2), (3, .int x3), (4, .int xs0), (5, .int (-1 : Int32))]) rfl ?_
  exact g_callV (As := [.int x1, .int x2, .int (-1 : Int32)]) (st := []) dX3_bestExchange_26 clX3_65 c0 rfl rfl (Nat.le_of_ble_eq_true rfl) (rmSH (by decide) (by decide)) h1
theorem bX3_bestExchange_29 {X : pX} {Q : Option Value → pMem → Prop} {m : pMem} {a0 : Nat} {x1 : Int32} {x2 : Int32} {x3 : Int32} {x4 : Int32} {x5 : Int32} {xs0 : Int32} (hW : Wf m) (c0 : SH[a0]? = some (.inl 3))
    (h1 : Go X 4 mX3_bestExchange Q 34 [(0, .ref a0), (1, .int x1), (2, .int x2), (3, .int x3), (4, .int x4), (5, .int x5), (6, .int xs0), (7, .int (0 : Int32))] [] m) :
    Go X 4 mX3_bestExchange Q 29 [(0, .ref a0), (1, .int x1), (2, .int x2), (3, .int x3), (4, .int x4), (5, .int x5)] [.int xs0] m := by
  refine g_istore (ls2 := [(6, .int xs0), (0, .ref a0), (1, .int x1), (2, .int x2), (3, .int x3), (4, .int x4), (5, .int x5)]) dX3_bestExchange_29 (by decide) rfl ?_
  refine g_iconst (v := 0) dX3_bestExchange_31 (by decide) ?_
  refine g_istore (ls2 := [(7, .int (0 : Int32)), (6, .int xs0), (0, .ref a0), (1, .int x1), (2, .int x2), (3, .int x3), (4, .int x4), (5, .int x5)]) dX3_bestExchange_32 (by decide) rfl ?_
  exact g_ls [2, 3, 4, 5, 6, 7, 1, 0] rfl h1
theorem bX3_bestExchange_34 {X : pX} {Q : Option Value → pMem → Prop} {m : pMem} {a0 : Nat} {x1 : Int32} {x2 : Int32} {x3 : Int32} {x4 : Int32} {x5 : Int32} {x6 : Int32} {x7 : Int32} (hW : Wf m) (c0 : SH[a0]? = some (.inl 3))
    (h1 : (36 : Int32) ≤ x7 → Q (some (.int x5)) m)
    (h2 : ¬ ((36 : Int32) ≤ x7) → ¬ ((x3 >>> ((x7 / (6 : Int32)) &&& 31)) &&& (1 : Int32)) = (1 : Int32) → Go X 4 mX3_bestExchange Q 72 [(0, .ref a0), (1, .int x1), (2, .int x2), (3, .int x3), (4, .int x4), (5, .int x5), (6, .int x6), (7, .int x7)] [] m)
    (h3 : ¬ ((36 : Int32) ≤ x7) → ((x3 >>> ((x7 / (6 : Int32)) &&& 31)) &&& (1 : Int32)) = (1 : Int32) → ¬ ((x4 >>> ((x7 - x7 / (6 : Int32) * (6 : Int32)) &&& 31)) &&& (1 : Int32)) = (1 : Int32) → Go X 4 mX3_bestExchange Q 72 [(0, .ref a0), (1, .int x1), (2, .int x2), (3, .int x3), (4, .int x4), (5, .int x5), (6, .int x6), (7, .int x7)] [] m)
    (h4 : ¬ ((36 : Int32) ≤ x7) → ((x3 >>> ((x7 / (6 : Int32)) &&& 31)) &&& (1 : Int32)) = (1 : Int32) → ((x4 >>> ((x7 - x7 / (6 : Int32) * (6 : Int32)) &&& 31)) &&& (1 : Int32)) = (1 : Int32) → Go X 4 mX3_bestExchange Q 73 [(0, .ref a0), (1, .int x1), (2, .int x2), (3, .int x3), (4, .int x4), (5, .int x5), (6, .int x6), (7, .int x7)] [.int (1 : Int32)] m) :
    Go X 4 mX3_bestExchange Q 34 [(0, .ref a0), (1, .int x1), (2, .int x2), (3, .int x3), (4, .int x4), (5, .int x5), (6, .int x6), (7, .int x7)] [] m := by
  refine g_iload 7 dX3_bestExchange_34 rfl ?_
  refine g_bipush (v := 36) dX3_bestExchange_36 (by decide) ?_
  refine g_icmp_ge 111 dX3_bestExchange_38 (by decide) (fun q1 => ?_) (fun q1 => ?_)
  · refine g_iload 5 dX3_bestExchange_111 rfl ?_
    exact g_iret dX3_bestExchange_113 rfl enSH (h1 q1)
  · refine g_iload_n 3 dX3_bestExchange_41 rfl rfl ?_
    refine g_iload 7 dX3_bestExchange_42 rfl ?_
    refine g_bipush (v := 6) dX3_bestExchange_44 (by decide) ?_
    refine g_idiv dX3_bestExchange_46 (by decide) ?_
    refine g_ishr dX3_bestExchange_47 ?_
    refine g_iconst (v := 1) dX3_bestExchange_48 (by decide) ?_
    refine g_iand dX3_bestExchange_49 ?_
    refine g_iconst (v := 1) dX3_bestExchange_50 (by decide) ?_
    refine g_icmp_ne 72 dX3_bestExchange_51 (by decide) (fun q2 => ?_) (fun q2 => ?_)
    · exact g_ls [0, 1, 2, 3, 4, 5, 6, 7] rfl (h2 q1 q2)
    · refine g_iload 4 dX3_bestExchange_54 rfl ?_
      refine g_iload 7 dX3_bestExchange_56 rfl ?_
      refine g_bipush (v := 6) dX3_bestExchange_58 (by decide) ?_
      refine g_irem dX3_bestExchange_60 (by decide) ?_
      refine g_ishr dX3_bestExchange_61 ?_
      refine g_iconst (v := 1) dX3_bestExchange_62 (by decide) ?_
      refine g_iand dX3_bestExchange_63 ?_
      refine g_iconst (v := 1) dX3_bestExchange_64 (by decide) ?_
      refine g_icmp_ne 72 dX3_bestExchange_65 (by decide) (fun q3 => ?_) (fun q3 => ?_)
      · exact g_ls [0, 1, 2, 3, 4, 5, 6, 7] rfl (h3 q1 q2 q3)
      · refine g_iconst (v := 1) dX3_bestExchange_68 (by decide) ?_
        refine g_goto 73 dX3_bestExchange_69 (by decide) ?_
        exact g_ls [0, 1, 2, 3, 4, 5, 6, 7] rfl (h4 q1 q2 q3)
theorem bX3_bestExchange_72 {X : pX} {Q : Option Value → pMem → Prop} {m : pMem} {a0 : Nat} {x1 : Int32} {x2 : Int32} {x3 : Int32} {x4 : Int32} {x5 : Int32} {x6 : Int32} {x7 : Int32} (hW : Wf m) (c0 : SH[a0]? = some (.inl 3))
    (h1 : Go X 4 mX3_bestExchange Q 73 [(0, .ref a0), (1, .int x1), (2, .int x2), (3, .int x3), (4, .int x4), (5, .int x5), (6, .int x6), (7, .int x7)] [.int (0 : Int32)] m) :
    Go X 4 mX3_bestExchange Q 72 [(0, .ref a0), (1, .int x1), (2, .int x2), (3, .int x3), (4, .int x4), (5, .int x5), (6, .int x6), (7, .int x7)] [] m := by
  refine g_iconst (v := 0) dX3_bestExchange_72 (by decide) ?_
  exact g_ls [0, 1, 2, 3, 4, 5, 6, 7] rfl h1
theorem bX3_bestExchange_73 {X : pX} {Q : Option Value → pMem → Prop} {m : pMem} {a0 : Nat} {x1 : Int32} {x2 : Int32} {x3 : Int32} {x4 : Int32} {x5 : Int32} {x6 : Int32} {x7 : Int32} (hW : Wf m) (c0 : SH[a0]? = some (.inl 3))
    (h1 : (1 : Int32) = 0 → Go X 4 mX3_bestExchange Q 34 [(0, .ref a0), (1, .int x1), (2, .int x2), (3, .int x3), (4, .int x4), (5, .int x5), (6, .int x6), (7, .int (x7 + (1 : Int32)))] [] m)
    (h2 : ¬ ((1 : Int32) = 0) → Cl X 3 mX3_daysOfBoth [.ref a0, .int x1, .int x2, .int x7] m (fun v m2 => Go X 4 mX3_bestExchange Q 88 [(0, .ref a0), (1, .int x1), (2, .int x2), (3, .int x3), (4, .int x4), (5, .int x5), (6, .int x6), (7, .int x7), (8, .int (1 : Int32))] (v.toList ++ []) m2)) :
    Go X 4 mX3_bestExchange Q 73 [(0, .ref a0), (1, .int x1), (2, .int x2), (3, .int x3), (4, .int x4), (5, .int x5), (6, .int x6), (7, .int x7)] [.int (1 : Int32)] m := by
  refine g_istore (ls2 := [(8, .int (1 : Int32)), (0, .ref a0), (1, .int x1), (2, .int x2), (3, .int x3), (4, .int x4), (5, .int x5), (6, .int x6), (7, .int x7)]) dX3_bestExchange_73 (by decide) rfl ?_
  refine g_iload 0 dX3_bestExchange_75 rfl ?_
  refine g_if_eq 105 dX3_bestExchange_77 (by decide) (fun q1 => ?_) (fun q1 => ?_)
  · refine g_iinc (v := x7 + (1 : Int32)) (ls2 := [(7, .int (x7 + (1 : Int32))), (8, .int (1 : Int32)), (0, .ref a0), (1, .int x1), (2, .int x2), (3, .int x3), (4, .int x4), (5, .int x5), (6, .int x6)]) 8 dX3_bestExchange_105 rfl rfl (by decide) rfl ?_
    refine g_goto 34 dX3_bestExchange_108 (by decide) ?_
    exact g_ls [2, 3, 4, 5, 6, 7, 8, 0] rfl (h1 q1)
  · refine g_aload_n 1 dX3_bestExchange_80 rfl rfl ?_
    refine g_iload_n 2 dX3_bestExchange_81 rfl rfl ?_
    refine g_iload_n 3 dX3_bestExchange_82 rfl rfl ?_
    refine g_iload 8 dX3_bestExchange_83 rfl ?_
    refine g_ls [1, 2, 3, 4, 5, 6, 7, 8, 0] (ls2 := [(0, .ref a0), (1, .int x1), (2, .int x2), (3, .int x3), (4, .int x4), (5, .int x5), (6, .int x6), (7, .int x7), (8, .int (1 : Int32))]) rfl ?_
    exact g_callV (As := [.int x1, .int x2, .int x7]) (st := []) dX3_bestExchange_85 clX3_65 c0 rfl rfl (Nat.le_of_ble_eq_true rfl) (rmSH (by decide) (by decide)) (h2 q1)
theorem bX3_bestExchange_73v1 {X : pX} {Q : Option Value → pMem → Prop} {m : pMem} {a0 : Nat} {x1 : Int32} {x2 : Int32} {x3 : Int32} {x4 : Int32} {x5 : Int32} {x6 : Int32} {x7 : Int32} (hW : Wf m) (c0 : SH[a0]? = some (.inl 3))
    (h1 : (0 : Int32) = 0 → Go X 4 mX3_bestExchange Q 34 [(0, .ref a0), (1, .int x1), (2, .int x2), (3, .int x3), (4, .int x4), (5, .int x5), (6, .int x6), (7, .int (x7 + (1 : Int32)))] [] m)
    (h2 : ¬ ((0 : Int32) = 0) → Cl X 3 mX3_daysOfBoth [.ref a0, .int x1, .int x2, .int x7] m (fun v m2 => Go X 4 mX3_bestExchange Q 88 [(0, .ref a0), (1, .int x1), (2, .int x2), (3, .int x3), (4, .int x4), (5, .int x5), (6, .int x6), (7, .int x7), (8, .int (0 : Int32))] (v.toList ++ []) m2)) :
    Go X 4 mX3_bestExchange Q 73 [(0, .ref a0), (1, .int x1), (2, .int x2), (3, .int x3), (4, .int x4), (5, .int x5), (6, .int x6), (7, .int x7)] [.int (0 : Int32)] m := by
  refine g_istore (ls2 := [(8, .int (0 : Int32)), (0, .ref a0), (1, .int x1), (2, .int x2), (3, .int x3), (4, .int x4), (5, .int x5), (6, .int x6), (7, .int x7)]) dX3_bestExchange_73 (by decide) rfl ?_
  refine g_iload 0 dX3_bestExchange_75 rfl ?_
  refine g_if_eq 105 dX3_bestExchange_77 (by decide) (fun q1 => ?_) (fun q1 => ?_)
  · refine g_iinc (v := x7 + (1 : Int32)) (ls2 := [(7, .int (x7 + (1 : Int32))), (8, .int (0 : Int32)), (0, .ref a0), (1, .int x1), (2, .int x2), (3, .int x3), (4, .int x4), (5, .int x5), (6, .int x6)]) 8 dX3_bestExchange_105 rfl rfl (by decide) rfl ?_
    refine g_goto 34 dX3_bestExchange_108 (by decide) ?_
    exact g_ls [2, 3, 4, 5, 6, 7, 8, 0] rfl (h1 q1)
  · refine g_aload_n 1 dX3_bestExchange_80 rfl rfl ?_
    refine g_iload_n 2 dX3_bestExchange_81 rfl rfl ?_
    refine g_iload_n 3 dX3_bestExchange_82 rfl rfl ?_
    refine g_iload 8 dX3_bestExchange_83 rfl ?_
    refine g_ls [1, 2, 3, 4, 5, 6, 7, 8, 0] (ls2 := [(0, .ref a0), (1, .int x1), (2, .int x2), (3, .int x3), (4, .int x4), (5, .int x5), (6, .int x6), (7, .int x7), (8, .int (0 : Int32))]) rfl ?_
    exact g_callV (As := [.int x1, .int x2, .int x7]) (st := []) dX3_bestExchange_85 clX3_65 c0 rfl rfl (Nat.le_of_ble_eq_true rfl) (rmSH (by decide) (by decide)) (h2 q1)
theorem bX3_bestExchange_88 {X : pX} {Q : Option Value → pMem → Prop} {m : pMem} {a0 : Nat} {x1 : Int32} {x2 : Int32} {x3 : Int32} {x4 : Int32} {x5 : Int32} {x6 : Int32} {x7 : Int32} {x8 : Int32} {xs0 : Int32} (hW : Wf m) (c0 : SH[a0]? = some (.inl 3))
    (h1 : x6 ≤ xs0 → Go X 4 mX3_bestExchange Q 34 [(0, .ref a0), (1, .int x1), (2, .int x2), (3, .int x3), (4, .int x4), (5, .int x5), (6, .int x6), (7, .int (x7 + (1 : Int32)))] [] m)
    (h2 : ¬ (x6 ≤ xs0) → Go X 4 mX3_bestExchange Q 34 [(0, .ref a0), (1, .int x1), (2, .int x2), (3, .int x3), (4, .int x4), (5, .int x7), (6, .int xs0), (7, .int (x7 + (1 : Int32)))] [] m) :
    Go X 4 mX3_bestExchange Q 88 [(0, .ref a0), (1, .int x1), (2, .int x2), (3, .int x3), (4, .int x4), (5, .int x5), (6, .int x6), (7, .int x7), (8, .int x8)] [.int xs0] m := by
  refine g_istore (ls2 := [(9, .int xs0), (0, .ref a0), (1, .int x1), (2, .int x2), (3, .int x3), (4, .int x4), (5, .int x5), (6, .int x6), (7, .int x7), (8, .int x8)]) dX3_bestExchange_88 (by decide) rfl ?_
  refine g_iload 0 dX3_bestExchange_90 rfl ?_
  refine g_iload 7 dX3_bestExchange_92 rfl ?_
  refine g_icmp_ge 105 dX3_bestExchange_94 (by decide) (fun q1 => ?_) (fun q1 => ?_)
  · refine g_iinc (v := x7 + (1 : Int32)) (ls2 := [(7, .int (x7 + (1 : Int32))), (9, .int xs0), (0, .ref a0), (1, .int x1), (2, .int x2), (3, .int x3), (4, .int x4), (5, .int x5), (6, .int x6), (8, .int x8)]) 8 dX3_bestExchange_105 rfl rfl (by decide) rfl ?_
    refine g_goto 34 dX3_bestExchange_108 (by decide) ?_
    exact g_ls [2, 3, 4, 5, 6, 7, 8, 0] rfl (h1 q1)
  · refine g_iload 8 dX3_bestExchange_97 rfl ?_
    refine g_istore (ls2 := [(5, .int x7), (9, .int xs0), (0, .ref a0), (1, .int x1), (2, .int x2), (3, .int x3), (4, .int x4), (6, .int x6), (7, .int x7), (8, .int x8)]) dX3_bestExchange_99 (by decide) rfl ?_
    refine g_iload 1 dX3_bestExchange_101 rfl ?_
    refine g_istore (ls2 := [(6, .int xs0), (5, .int x7), (9, .int xs0), (0, .ref a0), (1, .int x1), (2, .int x2), (3, .int x3), (4, .int x4), (7, .int x7), (8, .int x8)]) dX3_bestExchange_103 (by decide) rfl ?_
    refine g_iinc (v := x7 + (1 : Int32)) (ls2 := [(7, .int (x7 + (1 : Int32))), (6, .int xs0), (5, .int x7), (9, .int xs0), (0, .ref a0), (1, .int x1), (2, .int x2), (3, .int x3), (4, .int x4), (8, .int x8)]) 8 dX3_bestExchange_105 rfl rfl (by decide) rfl ?_
    refine g_goto 34 dX3_bestExchange_108 (by decide) ?_
    exact g_ls [4, 5, 6, 7, 8, 2, 1, 0] rfl (h2 q1)
theorem bX3_daysOfBoth_0 {X : pX} {Q : Option Value → pMem → Prop} {m : pMem} {a0 : Nat} {x1 : Int32} {x2 : Int32} {x3 : Int32} (hW : Wf m) (c0 : SH[a0]? = some (.inl 3))
    (h1 : ¬ x3 = (-1 : Int32) → Cl X 1 mX8_hadBy [.ref 37, .int x1] m (fun v m2 => Go X 3 mX3_daysOfBoth Q 34 [(0, .ref a0), (1, .int x1), (2, .int x2), (3, .int x3), (4, .int (((1 : Int32) <<< ((x3 / (6 : Int32)) &&& 31)) ||| ((1 : Int32) <<< ((x3 - x3 / (6 : Int32) * (6 : Int32)) &&& 31))))] (v.toList ++ [.int x1, .ref a0]) m2))
    (h2 : x3 = (-1 : Int32) → Cl X 1 mX8_hadBy [.ref 37, .int x1] m (fun v m2 => Go X 3 mX3_daysOfBoth Q 34 [(0, .ref a0), (1, .int x1), (2, .int x2), (3, .int x3), (4, .int (0 : Int32))] (v.toList ++ [.int x1, .ref a0]) m2)) :
    Go X 3 mX3_daysOfBoth Q 0 [(0, .ref a0), (1, .int x1), (2, .int x2), (3, .int x3)] [] m := by
  refine g_iload_n 3 dX3_daysOfBoth_0 rfl rfl ?_
  refine g_iconst (v := -1) dX3_daysOfBoth_1 (by decide) ?_
  refine g_icmp_ne 9 dX3_daysOfBoth_2 (by decide) (fun q1 => ?_) (fun q1 => ?_)
  · refine g_iconst (v := 1) dX3_daysOfBoth_9 (by decide) ?_
    refine g_iload_n 3 dX3_daysOfBoth_10 rfl rfl ?_
    refine g_bipush (v := 6) dX3_daysOfBoth_11 (by decide) ?_
    refine g_idiv dX3_daysOfBoth_13 (by decide) ?_
    refine g_ishl dX3_daysOfBoth_14 ?_
    refine g_iconst (v := 1) dX3_daysOfBoth_15 (by decide) ?_
    refine g_iload_n 3 dX3_daysOfBoth_16 rfl rfl ?_
    refine g_bipush (v := 6) dX3_daysOfBoth_17 (by decide) ?_
    refine g_irem dX3_daysOfBoth_19 (by decide) ?_
    refine g_ishl dX3_daysOfBoth_20 ?_
    refine g_ior dX3_daysOfBoth_21 ?_
    refine g_istore (ls2 := [(4, .int (((1 : Int32) <<< ((x3 / (6 : Int32)) &&& 31)) ||| ((1 : Int32) <<< ((x3 - x3 / (6 : Int32) * (6 : Int32)) &&& 31)))), (0, .ref a0), (1, .int x1), (2, .int x2), (3, .int x3)]) dX3_daysOfBoth_22 (by decide) rfl ?_
    refine g_aload_n 1 dX3_daysOfBoth_24 rfl rfl ?_
    refine g_iload_n 2 dX3_daysOfBoth_25 rfl rfl ?_
    refine g_aload_n 1 dX3_daysOfBoth_26 rfl rfl ?_
    refine g_getR dX3_daysOfBoth_27 fl3_15 rfl c0 (w3_1 hW c0) ?_
    refine g_iload_n 2 dX3_daysOfBoth_30 rfl rfl ?_
    refine g_ls [1, 2, 3, 4, 0] (ls2 := [(0, .ref a0), (1, .int x1), (2, .int x2), (3, .int x3), (4, .int (((1 : Int32) <<< ((x3 / (6 : Int32)) &&& 31)) ||| ((1 : Int32) <<< ((x3 - x3 / (6 : Int32) * (6 : Int32)) &&& 31))))]) rfl ?_
    exact g_callV (As := [.int x1]) (st := [.int x1, .ref a0]) dX3_daysOfBoth_31 clX3_48 sh37 rfl rfl (Nat.le_of_ble_eq_true rfl) (rmSH (by decide) (by decide)) (h1 q1)
  · refine g_iconst (v := 0) dX3_daysOfBoth_5 (by decide) ?_
    refine g_goto 22 dX3_daysOfBoth_6 (by decide) ?_
    refine g_istore (ls2 := [(4, .int (0 : Int32)), (0, .ref a0), (1, .int x1), (2, .int x2), (3, .int x3)]) dX3_daysOfBoth_22 (by decide) rfl ?_
    refine g_aload_n 1 dX3_daysOfBoth_24 rfl rfl ?_
    refine g_iload_n 2 dX3_daysOfBoth_25 rfl rfl ?_
    refine g_aload_n 1 dX3_daysOfBoth_26 rfl rfl ?_
    refine g_getR dX3_daysOfBoth_27 fl3_15 rfl c0 (w3_1 hW c0) ?_
    refine g_iload_n 2 dX3_daysOfBoth_30 rfl rfl ?_
    refine g_ls [1, 2, 3, 4, 0] (ls2 := [(0, .ref a0), (1, .int x1), (2, .int x2), (3, .int x3), (4, .int (0 : Int32))]) rfl ?_
    exact g_callV (As := [.int x1]) (st := [.int x1, .ref a0]) dX3_daysOfBoth_31 clX3_48 sh37 rfl rfl (Nat.le_of_ble_eq_true rfl) (rmSH (by decide) (by decide)) (h2 q1)
theorem bX3_daysOfBoth_34 {X : pX} {Q : Option Value → pMem → Prop} {m : pMem} {a0 : Nat} {x1 : Int32} {x2 : Int32} {x3 : Int32} {x4 : Int32} {xs0 : Int32} {xs1 : Int32} {as2 : Nat} (hW : Wf m) (c0 : SH[a0]? = some (.inl 3)) (cs2 : SH[as2]? = some (.inl 3))
    (h1 : Cl X 2 mX3_daysToTown [.ref as2, .int xs1, .int (xs0 ^^^ x4)] m (fun v m2 => Go X 3 mX3_daysOfBoth Q 40 [(0, .ref a0), (1, .int x1), (2, .int x2), (3, .int x3), (4, .int x4)] (v.toList ++ []) m2)) :
    Go X 3 mX3_daysOfBoth Q 34 [(0, .ref a0), (1, .int x1), (2, .int x2), (3, .int x3), (4, .int x4)] [.int xs0, .int xs1, .ref as2] m := by
  refine g_iload 4 dX3_daysOfBoth_34 rfl ?_
  refine g_ixor dX3_daysOfBoth_36 ?_
  exact g_callV (As := [.int xs1, .int (xs0 ^^^ x4)]) (st := []) dX3_daysOfBoth_37 clX3_61 cs2 rfl rfl (Nat.le_of_ble_eq_true rfl) (rmSH (by decide) (by decide)) h1
theorem bX3_daysOfBoth_40 {X : pX} {Q : Option Value → pMem → Prop} {m : pMem} {a0 : Nat} {x1 : Int32} {x2 : Int32} {x3 : Int32} {x4 : Int32} {xs0 : Int32} (hW : Wf m) (c0 : SH[a0]? = some (.inl 3))
    (h1 : Cl X 1 mX8_hadBy [.ref 37, .int x2] m (fun v m2 => Go X 3 mX3_daysOfBoth Q 50 [(0, .ref a0), (1, .int x1), (2, .int x2), (3, .int x3), (4, .int x4)] (v.toList ++ [.int x2, .ref a0, .int xs0]) m2)) :
    Go X 3 mX3_daysOfBoth Q 40 [(0, .ref a0), (1, .int x1), (2, .int x2), (3, .int x3), (4, .int x4)] [.int xs0] m := by
  refine g_aload_n 0 dX3_daysOfBoth_40 rfl rfl ?_
  refine g_iload_n 2 dX3_daysOfBoth_41 rfl rfl ?_
  refine g_aload_n 0 dX3_daysOfBoth_42 rfl rfl ?_
  refine g_getR dX3_daysOfBoth_43 fl3_15 rfl c0 (w3_1 hW c0) ?_
  refine g_iload_n 2 dX3_daysOfBoth_46 rfl rfl ?_
  exact g_callV (As := [.int x2]) (st := [.int x2, .ref a0, .int xs0]) dX3_daysOfBoth_47 clX3_48 sh37 rfl rfl (Nat.le_of_ble_eq_true rfl) (rmSH (by decide) (by decide)) h1
theorem bX3_daysOfBoth_50 {X : pX} {Q : Option Value → pMem → Prop} {m : pMem} {a0 : Nat} {x1 : Int32} {x2 : Int32} {x3 : Int32} {x4 : Int32} {xs0 : Int32} {xs1 : Int32} {as2 : Nat} {xs3 : Int32} (hW : Wf m) (c0 : SH[a0]? = some (.inl 3)) (cs2 : SH[as2]? = some (.inl 3))
    (h1 : Cl X 2 mX3_daysToTown [.ref as2, .int xs1, .int (xs0 ^^^ x4)] m (fun v m2 => Go X 3 mX3_daysOfBoth Q 56 [(0, .ref a0), (1, .int x1), (2, .int x2), (3, .int x3), (4, .int x4)] (v.toList ++ [.int xs3]) m2)) :
    Go X 3 mX3_daysOfBoth Q 50 [(0, .ref a0), (1, .int x1), (2, .int x2), (3, .int x3), (4, .int x4)] [.int xs0, .int xs1, .ref as2, .int xs3] m := by
  refine g_iload 4 dX3_daysOfBoth_50 rfl ?_
  refine g_ixor dX3_daysOfBoth_52 ?_
  exact g_callV (As := [.int xs1, .int (xs0 ^^^ x4)]) (st := [.int xs3]) dX3_daysOfBoth_53 clX3_61 cs2 rfl rfl (Nat.le_of_ble_eq_true rfl) (rmSH (by decide) (by decide)) h1
theorem bX3_daysOfBoth_56 {X : pX} {Q : Option Value → pMem → Prop} {m : pMem} {a0 : Nat} {x1 : Int32} {x2 : Int32} {x3 : Int32} {x4 : Int32} {xs0 : Int32} {xs1 : Int32} (hW : Wf m) (c0 : SH[a0]? = some (.inl 3))
    (h1 : Q (some (.int (xs1 + xs0))) m) :
    Go X 3 mX3_daysOfBoth Q 56 [(0, .ref a0), (1, .int x1), (2, .int x2), (3, .int x3), (4, .int x4)] [.int xs0, .int xs1] m := by
  refine g_iadd dX3_daysOfBoth_56 ?_
  exact g_iret dX3_daysOfBoth_57 rfl enSH h1
theorem bX3_penceOf_0 {X : pX} {Q : Option Value → pMem → Prop} {m : pMem} {a0 : Nat} {x1 : Int32} {x2 : Int32} (hW : Wf m) (c0 : SH[a0]? = some (.inl 3))
    (h1 : Go X 3 mX3_penceOf Q 5 [(0, .ref a0), (1, .int x1), (2, .int x2), (3, .int (0 : Int32)), (4, .int (0 : Int32))] [] m) :
    Go X 3 mX3_penceOf Q 0 [(0, .ref a0), (1, .int x1), (2, .int x2)] [] m := by
  refine g_iconst (v := 0) dX3_penceOf_0 (by decide) ?_
  refine g_istore_n (ls2 := [(3, .int (0 : Int32)), (0, .ref a0), (1, .int x1), (2, .int x2)]) dX3_penceOf_1 rfl (by decide) rfl ?_
  refine g_iconst (v := 0) dX3_penceOf_2 (by decide) ?_
  refine g_istore (ls2 := [(4, .int (0 : Int32)), (3, .int (0 : Int32)), (0, .ref a0), (1, .int x1), (2, .int x2)]) dX3_penceOf_3 (by decide) rfl ?_
  exact g_ls [2, 3, 4, 1, 0] rfl h1
theorem bX3_penceOf_5 {X : pX} {Q : Option Value → pMem → Prop} {m : pMem} {a0 : Nat} {x1 : Int32} {x2 : Int32} {x3 : Int32} {x4 : Int32} (hW : Wf m) (c0 : SH[a0]? = some (.inl 3))
    (h1 : (mI m 31 3) ≤ x4 → ¬ x3 = 0 → Cl X 2 mX3_worthBy [.ref a0, .int x2] m (fun v m2 => Go X 3 mX3_penceOf Q 50 [(0, .ref a0), (1, .int x1), (2, .int x2), (3, .int x3), (4, .int x1), (5, .int (0 : Int32))] (v.toList ++ [.int x1]) m2))
    (h2 : (mI m 31 3) ≤ x4 → x3 = 0 → Q (some (.int (0 : Int32))) m)
    (h3 : ¬ ((mI m 31 3) ≤ x4) → Cl X 2 mX3_worthBy [.ref a0, .int x4] m (fun v m2 => Go X 3 mX3_penceOf Q 24 [(0, .ref a0), (1, .int x1), (2, .int x2), (3, .int x3), (4, .int x4)] (v.toList ++ [.int x3]) m2)) :
    Go X 3 mX3_penceOf Q 5 [(0, .ref a0), (1, .int x1), (2, .int x2), (3, .int x3), (4, .int x4)] [] m := by
  refine g_iload 4 dX3_penceOf_5 rfl ?_
  refine g_aload_n 0 dX3_penceOf_7 rfl rfl ?_
  refine g_getR dX3_penceOf_8 fl3_9 rfl c0 (w3_0 hW c0) ?_
  refine g_getI dX3_penceOf_11 fl3_69 sh31 ?_
  refine g_icmp_ge 32 dX3_penceOf_14 (by decide) (fun q1 => ?_) (fun q1 => ?_)
  · refine g_iload_n 3 dX3_penceOf_32 rfl rfl ?_
    refine g_if_ne 38 dX3_penceOf_33 (by decide) (fun q2 => ?_) (fun q2 => ?_)
    · refine g_iload_n 1 dX3_penceOf_38 rfl rfl ?_
      refine g_istore (ls2 := [(4, .int x1), (0, .ref a0), (1, .int x1), (2, .int x2), (3, .int x3)]) dX3_penceOf_39 (by decide) rfl ?_
      refine g_iconst (v := 0) dX3_penceOf_41 (by decide) ?_
      refine g_istore (ls2 := [(5, .int (0 : Int32)), (4, .int x1), (0, .ref a0), (1, .int x1), (2, .int x2), (3, .int x3)]) dX3_penceOf_42 (by decide) rfl ?_
      refine g_iload_n 3 dX3_penceOf_44 rfl rfl ?_
      refine g_aload_n 2 dX3_penceOf_45 rfl rfl ?_
      refine g_iload_n 4 dX3_penceOf_46 rfl rfl ?_
      refine g_ls [2, 3, 4, 5, 1, 0] (ls2 := [(0, .ref a0), (1, .int x1), (2, .int x2), (3, .int x3), (4, .int x1), (5, .int (0 : Int32))]) rfl ?_
      exact g_callV (As := [.int x2]) (st := [.int x1]) dX3_penceOf_47 clX3_72 c0 rfl rfl (Nat.le_of_ble_eq_true rfl) (rmSH (by decide) (by decide)) (h1 q1 q2)
    · refine g_iconst (v := 0) dX3_penceOf_36 (by decide) ?_
      exact g_iret dX3_penceOf_37 rfl enSH (h2 q1 q2)
  · refine g_iload_n 3 dX3_penceOf_17 rfl rfl ?_
    refine g_aload_n 0 dX3_penceOf_18 rfl rfl ?_
    refine g_iload 4 dX3_penceOf_19 rfl ?_
    exact g_callV (As := [.int x4]) (st := [.int x3]) dX3_penceOf_21 clX3_72 c0 rfl rfl (Nat.le_of_ble_eq_true rfl) (rmSH (by decide) (by decide)) (h3 q1)
theorem bX3_penceOf_50 {X : pX} {Q : Option Value → pMem → Prop} {m : pMem} {a0 : Nat} {x1 : Int32} {x2 : Int32} {x3 : Int32} {x4 : Int32} {x5 : Int32} {xs0 : Int32} {xs1 : Int32} (hW : Wf m) (c0 : SH[a0]? = some (.inl 3))
    (h1 : ¬ x3 = 0)
    (h2 : Go X 3 mX3_penceOf Q 58 [(0, .ref a0), (1, .int x1), (2, .int x2), (3, .int x3), (4, .int x4), (5, .int x5), (6, .int ((xs1 * xs0) - (xs1 * xs0) / x3 * x3)), (7, .int (0 : Int32))] [] m) :
    Go X 3 mX3_penceOf Q 50 [(0, .ref a0), (1, .int x1), (2, .int x2), (3, .int x3), (4, .int x4), (5, .int x5)] [.int xs0, .int xs1] m := by
  refine g_imul dX3_penceOf_50 ?_
  refine g_iload_n 3 dX3_penceOf_51 rfl rfl ?_
  refine g_irem dX3_penceOf_52 h1 ?_
  refine g_istore (ls2 := [(6, .int ((xs1 * xs0) - (xs1 * xs0) / x3 * x3)), (0, .ref a0), (1, .int x1), (2, .int x2), (3, .int x3), (4, .int x4), (5, .int x5)]) dX3_penceOf_53 (by decide) rfl ?_
  refine g_iconst (v := 0) dX3_penceOf_55 (by decide) ?_
  refine g_istore (ls2 := [(7, .int (0 : Int32)), (6, .int ((xs1 * xs0) - (xs1 * xs0) / x3 * x3)), (0, .ref a0), (1, .int x1), (2, .int x2), (3, .int x3), (4, .int x4), (5, .int x5)]) dX3_penceOf_56 (by decide) rfl ?_
  exact g_ls [2, 3, 4, 5, 6, 7, 1, 0] rfl h2
theorem bX3_penceOf_24 {X : pX} {Q : Option Value → pMem → Prop} {m : pMem} {a0 : Nat} {x1 : Int32} {x2 : Int32} {x3 : Int32} {x4 : Int32} {xs0 : Int32} {xs1 : Int32} (hW : Wf m) (c0 : SH[a0]? = some (.inl 3))
    (h1 : Go X 3 mX3_penceOf Q 5 [(0, .ref a0), (1, .int x1), (2, .int x2), (3, .int (xs1 + xs0)), (4, .int (x4 + (1 : Int32)))] [] m) :
    Go X 3 mX3_penceOf Q 24 [(0, .ref a0), (1, .int x1), (2, .int x2), (3, .int x3), (4, .int x4)] [.int xs0, .int xs1] m := by
  refine g_iadd dX3_penceOf_24 ?_
  refine g_istore_n (ls2 := [(3, .int (xs1 + xs0)), (0, .ref a0), (1, .int x1), (2, .int x2), (4, .int x4)]) dX3_penceOf_25 rfl (by decide) rfl ?_
  refine g_iinc (v := x4 + (1 : Int32)) (ls2 := [(4, .int (x4 + (1 : Int32))), (3, .int (xs1 + xs0)), (0, .ref a0), (1, .int x1), (2, .int x2)]) 4 dX3_penceOf_26 rfl rfl (by decide) rfl ?_
  refine g_goto 5 dX3_penceOf_29 (by decide) ?_
  exact g_ls [2, 3, 4, 1, 0] rfl h1
theorem bX3_penceOf_58 {X : pX} {Q : Option Value → pMem → Prop} {m : pMem} {a0 : Nat} {x1 : Int32} {x2 : Int32} {x3 : Int32} {x4 : Int32} {x5 : Int32} {x6 : Int32} {x7 : Int32} (hW : Wf m) (c0 : SH[a0]? = some (.inl 3))
    (h1 : (mI m 31 3) ≤ x7 → Cl X 2 mX3_worthBy [.ref a0, .int x2] m (fun v m2 => Go X 3 mX3_penceOf Q 130 [(0, .ref a0), (1, .int x1), (2, .int x2), (3, .int x3), (4, .int x4), (5, .int x5), (6, .int x6), (7, .int x7)] (v.toList ++ [.int x1]) m2))
    (h2 : ¬ ((mI m 31 3) ≤ x7) → Cl X 2 mX3_worthBy [.ref a0, .int x7] m (fun v m2 => Go X 3 mX3_penceOf Q 77 [(0, .ref a0), (1, .int x1), (2, .int x2), (3, .int x3), (4, .int x4), (5, .int x5), (6, .int x6), (7, .int x7)] (v.toList ++ [.int x1]) m2)) :
    Go X 3 mX3_penceOf Q 58 [(0, .ref a0), (1, .int x1), (2, .int x2), (3, .int x3), (4, .int x4), (5, .int x5), (6, .int x6), (7, .int x7)] [] m := by
  refine g_iload 7 dX3_penceOf_58 rfl ?_
  refine g_aload_n 0 dX3_penceOf_60 rfl rfl ?_
  refine g_getR dX3_penceOf_61 fl3_9 rfl c0 (w3_0 hW c0) ?_
  refine g_getI dX3_penceOf_64 fl3_69 sh31 ?_
  refine g_icmp_ge 124 dX3_penceOf_67 (by decide) (fun q1 => ?_) (fun q1 => ?_)
  · refine g_iload_n 1 dX3_penceOf_124 rfl rfl ?_
    refine g_aload_n 0 dX3_penceOf_125 rfl rfl ?_
    refine g_iload_n 2 dX3_penceOf_126 rfl rfl ?_
    exact g_callV (As := [.int x2]) (st := [.int x1]) dX3_penceOf_127 clX3_72 c0 rfl rfl (Nat.le_of_ble_eq_true rfl) (rmSH (by decide) (by decide)) (h1 q1)
  · refine g_iload_n 1 dX3_penceOf_70 rfl rfl ?_
    refine g_aload_n 0 dX3_penceOf_71 rfl rfl ?_
    refine g_iload 7 dX3_penceOf_72 rfl ?_
    exact g_callV (As := [.int x7]) (st := [.int x1]) dX3_penceOf_74 clX3_72 c0 rfl rfl (Nat.le_of_ble_eq_true rfl) (rmSH (by decide) (by decide)) (h2 q1)
theorem bX3_penceOf_130 {X : pX} {Q : Option Value → pMem → Prop} {m : pMem} {a0 : Nat} {x1 : Int32} {x2 : Int32} {x3 : Int32} {x4 : Int32} {x5 : Int32} {x6 : Int32} {x7 : Int32} {xs0 : Int32} {xs1 : Int32} (hW : Wf m) (c0 : SH[a0]? = some (.inl 3))
    (h1 : ¬ x3 = 0)
    (h2 : x4 ≤ x5 → Q (some (.int (((xs1 * xs0) / x3) + (0 : Int32)))) m)
    (h3 : ¬ (x4 ≤ x5) → Q (some (.int (((xs1 * xs0) / x3) + (1 : Int32)))) m) :
    Go X 3 mX3_penceOf Q 130 [(0, .ref a0), (1, .int x1), (2, .int x2), (3, .int x3), (4, .int x4), (5, .int x5), (6, .int x6), (7, .int x7)] [.int xs0, .int xs1] m := by
  refine g_imul dX3_penceOf_130 ?_
  refine g_iload_n 3 dX3_penceOf_131 rfl rfl ?_
  refine g_idiv dX3_penceOf_132 h1 ?_
  refine g_iload 5 dX3_penceOf_133 rfl ?_
  refine g_iload 4 dX3_penceOf_135 rfl ?_
  refine g_icmp_ge 144 dX3_penceOf_137 (by decide) (fun q1 => ?_) (fun q1 => ?_)
  · refine g_iconst (v := 0) dX3_penceOf_144 (by decide) ?_
    refine g_iadd dX3_penceOf_145 ?_
    exact g_iret dX3_penceOf_146 rfl enSH (h2 q1)
  · refine g_iconst (v := 1) dX3_penceOf_140 (by decide) ?_
    refine g_goto 145 dX3_penceOf_141 (by decide) ?_
    refine g_iadd dX3_penceOf_145 ?_
    exact g_iret dX3_penceOf_146 rfl enSH (h3 q1)
theorem bX3_penceOf_77 {X : pX} {Q : Option Value → pMem → Prop} {m : pMem} {a0 : Nat} {x1 : Int32} {x2 : Int32} {x3 : Int32} {x4 : Int32} {x5 : Int32} {x6 : Int32} {x7 : Int32} {xs0 : Int32} {xs1 : Int32} (hW : Wf m) (c0 : SH[a0]? = some (.inl 3))
    (h1 : ¬ x3 = 0)
    (h2 : ¬ x3 = 0)
    (h3 : x6 < ((xs1 * xs0) - (xs1 * xs0) / x3 * x3) → Go X 3 mX3_penceOf Q 58 [(0, .ref a0), (1, .int x1), (2, .int x2), (3, .int x3), (4, .int (x4 - ((xs1 * xs0) / x3))), (5, .int (x5 + (1 : Int32))), (6, .int x6), (7, .int (x7 + (1 : Int32)))] [] m)
    (h4 : ¬ (x6 < ((xs1 * xs0) - (xs1 * xs0) / x3 * x3)) → ¬ ((xs1 * xs0) - (xs1 * xs0) / x3 * x3) = x6 → Go X 3 mX3_penceOf Q 58 [(0, .ref a0), (1, .int x1), (2, .int x2), (3, .int x3), (4, .int (x4 - ((xs1 * xs0) / x3))), (5, .int x5), (6, .int x6), (7, .int (x7 + (1 : Int32)))] [] m)
    (h5 : ¬ (x6 < ((xs1 * xs0) - (xs1 * xs0) / x3 * x3)) → ((xs1 * xs0) - (xs1 * xs0) / x3 * x3) = x6 → x2 ≤ x7 → Go X 3 mX3_penceOf Q 58 [(0, .ref a0), (1, .int x1), (2, .int x2), (3, .int x3), (4, .int (x4 - ((xs1 * xs0) / x3))), (5, .int x5), (6, .int x6), (7, .int (x7 + (1 : Int32)))] [] m)
    (h6 : ¬ (x6 < ((xs1 * xs0) - (xs1 * xs0) / x3 * x3)) → ((xs1 * xs0) - (xs1 * xs0) / x3 * x3) = x6 → ¬ (x2 ≤ x7) → Go X 3 mX3_penceOf Q 58 [(0, .ref a0), (1, .int x1), (2, .int x2), (3, .int x3), (4, .int (x4 - ((xs1 * xs0) / x3))), (5, .int (x5 + (1 : Int32))), (6, .int x6), (7, .int (x7 + (1 : Int32)))] [] m) :
    Go X 3 mX3_penceOf Q 77 [(0, .ref a0), (1, .int x1), (2, .int x2), (3, .int x3), (4, .int x4), (5, .int x5), (6, .int x6), (7, .int x7)] [.int xs0, .int xs1] m := by
  refine g_imul dX3_penceOf_77 ?_
  refine g_istore (ls2 := [(8, .int (xs1 * xs0)), (0, .ref a0), (1, .int x1), (2, .int x2), (3, .int x3), (4, .int x4), (5, .int x5), (6, .int x6), (7, .int x7)]) dX3_penceOf_78 (by decide) rfl ?_
  refine g_iload 5 dX3_penceOf_80 rfl ?_
  refine g_iload 0 dX3_penceOf_82 rfl ?_
  refine g_iload_n 4 dX3_penceOf_84 rfl rfl ?_
  refine g_idiv dX3_penceOf_85 h1 ?_
  refine g_isub dX3_penceOf_86 ?_
  refine g_istore (ls2 := [(4, .int (x4 - ((xs1 * xs0) / x3))), (8, .int (xs1 * xs0)), (0, .ref a0), (1, .int x1), (2, .int x2), (3, .int x3), (5, .int x5), (6, .int x6), (7, .int x7)]) dX3_penceOf_87 (by decide) rfl ?_
  refine g_iload 1 dX3_penceOf_89 rfl ?_
  refine g_iload_n 5 dX3_penceOf_91 rfl rfl ?_
  refine g_irem dX3_penceOf_92 h2 ?_
  refine g_istore (ls2 := [(9, .int ((xs1 * xs0) - (xs1 * xs0) / x3 * x3)), (4, .int (x4 - ((xs1 * xs0) / x3))), (8, .int (xs1 * xs0)), (0, .ref a0), (1, .int x1), (2, .int x2), (3, .int x3), (5, .int x5), (6, .int x6), (7, .int x7)]) dX3_penceOf_93 (by decide) rfl ?_
  refine g_iload 0 dX3_penceOf_95 rfl ?_
  refine g_iload 8 dX3_penceOf_97 rfl ?_
  refine g_icmp_gt 115 dX3_penceOf_99 (by decide) (fun q1 => ?_) (fun q1 => ?_)
  · refine g_iinc (v := x5 + (1 : Int32)) (ls2 := [(5, .int (x5 + (1 : Int32))), (9, .int ((xs1 * xs0) - (xs1 * xs0) / x3 * x3)), (4, .int (x4 - ((xs1 * xs0) / x3))), (8, .int (xs1 * xs0)), (0, .ref a0), (1, .int x1), (2, .int x2), (3, .int x3), (6, .int x6), (7, .int x7)]) 7 dX3_penceOf_115 rfl rfl (by decide) rfl ?_
    refine g_iinc (v := x7 + (1 : Int32)) (ls2 := [(7, .int (x7 + (1 : Int32))), (5, .int (x5 + (1 : Int32))), (9, .int ((xs1 * xs0) - (xs1 * xs0) / x3 * x3)), (4, .int (x4 - ((xs1 * xs0) / x3))), (8, .int (xs1 * xs0)), (0, .ref a0), (1, .int x1), (2, .int x2), (3, .int x3), (6, .int x6)]) 9 dX3_penceOf_118 rfl rfl (by decide) rfl ?_
    refine g_goto 58 dX3_penceOf_121 (by decide) ?_
    exact g_ls [5, 6, 7, 8, 3, 1, 9, 0] rfl (h3 q1)
  · refine g_iload 0 dX3_penceOf_102 rfl ?_
    refine g_iload 8 dX3_penceOf_104 rfl ?_
    refine g_icmp_ne 118 dX3_penceOf_106 (by decide) (fun q2 => ?_) (fun q2 => ?_)
    · refine g_iinc (v := x7 + (1 : Int32)) (ls2 := [(7, .int (x7 + (1 : Int32))), (9, .int ((xs1 * xs0) - (xs1 * xs0) / x3 * x3)), (4, .int (x4 - ((xs1 * xs0) / x3))), (8, .int (xs1 * xs0)), (0, .ref a0), (1, .int x1), (2, .int x2), (3, .int x3), (5, .int x5), (6, .int x6)]) 9 dX3_penceOf_118 rfl rfl (by decide) rfl ?_
      refine g_goto 58 dX3_penceOf_121 (by decide) ?_
      exact g_ls [4, 5, 6, 7, 2, 8, 9, 0] rfl (h4 q1 q2)
    · refine g_iload 9 dX3_penceOf_109 rfl ?_
      refine g_iload_n 5 dX3_penceOf_111 rfl rfl ?_
      refine g_icmp_ge 118 dX3_penceOf_112 (by decide) (fun q3 => ?_) (fun q3 => ?_)
      · refine g_iinc (v := x7 + (1 : Int32)) (ls2 := [(7, .int (x7 + (1 : Int32))), (9, .int ((xs1 * xs0) - (xs1 * xs0) / x3 * x3)), (4, .int (x4 - ((xs1 * xs0) / x3))), (8, .int (xs1 * xs0)), (0, .ref a0), (1, .int x1), (2, .int x2), (3, .int x3), (5, .int x5), (6, .int x6)]) 9 dX3_penceOf_118 rfl rfl (by decide) rfl ?_
        refine g_goto 58 dX3_penceOf_121 (by decide) ?_
        exact g_ls [4, 5, 6, 7, 2, 8, 9, 0] rfl (h5 q1 q2 q3)
      · refine g_iinc (v := x5 + (1 : Int32)) (ls2 := [(5, .int (x5 + (1 : Int32))), (9, .int ((xs1 * xs0) - (xs1 * xs0) / x3 * x3)), (4, .int (x4 - ((xs1 * xs0) / x3))), (8, .int (xs1 * xs0)), (0, .ref a0), (1, .int x1), (2, .int x2), (3, .int x3), (6, .int x6), (7, .int x7)]) 7 dX3_penceOf_115 rfl rfl (by decide) rfl ?_
        refine g_iinc (v := x7 + (1 : Int32)) (ls2 := [(7, .int (x7 + (1 : Int32))), (5, .int (x5 + (1 : Int32))), (9, .int ((xs1 * xs0) - (xs1 * xs0) / x3 * x3)), (4, .int (x4 - ((xs1 * xs0) / x3))), (8, .int (xs1 * xs0)), (0, .ref a0), (1, .int x1), (2, .int x2), (3, .int x3), (6, .int x6)]) 9 dX3_penceOf_118 rfl rfl (by decide) rfl ?_
        refine g_goto 58 dX3_penceOf_121 (by decide) ?_
        exact g_ls [5, 6, 7, 8, 3, 1, 9, 0] rfl (h6 q1 q2 q3)
theorem bX3_worthBy_0 {X : pX} {Q : Option Value → pMem → Prop} {m : pMem} {a0 : Nat} {x1 : Int32} (hW : Wf m) (c0 : SH[a0]? = some (.inl 3))
    (h1 : Cl X 1 mX8_hadBy [.ref 37, .int x1] m (fun v m2 => Go X 2 mX3_worthBy Q 12 [(0, .ref a0), (1, .int x1)] (v.toList ++ [.ref 31]) m2)) :
    Go X 2 mX3_worthBy Q 0 [(0, .ref a0), (1, .int x1)] [] m := by
  refine g_aload_n 0 dX3_worthBy_0 rfl rfl ?_
  refine g_getR dX3_worthBy_1 fl3_9 rfl c0 (w3_0 hW c0) ?_
  refine g_aload_n 0 dX3_worthBy_4 rfl rfl ?_
  refine g_getR dX3_worthBy_5 fl3_15 rfl c0 (w3_1 hW c0) ?_
  refine g_iload_n 1 dX3_worthBy_8 rfl rfl ?_
  exact g_callV (As := [.int x1]) (st := [.ref 31]) dX3_worthBy_9 clX3_48 sh37 rfl rfl (Nat.le_of_ble_eq_true rfl) (rmSH (by decide) (by decide)) h1
theorem bX3_worthBy_12 {X : pX} {Q : Option Value → pMem → Prop} {m : pMem} {a0 : Nat} {x1 : Int32} {xs0 : Int32} {as1 : Nat} (hW : Wf m) (c0 : SH[a0]? = some (.inl 3)) (cs1 : SH[as1]? = some (.inl 4))
    (h1 : Cl X 0 mX4_worthOf [.ref as1, .int xs0] m (fun v m2 => Go X 2 mX3_worthBy Q 15 [(0, .ref a0), (1, .int x1)] (v.toList ++ []) m2)) :
    Go X 2 mX3_worthBy Q 12 [(0, .ref a0), (1, .int x1)] [.int xs0, .ref as1] m := by
  exact g_callV (As := [.int xs0]) (st := []) dX3_worthBy_12 clX3_58 cs1 rfl rfl (Nat.le_of_ble_eq_true rfl) (rmSH (by decide) (by decide)) h1
theorem bX3_worthBy_15 {X : pX} {Q : Option Value → pMem → Prop} {m : pMem} {a0 : Nat} {x1 : Int32} {xs0 : Int32} (hW : Wf m) (c0 : SH[a0]? = some (.inl 3))
    (h1 : Q (some (.int xs0)) m) :
    Go X 2 mX3_worthBy Q 15 [(0, .ref a0), (1, .int x1)] [.int xs0] m := by
  exact g_iret dX3_worthBy_15 rfl enSH h1
