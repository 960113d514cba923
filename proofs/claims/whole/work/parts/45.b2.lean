theorem bX0_peopleInTownS37_0 {X : pX} {Q : Option Value → pMem → Prop} {m : pMem} (hW : Wf m)
    (h1 : Go X 0 mX0_peopleInTown Q 4 [(0, .ref 512), (1, .ref 37), (2, .int (0 : Int32)), (3, .int (0 : Int32))] [] m) :
    Go X 0 mX0_peopleInTown Q 0 [(0, .ref 512), (1, .ref 37)] [] m := by
  refine g_iconst (v := 0) dX0_peopleInTown_0 (by decide) ?_
  refine g_istore_n (ls2 := [(2, .int (0 : Int32)), (0, .ref 512), (1, .ref 37)]) dX0_peopleInTown_1 rfl (by decide) rfl ?_
  refine g_iconst (v := 0) dX0_peopleInTown_2 (by decide) ?_
  refine g_istore_n (ls2 := [(3, .int (0 : Int32)), (2, .int (0 : Int32)), (0, .ref 512), (1, .ref 37)]) dX0_peopleInTown_3 rfl (by decide) rfl ?_
  exact g_ls [2, 3, 1, 0] rfl h1
theorem bX0_peopleInTownS37_4 {X : pX} {Q : Option Value → pMem → Prop} {m : pMem} {x2 : Int32} {x3 : Int32} (hW : Wf m)
    (h1 : (mI m 31 3) ≤ x3 → Q (some (.int x2)) m)
    (h2 : ¬ ((mI m 31 3) ≤ x3) → vp_in x3 4)
    (h3 : ¬ ((mI m 31 3) ≤ x3) → ¬ (mI m 38 x3.toNatClampNeg) = (mI m 31 2) → Go X 0 mX0_peopleInTown Q 4 [(0, .ref 512), (1, .ref 37), (2, .int x2), (3, .int (x3 + (1 : Int32)))] [] m)
    (h4 : ¬ ((mI m 31 3) ≤ x3) → (mI m 38 x3.toNatClampNeg) = (mI m 31 2) → Go X 0 mX0_peopleInTown Q 4 [(0, .ref 512), (1, .ref 37), (2, .int (x2 ||| ((1 : Int32) <<< (x3 &&& 31)))), (3, .int (x3 + (1 : Int32)))] [] m) :
    Go X 0 mX0_peopleInTown Q 4 [(0, .ref 512), (1, .ref 37), (2, .int x2), (3, .int x3)] [] m := by
  refine g_iload_n 3 dX0_peopleInTown_4 rfl rfl ?_
  refine g_aload_n 0 dX0_peopleInTown_5 rfl rfl ?_
  refine g_getR dX0_peopleInTown_6 fl0_17 rfl sh512 (w0_0 hW sh512) ?_
  refine g_getI dX0_peopleInTown_9 fl0_25 sh31 ?_
  refine g_icmp_ge 43 dX0_peopleInTown_12 (by decide) (fun q1 => ?_) (fun q1 => ?_)
  · refine g_iload_n 2 dX0_peopleInTown_43 rfl rfl ?_
    exact g_iret dX0_peopleInTown_44 rfl enSH (h1 q1)
  · refine g_aload_n 1 dX0_peopleInTown_15 rfl rfl ?_
    refine g_getR dX0_peopleInTown_16 fl0_31 rfl sh37 (w8_1 hW sh37) ?_
    refine g_iload_n 3 dX0_peopleInTown_19 rfl rfl ?_
    refine g_iald (j := x3.toNatClampNeg) dX0_peopleInTown_20 (s8_1 sh37) (h2 q1) rfl ?_
    refine g_aload_n 0 dX0_peopleInTown_21 rfl rfl ?_
    refine g_getR dX0_peopleInTown_22 fl0_17 rfl sh512 (w0_0 hW sh512) ?_
    refine g_getI dX0_peopleInTown_25 fl0_36 sh31 ?_
    refine g_icmp_ne 37 dX0_peopleInTown_28 (by decide) (fun q2 => ?_) (fun q2 => ?_)
    · refine g_iinc (v := x3 + (1 : Int32)) (ls2 := [(3, .int (x3 + (1 : Int32))), (0, .ref 512), (1, .ref 37), (2, .int x2)]) 3 dX0_peopleInTown_37 rfl rfl (by decide) rfl ?_
      refine g_goto 4 dX0_peopleInTown_40 (by decide) ?_
      exact g_ls [1, 2, 3, 0] rfl (h3 q1 q2)
    · refine g_iload_n 2 dX0_peopleInTown_31 rfl rfl ?_
      refine g_iconst (v := 1) dX0_peopleInTown_32 (by decide) ?_
      refine g_iload_n 3 dX0_peopleInTown_33 rfl rfl ?_
      refine g_ishl dX0_peopleInTown_34 ?_
      refine g_ior dX0_peopleInTown_35 ?_
      refine g_istore_n (ls2 := [(2, .int (x2 ||| ((1 : Int32) <<< (x3 &&& 31)))), (0, .ref 512), (1, .ref 37), (3, .int x3)]) dX0_peopleInTown_36 rfl (by decide) rfl ?_
      refine g_iinc (v := x3 + (1 : Int32)) (ls2 := [(3, .int (x3 + (1 : Int32))), (2, .int (x2 ||| ((1 : Int32) <<< (x3 &&& 31)))), (0, .ref 512), (1, .ref 37)]) 3 dX0_peopleInTown_37 rfl rfl (by decide) rfl ?_
      refine g_goto 4 dX0_peopleInTown_40 (by decide) ?_
      exact g_ls [2, 3, 1, 0] rfl (h4 q1 q2)
theorem bX0_peopleInTownS523_0 {X : pX} {Q : Option Value → pMem → Prop} {m : pMem} (hW : Wf m)
    (h1 : Go X 0 mX0_peopleInTown Q 4 [(0, .ref 512), (1, .ref 523), (2, .int (0 : Int32)), (3, .int (0 : Int32))] [] m) :
    Go X 0 mX0_peopleInTown Q 0 [(0, .ref 512), (1, .ref 523)] [] m := by
  refine g_iconst (v := 0) dX0_peopleInTown_0 (by decide) ?_
  refine g_istore_n (ls2 := [(2, .int (0 : Int32)), (0, .ref 512), (1, .ref 523)]) dX0_peopleInTown_1 rfl (by decide) rfl ?_
  refine g_iconst (v := 0) dX0_peopleInTown_2 (by decide) ?_
  refine g_istore_n (ls2 := [(3, .int (0 : Int32)), (2, .int (0 : Int32)), (0, .ref 512), (1, .ref 523)]) dX0_peopleInTown_3 rfl (by decide) rfl ?_
  exact g_ls [2, 3, 1, 0] rfl h1
theorem bX0_peopleInTownS523_4 {X : pX} {Q : Option Value → pMem → Prop} {m : pMem} {x2 : Int32} {x3 : Int32} (hW : Wf m)
    (h1 : (mI m 31 3) ≤ x3 → Q (some (.int x2)) m)
    (h2 : ¬ ((mI m 31 3) ≤ x3) → vp_in x3 4)
    (h3 : ¬ ((mI m 31 3) ≤ x3) → ¬ (mI m 524 x3.toNatClampNeg) = (mI m 31 2) → Go X 0 mX0_peopleInTown Q 4 [(0, .ref 512), (1, .ref 523), (2, .int x2), (3, .int (x3 + (1 : Int32)))] [] m)
    (h4 : ¬ ((mI m 31 3) ≤ x3) → (mI m 524 x3.toNatClampNeg) = (mI m 31 2) → Go X 0 mX0_peopleInTown Q 4 [(0, .ref 512), (1, .ref 523), (2, .int (x2 ||| ((1 : Int32) <<< (x3 &&& 31)))), (3, .int (x3 + (1 : Int32)))] [] m) :
    Go X 0 mX0_peopleInTown Q 4 [(0, .ref 512), (1, .ref 523), (2, .int x2), (3, .int x3)] [] m := by
  refine g_iload_n 3 dX0_peopleInTown_4 rfl rfl ?_
  refine g_aload_n 0 dX0_peopleInTown_5 rfl rfl ?_
  refine g_getR dX0_peopleInTown_6 fl0_17 rfl sh512 (w0_0 hW sh512) ?_
  refine g_getI dX0_peopleInTown_9 fl0_25 sh31 ?_
  refine g_icmp_ge 43 dX0_peopleInTown_12 (by decide) (fun q1 => ?_) (fun q1 => ?_)
  · refine g_iload_n 2 dX0_peopleInTown_43 rfl rfl ?_
    exact g_iret dX0_peopleInTown_44 rfl enSH (h1 q1)
  · refine g_aload_n 1 dX0_peopleInTown_15 rfl rfl ?_
    refine g_getR dX0_peopleInTown_16 fl0_31 rfl sh523 (w8_1 hW sh523) ?_
    refine g_iload_n 3 dX0_peopleInTown_19 rfl rfl ?_
    refine g_iald (j := x3.toNatClampNeg) dX0_peopleInTown_20 (s8_1 sh523) (h2 q1) rfl ?_
    refine g_aload_n 0 dX0_peopleInTown_21 rfl rfl ?_
    refine g_getR dX0_peopleInTown_22 fl0_17 rfl sh512 (w0_0 hW sh512) ?_
    refine g_getI dX0_peopleInTown_25 fl0_36 sh31 ?_
    refine g_icmp_ne 37 dX0_peopleInTown_28 (by decide) (fun q2 => ?_) (fun q2 => ?_)
    · refine g_iinc (v := x3 + (1 : Int32)) (ls2 := [(3, .int (x3 + (1 : Int32))), (0, .ref 512), (1, .ref 523), (2, .int x2)]) 3 dX0_peopleInTown_37 rfl rfl (by decide) rfl ?_
      refine g_goto 4 dX0_peopleInTown_40 (by decide) ?_
      exact g_ls [1, 2, 3, 0] rfl (h3 q1 q2)
    · refine g_iload_n 2 dX0_peopleInTown_31 rfl rfl ?_
      refine g_iconst (v := 1) dX0_peopleInTown_32 (by decide) ?_
      refine g_iload_n 3 dX0_peopleInTown_33 rfl rfl ?_
      refine g_ishl dX0_peopleInTown_34 ?_
      refine g_ior dX0_peopleInTown_35 ?_
      refine g_istore_n (ls2 := [(2, .int (x2 ||| ((1 : Int32) <<< (x3 &&& 31)))), (0, .ref 512), (1, .ref 523), (3, .int x3)]) dX0_peopleInTown_36 rfl (by decide) rfl ?_
      refine g_iinc (v := x3 + (1 : Int32)) (ls2 := [(3, .int (x3 + (1 : Int32))), (2, .int (x2 ||| ((1 : Int32) <<< (x3 &&& 31)))), (0, .ref 512), (1, .ref 523)]) 3 dX0_peopleInTown_37 rfl rfl (by decide) rfl ?_
      refine g_goto 4 dX0_peopleInTown_40 (by decide) ?_
      exact g_ls [2, 3, 1, 0] rfl (h4 q1 q2)
theorem bX0_worthInTownS37_0 {X : pX} {Q : Option Value → pMem → Prop} {m : pMem} (hW : Wf m)
    (h1 : Go X 2 mX0_worthInTown Q 17 [(0, .ref 512), (1, .ref 37), (2, .int (tAt (mI m 40) ((10 : Int32) + (mI m 31 2)) 6)), (3, .int (0 : Int32))] [] m) :
    Go X 2 mX0_worthInTown Q 0 [(0, .ref 512), (1, .ref 37)] [] m := by
  refine g_aload_n 1 dX0_worthInTown_0 rfl rfl ?_
  refine g_bipush (v := 10) dX0_worthInTown_1 (by decide) ?_
  refine g_aload_n 0 dX0_worthInTown_3 rfl rfl ?_
  refine g_getR dX0_worthInTown_4 fl0_17 rfl sh512 (w0_0 hW sh512) ?_
  refine g_getI dX0_worthInTown_7 fl0_36 sh31 ?_
  refine g_iadd dX0_worthInTown_10 ?_
  refine g_callV (As := [.int ((10 : Int32) + (mI m 31 2))]) (st := []) dX0_worthInTown_11 clX0_101 sh37 rfl rfl (Nat.le_of_ble_eq_true rfl) (rmSH (by decide) (by decide)) (s_thingsAt hW sh37 ?_)
  show Go X 2 mX0_worthInTown Q 14 [(0, .ref 512), (1, .ref 37)] [.int (tAt (mI m 40) ((10 : Int32) + (mI m 31 2)) 6)] m
  refine g_istore_n (ls2 := [(2, .int (tAt (mI m 40) ((10 : Int32) + (mI m 31 2)) 6)), (0, .ref 512), (1, .ref 37)]) dX0_worthInTown_14 rfl (by decide) rfl ?_
  refine g_iconst (v := 0) dX0_worthInTown_15 (by decide) ?_
  refine g_istore_n (ls2 := [(3, .int (0 : Int32)), (2, .int (tAt (mI m 40) ((10 : Int32) + (mI m 31 2)) 6)), (0, .ref 512), (1, .ref 37)]) dX0_worthInTown_16 rfl (by decide) rfl ?_
  exact g_ls [2, 3, 1, 0] rfl h1
theorem bX0_worthInTownS37_17 {X : pX} {Q : Option Value → pMem → Prop} {m : pMem} {x2 : Int32} {x3 : Int32} (hW : Wf m)
    (h1 : (mI m 31 3) ≤ x3 → Q (some (.int (wSum (mI m 35) x2 6))) m)
    (h2 : ¬ ((mI m 31 3) ≤ x3) → vp_in x3 4)
    (h3 : ¬ ((mI m 31 3) ≤ x3) → ¬ (mI m 38 x3.toNatClampNeg) = (mI m 31 2) → Go X 2 mX0_worthInTown Q 17 [(0, .ref 512), (1, .ref 37), (2, .int x2), (3, .int (x3 + (1 : Int32)))] [] m)
    (h4 : ¬ ((mI m 31 3) ≤ x3) → (mI m 38 x3.toNatClampNeg) = (mI m 31 2) → Go X 2 mX0_worthInTown Q 17 [(0, .ref 512), (1, .ref 37), (2, .int (x2 ||| (tAt (mI m 40) x3 6))), (3, .int (x3 + (1 : Int32)))] [] m) :
    Go X 2 mX0_worthInTown Q 17 [(0, .ref 512), (1, .ref 37), (2, .int x2), (3, .int x3)] [] m := by
  refine g_iload_n 3 dX0_worthInTown_17 rfl rfl ?_
  refine g_aload_n 0 dX0_worthInTown_18 rfl rfl ?_
  refine g_getR dX0_worthInTown_19 fl0_17 rfl sh512 (w0_0 hW sh512) ?_
  refine g_getI dX0_worthInTown_22 fl0_25 sh31 ?_
  refine g_icmp_ge 58 dX0_worthInTown_25 (by decide) (fun q1 => ?_) (fun q1 => ?_)
  · refine g_aload_n 0 dX0_worthInTown_58 rfl rfl ?_
    refine g_getR dX0_worthInTown_59 fl0_17 rfl sh512 (w0_0 hW sh512) ?_
    refine g_iload_n 2 dX0_worthInTown_62 rfl rfl ?_
    refine g_callV (As := [.int x2]) (st := []) dX0_worthInTown_63 clX0_104 sh31 rfl rfl (Nat.le_of_ble_eq_true rfl) (rmSH (by decide) (by decide)) (s_worthOf hW sh31 ?_)
    show Go X 2 mX0_worthInTown Q 66 [(0, .ref 512), (1, .ref 37), (2, .int x2), (3, .int x3)] [.int (wSum (mI m 35) x2 6)] m
    exact g_iret dX0_worthInTown_66 rfl enSH (h1 q1)
  · refine g_aload_n 1 dX0_worthInTown_28 rfl rfl ?_
    refine g_getR dX0_worthInTown_29 fl0_31 rfl sh37 (w8_1 hW sh37) ?_
    refine g_iload_n 3 dX0_worthInTown_32 rfl rfl ?_
    refine g_iald (j := x3.toNatClampNeg) dX0_worthInTown_33 (s8_1 sh37) (h2 q1) rfl ?_
    refine g_aload_n 0 dX0_worthInTown_34 rfl rfl ?_
    refine g_getR dX0_worthInTown_35 fl0_17 rfl sh512 (w0_0 hW sh512) ?_
    refine g_getI dX0_worthInTown_38 fl0_36 sh31 ?_
    refine g_icmp_ne 52 dX0_worthInTown_41 (by decide) (fun q2 => ?_) (fun q2 => ?_)
    · refine g_iinc (v := x3 + (1 : Int32)) (ls2 := [(3, .int (x3 + (1 : Int32))), (0, .ref 512), (1, .ref 37), (2, .int x2)]) 3 dX0_worthInTown_52 rfl rfl (by decide) rfl ?_
      refine g_goto 17 dX0_worthInTown_55 (by decide) ?_
      exact g_ls [1, 2, 3, 0] rfl (h3 q1 q2)
    · refine g_iload_n 2 dX0_worthInTown_44 rfl rfl ?_
      refine g_aload_n 1 dX0_worthInTown_45 rfl rfl ?_
      refine g_iload_n 3 dX0_worthInTown_46 rfl rfl ?_
      refine g_callV (As := [.int x3]) (st := [.int x2]) dX0_worthInTown_47 clX0_74 sh37 rfl rfl (Nat.le_of_ble_eq_true rfl) (rmSH (by decide) (by decide)) (s_hadBy hW sh37 ?_)
      show Go X 2 mX0_worthInTown Q 50 [(0, .ref 512), (1, .ref 37), (2, .int x2), (3, .int x3)] [.int (tAt (mI m 40) x3 6), .int x2] m
      refine g_ior dX0_worthInTown_50 ?_
      refine g_istore_n (ls2 := [(2, .int (x2 ||| (tAt (mI m 40) x3 6))), (0, .ref 512), (1, .ref 37), (3, .int x3)]) dX0_worthInTown_51 rfl (by decide) rfl ?_
      refine g_iinc (v := x3 + (1 : Int32)) (ls2 := [(3, .int (x3 + (1 : Int32))), (2, .int (x2 ||| (tAt (mI m 40) x3 6))), (0, .ref 512), (1, .ref 37)]) 3 dX0_worthInTown_52 rfl rfl (by decide) rfl ?_
      refine g_goto 17 dX0_worthInTown_55 (by decide) ?_
      exact g_ls [2, 3, 1, 0] rfl (h4 q1 q2)
theorem bX0_worthInTownS523_0 {X : pX} {Q : Option Value → pMem → Prop} {m : pMem} (hW : Wf m)
    (h1 : Go X 2 mX0_worthInTown Q 17 [(0, .ref 512), (1, .ref 523), (2, .int (tAt (mI m 526) ((10 : Int32) + (mI m 31 2)) 6)), (3, .int (0 : Int32))] [] m) :
    Go X 2 mX0_worthInTown Q 0 [(0, .ref 512), (1, .ref 523)] [] m := by
  refine g_aload_n 1 dX0_worthInTown_0 rfl rfl ?_
  refine g_bipush (v := 10) dX0_worthInTown_1 (by decide) ?_
  refine g_aload_n 0 dX0_worthInTown_3 rfl rfl ?_
  refine g_getR dX0_worthInTown_4 fl0_17 rfl sh512 (w0_0 hW sh512) ?_
  refine g_getI dX0_worthInTown_7 fl0_36 sh31 ?_
  refine g_iadd dX0_worthInTown_10 ?_
  refine g_callV (As := [.int ((10 : Int32) + (mI m 31 2))]) (st := []) dX0_worthInTown_11 clX0_101 sh523 rfl rfl (Nat.le_of_ble_eq_true rfl) (rmSH (by decide) (by decide)) (s_thingsAt hW sh523 ?_)
  show Go X 2 mX0_worthInTown Q 14 [(0, .ref 512), (1, .ref 523)] [.int (tAt (mI m 526) ((10 : Int32) + (mI m 31 2)) 6)] m
  refine g_istore_n (ls2 := [(2, .int (tAt (mI m 526) ((10 : Int32) + (mI m 31 2)) 6)), (0, .ref 512), (1, .ref 523)]) dX0_worthInTown_14 rfl (by decide) rfl ?_
  refine g_iconst (v := 0) dX0_worthInTown_15 (by decide) ?_
  refine g_istore_n (ls2 := [(3, .int (0 : Int32)), (2, .int (tAt (mI m 526) ((10 : Int32) + (mI m 31 2)) 6)), (0, .ref 512), (1, .ref 523)]) dX0_worthInTown_16 rfl (by decide) rfl ?_
  exact g_ls [2, 3, 1, 0] rfl h1
theorem bX0_worthInTownS523_17 {X : pX} {Q : Option Value → pMem → Prop} {m : pMem} {x2 : Int32} {x3 : Int32} (hW : Wf m)
    (h1 : (mI m 31 3) ≤ x3 → Q (some (.int (wSum (mI m 35) x2 6))) m)
    (h2 : ¬ ((mI m 31 3) ≤ x3) → vp_in x3 4)
    (h3 : ¬ ((mI m 31 3) ≤ x3) → ¬ (mI m 524 x3.toNatClampNeg) = (mI m 31 2) → Go X 2 mX0_worthInTown Q 17 [(0, .ref 512), (1, .ref 523), (2, .int x2), (3, .int (x3 + (1 : Int32)))] [] m)
    (h4 : ¬ ((mI m 31 3) ≤ x3) → (mI m 524 x3.toNatClampNeg) = (mI m 31 2) → Go X 2 mX0_worthInTown Q 17 [(0, .ref 512), (1, .ref 523), (2, .int (x2 ||| (tAt (mI m 526) x3 6))), (3, .int (x3 + (1 : Int32)))] [] m) :
    Go X 2 mX0_worthInTown Q 17 [(0, .ref 512), (1, .ref 523), (2, .int x2), (3, .int x3)] [] m := by
  refine g_iload_n 3 dX0_worthInTown_17 rfl rfl ?_
  refine g_aload_n 0 dX0_worthInTown_18 rfl rfl ?_
  refine g_getR dX0_worthInTown_19 fl0_17 rfl sh512 (w0_0 hW sh512) ?_
  refine g_getI dX0_worthInTown_22 fl0_25 sh31 ?_
  refine g_icmp_ge 58 dX0_worthInTown_25 (by decide) (fun q1 => ?_) (fun q1 => ?_)
  · refine g_aload_n 0 dX0_worthInTown_58 rfl rfl ?_
    refine g_getR dX0_worthInTown_59 fl0_17 rfl sh512 (w0_0 hW sh512) ?_
    refine g_iload_n 2 dX0_worthInTown_62 rfl rfl ?_
    refine g_callV (As := [.int x2]) (st := []) dX0_worthInTown_63 clX0_104 sh31 rfl rfl (Nat.le_of_ble_eq_true rfl) (rmSH (by decide) (by decide)) (s_worthOf hW sh31 ?_)
    show Go X 2 mX0_worthInTown Q 66 [(0, .ref 512), (1, .ref 523), (2, .int x2), (3, .int x3)] [.int (wSum (mI m 35) x2 6)] m
    exact g_iret dX0_worthInTown_66 rfl enSH (h1 q1)
  · refine g_aload_n 1 dX0_worthInTown_28 rfl rfl ?_
    refine g_getR dX0_worthInTown_29 fl0_31 rfl sh523 (w8_1 hW sh523) ?_
    refine g_iload_n 3 dX0_worthInTown_32 rfl rfl ?_
    refine g_iald (j := x3.toNatClampNeg) dX0_worthInTown_33 (s8_1 sh523) (h2 q1) rfl ?_
    refine g_aload_n 0 dX0_worthInTown_34 rfl rfl ?_
    refine g_getR dX0_worthInTown_35 fl0_17 rfl sh512 (w0_0 hW sh512) ?_
    refine g_getI dX0_worthInTown_38 fl0_36 sh31 ?_
    refine g_icmp_ne 52 dX0_worthInTown_41 (by decide) (fun q2 => ?_) (fun q2 => ?_)
    · refine g_iinc (v := x3 + (1 : Int32)) (ls2 := [(3, .int (x3 + (1 : Int32))), (0, .ref 512), (1, .ref 523), (2, .int x2)]) 3 dX0_worthInTown_52 rfl rfl (by decide) rfl ?_
      refine g_goto 17 dX0_worthInTown_55 (by decide) ?_
      exact g_ls [1, 2, 3, 0] rfl (h3 q1 q2)
    · refine g_iload_n 2 dX0_worthInTown_44 rfl rfl ?_
      refine g_aload_n 1 dX0_worthInTown_45 rfl rfl ?_
      refine g_iload_n 3 dX0_worthInTown_46 rfl rfl ?_
      refine g_callV (As := [.int x3]) (st := [.int x2]) dX0_worthInTown_47 clX0_74 sh523 rfl rfl (Nat.le_of_ble_eq_true rfl) (rmSH (by decide) (by decide)) (s_hadBy hW sh523 ?_)
      show Go X 2 mX0_worthInTown Q 50 [(0, .ref 512), (1, .ref 523), (2, .int x2), (3, .int x3)] [.int (tAt (mI m 526) x3 6), .int x2] m
      refine g_ior dX0_worthInTown_50 ?_
      refine g_istore_n (ls2 := [(2, .int (x2 ||| (tAt (mI m 526) x3 6))), (0, .ref 512), (1, .ref 523), (3, .int x3)]) dX0_worthInTown_51 rfl (by decide) rfl ?_
      refine g_iinc (v := x3 + (1 : Int32)) (ls2 := [(3, .int (x3 + (1 : Int32))), (2, .int (x2 ||| (tAt (mI m 526) x3 6))), (0, .ref 512), (1, .ref 523)]) 3 dX0_worthInTown_52 rfl rfl (by decide) rfl ?_
      refine g_goto 17 dX0_worthInTown_55 (by decide) ?_
      exact g_ls [2, 3, 1, 0] rfl (h4 q1 q2)
theorem bX0_walkS37_0 {X : pX} {Q : Option Value → pMem → Prop} {m : pMem} {x2 : Int32} (hW : Wf m)
    (h1 : vp_in x2 4)
    (h2 : ¬ (mI m 38 x2.toNatClampNeg) < 0 ∧ ¬ mI m 31 2 ≤ (mI m 38 x2.toNatClampNeg) ∧ ¬ (8 : Int32) ≤ (mI m 38 x2.toNatClampNeg) → vp_in (mI m 38 x2.toNatClampNeg) 8)
    (h3 : ¬ (mI m 38 x2.toNatClampNeg) < 0 ∧ ¬ mI m 31 2 ≤ (mI m 38 x2.toNatClampNeg) ∧ ¬ (8 : Int32) ≤ (mI m 38 x2.toNatClampNeg) → Go X 2 mX0_walk Q 31 [(0, .ref 512), (1, .ref 37), (2, .int x2)] [.int (mI m 32 ((mI m 38 x2.toNatClampNeg).toNatClampNeg))] m)
    (h4 : ¬ (¬ (mI m 38 x2.toNatClampNeg) < 0 ∧ ¬ mI m 31 2 ≤ (mI m 38 x2.toNatClampNeg) ∧ ¬ (8 : Int32) ≤ (mI m 38 x2.toNatClampNeg)) → Go X 2 mX0_walk Q 31 [(0, .ref 512), (1, .ref 37), (2, .int x2)] [.int (0 : Int32)] m) :
    Go X 2 mX0_walk Q 0 [(0, .ref 512), (1, .ref 37), (2, .int x2)] [] m := by
  refine g_aload_n 1 dX0_walk_0 rfl rfl ?_
  refine g_getR dX0_walk_1 fl0_31 rfl sh37 (w8_1 hW sh37) ?_
  refine g_iload_n 2 dX0_walk_4 rfl rfl ?_
  refine g_iald (j := x2.toNatClampNeg) dX0_walk_5 (s8_1 sh37) h1 rfl ?_
  refine g_istore_n (ls2 := [(3, .int (mI m 38 x2.toNatClampNeg)), (0, .ref 512), (1, .ref 37), (2, .int x2)]) dX0_walk_6 rfl (by decide) rfl ?_
  refine g_aload_n 1 dX0_walk_7 rfl rfl ?_
  refine g_getR dX0_walk_8 fl0_17 rfl sh512 (w0_0 hW sh512) ?_
  refine g_iload_n 0 dX0_walk_11 rfl rfl ?_
  refine g_callV (As := [.int (mI m 38 x2.toNatClampNeg)]) (st := []) dX0_walk_12 clX0_94 sh31 rfl rfl (Nat.le_of_ble_eq_true rfl) (rmSH (by decide) (by decide)) (s_isStage hW sh31 (fun q1 => ?_) (fun q1 => ?_))
  · refine g_if_eq 30 dX0_walk_15 (by decide) (fun q2 => absurd q2 (by decide)) (fun q2 => ?_)
    refine g_aload_n 1 dX0_walk_18 rfl rfl ?_
    refine g_getR dX0_walk_19 fl0_17 rfl sh512 (w0_0 hW sh512) ?_
    refine g_getR dX0_walk_22 fl0_98 rfl sh31 (w4_5 hW sh31) ?_
    refine g_iload_n 0 dX0_walk_25 rfl rfl ?_
    refine g_iald (j := (mI m 38 x2.toNatClampNeg).toNatClampNeg) dX0_walk_26 (s4_5 sh31) (h2 q1) rfl ?_
    refine g_goto 31 dX0_walk_27 (by decide) ?_
    exact g_ls [1, 2, 3] rfl (h3 q1)
  · refine g_if_eq 30 dX0_walk_15 (by decide) (fun q3 => ?_) (fun q3 => absurd q3 (by decide))
    refine g_iconst (v := 0) dX0_walk_30 (by decide) ?_
    exact g_ls [1, 2, 3] rfl (h4 q1)
theorem bX0_walkS37_31 {X : pX} {Q : Option Value → pMem → Prop} {m : pMem} {x2 : Int32} {xs0 : Int32} (hW : Wf m)
    (h1 : vp_in x2 4)
    (h2 : (xs0 + (wSum (mI m 34) (tAt (mI m 40) x2 6) 6)) ≤ (mI (uI m 39 x2.toNatClampNeg ((mI m 39 x2.toNatClampNeg) + (mI m 33 x2.toNatClampNeg))) 39 x2.toNatClampNeg) → vp_in x2 4)
    (h3 : (xs0 + (wSum (mI m 34) (tAt (mI m 40) x2 6) 6)) ≤ (mI (uI m 39 x2.toNatClampNeg ((mI m 39 x2.toNatClampNeg) + (mI m 33 x2.toNatClampNeg))) 39 x2.toNatClampNeg) → Q (some (.int (1 : Int32))) (uI (uI (uI m 39 x2.toNatClampNeg ((mI m 39 x2.toNatClampNeg) + (mI m 33 x2.toNatClampNeg))) 38 x2.toNatClampNeg ((mI m 38 x2.toNatClampNeg) + (1 : Int32))) 39 x2.toNatClampNeg (0 : Int32)))
    (h4 : ¬ ((xs0 + (wSum (mI m 34) (tAt (mI m 40) x2 6) 6)) ≤ (mI (uI m 39 x2.toNatClampNeg ((mI m 39 x2.toNatClampNeg) + (mI m 33 x2.toNatClampNeg))) 39 x2.toNatClampNeg)) → Q (some (.int (0 : Int32))) (uI m 39 x2.toNatClampNeg ((mI m 39 x2.toNatClampNeg) + (mI m 33 x2.toNatClampNeg)))) :
    Go X 2 mX0_walk Q 31 [(0, .ref 512), (1, .ref 37), (2, .int x2)] [.int xs0] m := by
  refine g_istore (ls2 := [(4, .int xs0), (0, .ref 512), (1, .ref 37), (2, .int x2)]) dX0_walk_31 (by decide) rfl ?_
  refine g_aload_n 2 dX0_walk_33 rfl rfl ?_
  refine g_getR dX0_walk_34 fl0_39 rfl sh37 (w8_2 hW sh37) ?_
  refine g_iload_n 3 dX0_walk_37 rfl rfl ?_
  refine g_dup2 dX0_walk_38 rfl rfl ?_
  refine g_iald (j := x2.toNatClampNeg) dX0_walk_39 (s8_2 sh37) h1 rfl ?_
  refine g_aload_n 1 dX0_walk_40 rfl rfl ?_
  refine g_getR dX0_walk_41 fl0_17 rfl sh512 (w0_0 hW sh512) ?_
  refine g_getR dX0_walk_44 fl0_91 rfl sh31 (w4_6 hW sh31) ?_
  refine g_iload_n 3 dX0_walk_47 rfl rfl ?_
  refine g_iald (j := x2.toNatClampNeg) dX0_walk_48 (s4_6 sh31) h1 rfl ?_
  refine g_iadd dX0_walk_49 ?_
  refine g_iast (j := x2.toNatClampNeg) dX0_walk_50 (s8_2 sh37) h1 rfl ?_
  refine g_aload_n 2 dX0_walk_51 rfl rfl ?_
  refine g_getR dX0_walk_52 fl0_39 rfl sh37 (w8_2 hW sh37) ?_
  refine g_iload_n 3 dX0_walk_55 rfl rfl ?_
  refine g_iald (j := x2.toNatClampNeg) dX0_walk_56 (s8_2 sh37) h1 rfl ?_
  refine g_iload 0 dX0_walk_57 rfl ?_
  refine g_aload_n 1 dX0_walk_59 rfl rfl ?_
  refine g_getR dX0_walk_60 fl0_17 rfl sh512 (w0_0 hW sh512) ?_
  refine g_aload_n 2 dX0_walk_63 rfl rfl ?_
  refine g_iload_n 3 dX0_walk_64 rfl rfl ?_
  refine g_callV (As := [.int x2]) (st := [.ref 31, .int xs0, .int (mI (uI m 39 x2.toNatClampNeg ((mI m 39 x2.toNatClampNeg) + (mI m 33 x2.toNatClampNeg))) 39 x2.toNatClampNeg)]) dX0_walk_65 clX0_74 sh37 rfl rfl (Nat.le_of_ble_eq_true rfl) (rmSH (by decide) (by decide)) (s_hadBy hW sh37 ?_)
  show Go X 2 mX0_walk Q 68 [(4, .int xs0), (0, .ref 512), (1, .ref 37), (2, .int x2)] [.int (tAt (mI m 40) x2 6), .ref 31, .int xs0, .int (mI (uI m 39 x2.toNatClampNeg ((mI m 39 x2.toNatClampNeg) + (mI m 33 x2.toNatClampNeg))) 39 x2.toNatClampNeg)] (uI m 39 x2.toNatClampNeg ((mI m 39 x2.toNatClampNeg) + (mI m 33 x2.toNatClampNeg)))
  refine g_callV (As := [.int (tAt (mI m 40) x2 6)]) (st := [.int xs0, .int (mI (uI m 39 x2.toNatClampNeg ((mI m 39 x2.toNatClampNeg) + (mI m 33 x2.toNatClampNeg))) 39 x2.toNatClampNeg)]) dX0_walk_68 clX0_88 sh31 rfl rfl (Nat.le_of_ble_eq_true rfl) (rmSH (by decide) (by decide)) (s_weightOf hW sh31 ?_)
  show Go X 2 mX0_walk Q 71 [(4, .int xs0), (0, .ref 512), (1, .ref 37), (2, .int x2)] [.int (wSum (mI m 34) (tAt (mI m 40) x2 6) 6), .int xs0, .int (mI (uI m 39 x2.toNatClampNeg ((mI m 39 x2.toNatClampNeg) + (mI m 33 x2.toNatClampNeg))) 39 x2.toNatClampNeg)] (uI m 39 x2.toNatClampNeg ((mI m 39 x2.toNatClampNeg) + (mI m 33 x2.toNatClampNeg)))
  refine g_iadd dX0_walk_71 ?_
  refine g_icmp_ge 77 dX0_walk_72 (by decide) (fun q1 => ?_) (fun q1 => ?_)
  · refine g_aload_n 2 dX0_walk_77 rfl rfl ?_
    refine g_getR dX0_walk_78 fl0_31 rfl sh37 (w8_1 hW sh37) ?_
    refine g_iload_n 3 dX0_walk_81 rfl rfl ?_
    refine g_dup2 dX0_walk_82 rfl rfl ?_
    refine g_iald (j := x2.toNatClampNeg) dX0_walk_83 (s8_1 sh37) (h2 q1) rfl ?_
    refine g_iconst (v := 1) dX0_walk_84 (by decide) ?_
    refine g_iadd dX0_walk_85 ?_
    refine g_iast (j := x2.toNatClampNeg) dX0_walk_86 (s8_1 sh37) (h2 q1) rfl ?_
    refine g_aload_n 2 dX0_walk_87 rfl rfl ?_
    refine g_getR dX0_walk_88 fl0_39 rfl sh37 (w8_2 hW sh37) ?_
    refine g_iload_n 3 dX0_walk_91 rfl rfl ?_
    refine g_iconst (v := 0) dX0_walk_92 (by decide) ?_
    refine g_iast (j := x2.toNatClampNeg) dX0_walk_93 (s8_2 sh37) (h2 q1) rfl ?_
    refine g_iconst (v := 1) dX0_walk_94 (by decide) ?_
    exact g_bret dX0_walk_95 rfl (Or.inr rfl) enSH (h3 q1)
  · refine g_iconst (v := 0) dX0_walk_75 (by decide) ?_
    exact g_bret dX0_walk_76 rfl (Or.inl rfl) enSH (h4 q1)
theorem bX0_walkS37_31v1 {X : pX} {Q : Option Value → pMem → Prop} {m : pMem} {x2 : Int32} (hW : Wf m)
    (h1 : vp_in x2 4)
    (h2 : ((0 : Int32) + (wSum (mI m 34) (tAt (mI m 40) x2 6) 6)) ≤ (mI (uI m 39 x2.toNatClampNeg ((mI m 39 x2.toNatClampNeg) + (mI m 33 x2.toNatClampNeg))) 39 x2.toNatClampNeg) → vp_in x2 4)
    (h3 : ((0 : Int32) + (wSum (mI m 34) (tAt (mI m 40) x2 6) 6)) ≤ (mI (uI m 39 x2.toNatClampNeg ((mI m 39 x2.toNatClampNeg) + (mI m 33 x2.toNatClampNeg))) 39 x2.toNatClampNeg) → Q (some (.int (1 : Int32))) (uI (uI (uI m 39 x2.toNatClampNeg ((mI m 39 x2.toNatClampNeg) + (mI m 33 x2.toNatClampNeg))) 38 x2.toNatClampNeg ((mI m 38 x2.toNatClampNeg) + (1 : Int32))) 39 x2.toNatClampNeg (0 : Int32)))
    (h4 : ¬ (((0 : Int32) + (wSum (mI m 34) (tAt (mI m 40) x2 6) 6)) ≤ (mI (uI m 39 x2.toNatClampNeg ((mI m 39 x2.toNatClampNeg) + (mI m 33 x2.toNatClampNeg))) 39 x2.toNatClampNeg)) → Q (some (.int (0 : Int32))) (uI m 39 x2.toNatClampNeg ((mI m 39 x2.toNatClampNeg) + (mI m 33 x2.toNatClampNeg)))) :
    Go X 2 mX0_walk Q 31 [(0, .ref 512), (1, .ref 37), (2, .int x2)] [.int (0 : Int32)] m := by
  refine g_istore (ls2 := [(4, .int (0 : Int32)), (0, .ref 512), (1, .ref 37), (2, .int x2)]) dX0_walk_31 (by decide) rfl ?_
  refine g_aload_n 2 dX0_walk_33 rfl rfl ?_
  refine g_getR dX0_walk_34 fl0_39 rfl sh37 (w8_2 hW sh37) ?_
  refine g_iload_n 3 dX0_walk_37 rfl rfl ?_
  refine g_dup2 dX0_walk_38 rfl rfl ?_
  refine g_iald (j := x2.toNatClampNeg) dX0_walk_39 (s8_2 sh37) h1 rfl ?_
  refine g_aload_n 1 dX0_walk_40 rfl rfl ?_
  refine g_getR dX0_walk_41 fl0_17 rfl sh512 (w0_0 hW sh512) ?_
  refine g_getR dX0_walk_44 fl0_91 rfl sh31 (w4_6 hW sh31) ?_
  refine g_iload_n 3 dX0_walk_47 rfl rfl ?_
  refine g_iald (j := x2.toNatClampNeg) dX0_walk_48 (s4_6 sh31) h1 rfl ?_
  refine g_iadd dX0_walk_49 ?_
  refine g_iast (j := x2.toNatClampNeg) dX0_walk_50 (s8_2 sh37) h1 rfl ?_
  refine g_aload_n 2 dX0_walk_51 rfl rfl ?_
  refine g_getR dX0_walk_52 fl0_39 rfl sh37 (w8_2 hW sh37) ?_
  refine g_iload_n 3 dX0_walk_55 rfl rfl ?_
  refine g_iald (j := x2.toNatClampNeg) dX0_walk_56 (s8_2 sh37) h1 rfl ?_
  refine g_iload 0 dX0_walk_57 rfl ?_
  refine g_aload_n 1 dX0_walk_59 rfl rfl ?_
  refine g_getR dX0_walk_60 fl0_17 rfl sh512 (w0_0 hW sh512) ?_
  refine g_aload_n 2 dX0_walk_63 rfl rfl ?_
  refine g_iload_n 3 dX0_walk_64 rfl rfl ?_
  refine g_callV (As := [.int x2]) (st := [.ref 31, .int (0 : Int32), .int (mI (uI m 39 x2.toNatClampNeg ((mI m 39 x2.toNatClampNeg) + (mI m 33 x2.toNatClampNeg))) 39 x2.toNatClampNeg)]) dX0_walk_65 clX0_74 sh37 rfl rfl (Nat.le_of_ble_eq_true rfl) (rmSH (by decide) (by decide)) (s_hadBy hW sh37 ?_)
  show Go X 2 mX0_walk Q 68 [(4, .int (0 : Int32)), (0, .ref 512), (1, .ref 37), (2, .int x2)] [.int (tAt (mI m 40) x2 6), .ref 31, .int (0 : Int32), .int (mI (uI m 39 x2.toNatClampNeg ((mI m 39 x2.toNatClampNeg) + (mI m 33 x2.toNatClampNeg))) 39 x2.toNatClampNeg)] (uI m 39 x2.toNatClampNeg ((mI m 39 x2.toNatClampNeg) + (mI m 33 x2.toNatClampNeg)))
  refine g_callV (As := [.int (tAt (mI m 40) x2 6)]) (st := [.int (0 : Int32), .int (mI (uI m 39 x2.toNatClampNeg ((mI m 39 x2.toNatClampNeg) + (mI m 33 x2.toNatClampNeg))) 39 x2.toNatClampNeg)]) dX0_walk_68 clX0_88 sh31 rfl rfl (Nat.le_of_ble_eq_true rfl) (rmSH (by decide) (by decide)) (s_weightOf hW sh31 ?_)
  show Go X 2 mX0_walk Q 71 [(4, .int (0 : Int32)), (0, .ref 512), (1, .ref 37), (2, .int x2)] [.int (wSum (mI m 34) (tAt (mI m 40) x2 6) 6), .int (0 : Int32), .int (mI (uI m 39 x2.toNatClampNeg ((mI m 39 x2.toNatClampNeg) + (mI m 33 x2.toNatClampNeg))) 39 x2.toNatClampNeg)] (uI m 39 x2.toNatClampNeg ((mI m 39 x2.toNatClampNeg) + (mI m 33 x2.toNatClampNeg)))
  refine g_iadd dX0_walk_71 ?_
  refine g_icmp_ge 77 dX0_walk_72 (by decide) (fun q1 => ?_) (fun q1 => ?_)
  · refine g_aload_n 2 dX0_walk_77 rfl rfl ?_
    refine g_getR dX0_walk_78 fl0_31 rfl sh37 (w8_1 hW sh37) ?_
    refine g_iload_n 3 dX0_walk_81 rfl rfl ?_
    refine g_dup2 dX0_walk_82 rfl rfl ?_
    refine g_iald (j := x2.toNatClampNeg) dX0_walk_83 (s8_1 sh37) (h2 q1) rfl ?_
    refine g_iconst (v := 1) dX0_walk_84 (by decide) ?_
    refine g_iadd dX0_walk_85 ?_
    refine g_iast (j := x2.toNatClampNeg) dX0_walk_86 (s8_1 sh37) (h2 q1) rfl ?_
    refine g_aload_n 2 dX0_walk_87 rfl rfl ?_
    refine g_getR dX0_walk_88 fl0_39 rfl sh37 (w8_2 hW sh37) ?_
    refine g_iload_n 3 dX0_walk_91 rfl rfl ?_
    refine g_iconst (v := 0) dX0_walk_92 (by decide) ?_
    refine g_iast (j := x2.toNatClampNeg) dX0_walk_93 (s8_2 sh37) (h2 q1) rfl ?_
    refine g_iconst (v := 1) dX0_walk_94 (by decide) ?_
    exact g_bret dX0_walk_95 rfl (Or.inr rfl) enSH (h3 q1)
  · refine g_iconst (v := 0) dX0_walk_75 (by decide) ?_
    exact g_bret dX0_walk_76 rfl (Or.inl rfl) enSH (h4 q1)
theorem bX0_walkS523_0 {X : pX} {Q : Option Value → pMem → Prop} {m : pMem} {x2 : Int32} (hW : Wf m)
    (h1 : vp_in x2 4)
    (h2 : ¬ (mI m 524 x2.toNatClampNeg) < 0 ∧ ¬ mI m 31 2 ≤ (mI m 524 x2.toNatClampNeg) ∧ ¬ (8 : Int32) ≤ (mI m 524 x2.toNatClampNeg) → vp_in (mI m 524 x2.toNatClampNeg) 8)
    (h3 : ¬ (mI m 524 x2.toNatClampNeg) < 0 ∧ ¬ mI m 31 2 ≤ (mI m 524 x2.toNatClampNeg) ∧ ¬ (8 : Int32) ≤ (mI m 524 x2.toNatClampNeg) → Go X 2 mX0_walk Q 31 [(0, .ref 512), (1, .ref 523), (2, .int x2)] [.int (mI m 32 ((mI m 524 x2.toNatClampNeg).toNatClampNeg))] m)
    (h4 : ¬ (¬ (mI m 524 x2.toNatClampNeg) < 0 ∧ ¬ mI m 31 2 ≤ (mI m 524 x2.toNatClampNeg) ∧ ¬ (8 : Int32) ≤ (mI m 524 x2.toNatClampNeg)) → Go X 2 mX0_walk Q 31 [(0, .ref 512), (1, .ref 523), (2, .int x2)] [.int (0 : Int32)] m) :
    Go X 2 mX0_walk Q 0 [(0, .ref 512), (1, .ref 523), (2, .int x2)] [] m := by
  refine g_aload_n 1 dX0_walk_0 rfl rfl ?_
  refine g_getR dX0_walk_1 fl0_31 rfl sh523 (w8_1 hW sh523) ?_
  refine g_iload_n 2 dX0_walk_4 rfl rfl ?_
  refine g_iald (j := x2.toNatClampNeg) dX0_walk_5 (s8_1 sh523) h1 rfl ?_
  refine g_istore_n (ls2 := [(3, .int (mI m 524 x2.toNatClampNeg)), (0, .ref 512), (1, .ref 523), (2, .int x2)]) dX0_walk_6 rfl (by decide) rfl ?_
  refine g_aload_n 1 dX0_walk_7 rfl rfl ?_
  refine g_getR dX0_walk_8 fl0_17 rfl sh512 (w0_0 hW sh512) ?_
  refine g_iload_n 0 dX0_walk_11 rfl rfl ?_
  refine g_callV (As := [.int (mI m 524 x2.toNatClampNeg)]) (st := []) dX0_walk_12 clX0_94 sh31 rfl rfl (Nat.le_of_ble_eq_true rfl) (rmSH (by decide) (by decide)) (s_isStage hW sh31 (fun q1 => ?_) (fun q1 => ?_))
  · refine g_if_eq 30 dX0_walk_15 (by decide) (fun q2 => absurd q2 (by decide)) (fun q2 => ?_)
    refine g_aload_n 1 dX0_walk_18 rfl rfl ?_
    refine g_getR dX0_walk_19 fl0_17 rfl sh512 (w0_0 hW sh512) ?_
    refine g_getR dX0_walk_22 fl0_98 rfl sh31 (w4_5 hW sh31) ?_
    refine g_iload_n 0 dX0_walk_25 rfl rfl ?_
    refine g_iald (j := (mI m 524 x2.toNatClampNeg).toNatClampNeg) dX0_walk_26 (s4_5 sh31) (h2 q1) rfl ?_
    refine g_goto 31 dX0_walk_27 (by decide) ?_
    exact g_ls [1, 2, 3] rfl (h3 q1)
  · refine g_if_eq 30 dX0_walk_15 (by decide) (fun q3 => ?_) (fun q3 => absurd q3 (by decide))
    refine g_iconst (v := 0) dX0_walk_30 (by decide) ?_
    exact g_ls [1, 2, 3] rfl (h4 q1)
theorem bX0_walkS523_31 {X : pX} {Q : Option Value → pMem → Prop} {m : pMem} {x2 : Int32} {xs0 : Int32} (hW : Wf m)
    (h1 : vp_in x2 4)
    (h2 : (xs0 + (wSum (mI m 34) (tAt (mI m 526) x2 6) 6)) ≤ (mI (uI m 525 x2.toNatClampNeg ((mI m 525 x2.toNatClampNeg) + (mI m 33 x2.toNatClampNeg))) 525 x2.toNatClampNeg) → vp_in x2 4)
    (h3 : (xs0 + (wSum (mI m 34) (tAt (mI m 526) x2 6) 6)) ≤ (mI (uI m 525 x2.toNatClampNeg ((mI m 525 x2.toNatClampNeg) + (mI m 33 x2.toNatClampNeg))) 525 x2.toNatClampNeg) → Q (some (.int (1 : Int32))) (uI (uI (uI m 525 x2.toNatClampNeg ((mI m 525 x2.toNatClampNeg) + (mI m 33 x2.toNatClampNeg))) 524 x2.toNatClampNeg ((mI m 524 x2.toNatClampNeg) + (1 : Int32))) 525 x2.toNatClampNeg (0 : Int32)))
    (h4 : ¬ ((xs0 + (wSum (mI m 34) (tAt (mI m 526) x2 6) 6)) ≤ (mI (uI m 525 x2.toNatClampNeg ((mI m 525 x2.toNatClampNeg) + (mI m 33 x2.toNatClampNeg))) 525 x2.toNatClampNeg)) → Q (some (.int (0 : Int32))) (uI m 525 x2.toNatClampNeg ((mI m 525 x2.toNatClampNeg) + (mI m 33 x2.toNatClampNeg)))) :
    Go X 2 mX0_walk Q 31 [(0, .ref 512), (1, .ref 523), (2, .int x2)] [.int xs0] m := by
  refine g_istore (ls2 := [(4, .int xs0), (0, .ref 512), (1, .ref 523), (2, .int x2)]) dX0_walk_31 (by decide) rfl ?_
  refine g_aload_n 2 dX0_walk_33 rfl rfl ?_
  refine g_getR dX0_walk_34 fl0_39 rfl sh523 (w8_2 hW sh523) ?_
  refine g_iload_n 3 dX0_walk_37 rfl rfl ?_
  refine g_dup2 dX0_walk_38 rfl rfl ?_
  refine g_iald (j := x2.toNatClampNeg) dX0_walk_39 (s8_2 sh523) h1 rfl ?_
  refine g_aload_n 1 dX0_walk_40 rfl rfl ?_
  refine g_getR dX0_walk_41 fl0_17 rfl sh512 (w0_0 hW sh512) ?_
  refine g_getR dX0_walk_44 fl0_91 rfl sh31 (w4_6 hW sh31) ?_
  refine g_iload_n 3 dX0_walk_47 rfl rfl ?_
  refine g_iald (j := x2.toNatClampNeg) dX0_walk_48 (s4_6 sh31) h1 rfl ?_
  refine g_iadd dX0_walk_49 ?_
  refine g_iast (j := x2.toNatClampNeg) dX0_walk_50 (s8_2 sh523) h1 rfl ?_
  refine g_aload_n 2 dX0_walk_51 rfl rfl ?_
  refine g_getR dX0_walk_52 fl0_39 rfl sh523 (w8_2 hW sh523) ?_
  refine g_iload_n 3 dX0_walk_55 rfl rfl ?_
  refine g_iald (j := x2.toNatClampNeg) dX0_walk_56 (s8_2 sh523) h1 rfl ?_
  refine g_iload 0 dX0_walk_57 rfl ?_
  refine g_aload_n 1 dX0_walk_59 rfl rfl ?_
  refine g_getR dX0_walk_60 fl0_17 rfl sh512 (w0_0 hW sh512) ?_
  refine g_aload_n 2 dX0_walk_63 rfl rfl ?_
  refine g_iload_n 3 dX0_walk_64 rfl rfl ?_
  refine g_callV (As := [.int x2]) (st := [.ref 31, .int xs0, .int (mI (uI m 525 x2.toNatClampNeg ((mI m 525 x2.toNatClampNeg) + (mI m 33 x2.toNatClampNeg))) 525 x2.toNatClampNeg)]) dX0_walk_65 clX0_74 sh523 rfl rfl (Nat.le_of_ble_eq_true rfl) (rmSH (by decide) (by decide)) (s_hadBy hW sh523 ?_)
  show Go X 2 mX0_walk Q 68 [(4, .int xs0), (0, .ref 512), (1, .ref 523), (2, .int x2)] [.int (tAt (mI m 526) x2 6), .ref 31, .int xs0, .int (mI (uI m 525 x2.toNatClampNeg ((mI m 525 x2.toNatClampNeg) + (mI m 33 x2.toNatClampNeg))) 525 x2.toNatClampNeg)] (uI m 525 x2.toNatClampNeg ((mI m 525 x2.toNatClampNeg) + (mI m 33 x2.toNatClampNeg)))
  refine g_callV (As := [.int (tAt (mI m 526) x2 6)]) (st := [.int xs0, .int (mI (uI m 525 x2.toNatClampNeg ((mI m 525 x2.toNatClampNeg) + (mI m 33 x2.toNatClampNeg))) 525 x2.toNatClampNeg)]) dX0_walk_68 clX0_88 sh31 rfl rfl (Nat.le_of_ble_eq_true rfl) (rmSH (by decide) (by decide)) (s_weightOf hW sh31 ?_)
  show Go X 2 mX0_walk Q 71 [(4, .int xs0), (0, .ref 512), (1, .ref 523), (2, .int x2)] [.int (wSum (mI m 34) (tAt (mI m 526) x2 6) 6), .int xs0, .int (mI (uI m 525 x2.toNatClampNeg ((mI m 525 x2.toNatClampNeg) + (mI m 33 x2.toNatClampNeg))) 525 x2.toNatClampNeg)] (uI m 525 x2.toNatClampNeg ((mI m 525 x2.toNatClampNeg) + (mI m 33 x2.toNatClampNeg)))
  refine g_iadd dX0_walk_71 ?_
  refine g_icmp_ge 77 dX0_walk_72 (by decide) (fun q1 => ?_) (fun q1 => ?_)
  · refine g_aload_n 2 dX0_walk_77 rfl rfl ?_
    refine g_getR dX0_walk_78 fl0_31 rfl sh523 (w8_1 hW sh523) ?_
    refine g_iload_n 3 dX0_walk_81 rfl rfl ?_
    refine g_dup2 dX0_walk_82 rfl rfl ?_
    refine g_iald (j := x2.toNatClampNeg) dX0_walk_83 (s8_1 sh523) (h2 q1) rfl ?_
    refine g_iconst (v := 1) dX0_walk_84 (by decide) ?_
    refine g_iadd dX0_walk_85 ?_
    refine g_iast (j := x2.toNatClampNeg) dX0_walk_86 (s8_1 sh523) (h2 q1) rfl ?_
    refine g_aload_n 2 dX0_walk_87 rfl rfl ?_
    refine g_getR dX0_walk_88 fl0_39 rfl sh523 (w8_2 hW sh523) ?_
    refine g_iload_n 3 dX0_walk_91 rfl rfl ?_
    refine g_iconst (v := 0) dX0_walk_92 (by decide) ?_
    refine g_iast (j := x2.toNatClampNeg) dX0_walk_93 (s8_2 sh523) (h2 q1) rfl ?_
    refine g_iconst (v := 1) dX0_walk_94 (by decide) ?_
    exact g_bret dX0_walk_95 rfl (Or.inr rfl) enSH (h3 q1)
  · refine g_iconst (v := 0) dX0_walk_75 (by decide) ?_
    exact g_bret dX0_walk_76 rfl (Or.inl rfl) enSH (h4 q1)
theorem bX0_walkS523_31v1 {X : pX} {Q : Option Value → pMem → Prop} {m : pMem} {x2 : Int32} (hW : Wf m)
    (h1 : vp_in x2 4)
    (h2 : ((0 : Int32) + (wSum (mI m 34) (tAt (mI m 526) x2 6) 6)) ≤ (mI (uI m 525 x2.toNatClampNeg ((mI m 525 x2.toNatClampNeg) + (mI m 33 x2.toNatClampNeg))) 525 x2.toNatClampNeg) → vp_in x2 4)
    (h3 : ((0 : Int32) + (wSum (mI m 34) (tAt (mI m 526) x2 6) 6)) ≤ (mI (uI m 525 x2.toNatClampNeg ((mI m 525 x2.toNatClampNeg) + (mI m 33 x2.toNatClampNeg))) 525 x2.toNatClampNeg) → Q (some (.int (1 : Int32))) (uI (uI (uI m 525 x2.toNatClampNeg ((mI m 525 x2.toNatClampNeg) + (mI m 33 x2.toNatClampNeg))) 524 x2.toNatClampNeg ((mI m 524 x2.toNatClampNeg) + (1 : Int32))) 525 x2.toNatClampNeg (0 : Int32)))
    (h4 : ¬ (((0 : Int32) + (wSum (mI m 34) (tAt (mI m 526) x2 6) 6)) ≤ (mI (uI m 525 x2.toNatClampNeg ((mI m 525 x2.toNatClampNeg) + (mI m 33 x2.toNatClampNeg))) 525 x2.toNatClampNeg)) → Q (some (.int (0 : Int32))) (uI m 525 x2.toNatClampNeg ((mI m 525 x2.toNatClampNeg) + (mI m 33 x2.toNatClampNeg)))) :
    Go X 2 mX0_walk Q 31 [(0, .ref 512), (1, .ref 523), (2, .int x2)] [.int (0 : Int32)] m := by
  refine g_istore (ls2 := [(4, .int (0 : Int32)), (0, .ref 512), (1, .ref 523), (2, .int x2)]) dX0_walk_31 (by decide) rfl ?_
  refine g_aload_n 2 dX0_walk_33 rfl rfl ?_
  refine g_getR dX0_walk_34 fl0_39 rfl sh523 (w8_2 hW sh523) ?_
  refine g_iload_n 3 dX0_walk_37 rfl rfl ?_
  refine g_dup2 dX0_walk_38 rfl rfl ?_
  refine g_iald (j := x2.toNatClampNeg) dX0_walk_39 (s8_2 sh523) h1 rfl ?_
  refine g_aload_n 1 dX0_walk_40 rfl rfl ?_
  refine g_getR dX0_walk_41 fl0_17 rfl sh512 (w0_0 hW sh512) ?_
  refine g_getR dX0_walk_44 fl0_91 rfl sh31 (w4_6 hW sh31) ?_
  refine g_iload_n 3 dX0_walk_47 rfl rfl ?_
  refine g_iald (j := x2.toNatClampNeg) dX0_walk_48 (s4_6 sh31) h1 rfl ?_
  refine g_iadd dX0_walk_49 ?_
  refine g_iast (j := x2.toNatClampNeg) dX0_walk_50 (s8_2 sh523) h1 rfl ?_
  refine g_aload_n 2 dX0_walk_51 rfl rfl ?_
  refine g_getR dX0_walk_52 fl0_39 rfl sh523 (w8_2 hW sh523) ?_
  refine g_iload_n 3 dX0_walk_55 rfl rfl ?_
  refine g_iald (j := x2.toNatClampNeg) dX0_walk_56 (s8_2 sh523) h1 rfl ?_
  refine g_iload 0 dX0_walk_57 rfl ?_
  refine g_aload_n 1 dX0_walk_59 rfl rfl ?_
  refine g_getR dX0_walk_60 fl0_17 rfl sh512 (w0_0 hW sh512) ?_
  refine g_aload_n 2 dX0_walk_63 rfl rfl ?_
  refine g_iload_n 3 dX0_walk_64 rfl rfl ?_
  refine g_callV (As := [.int x2]) (st := [.ref 31, .int (0 : Int32), .int (mI (uI m 525 x2.toNatClampNeg ((mI m 525 x2.toNatClampNeg) + (mI m 33 x2.toNatClampNeg))) 525 x2.toNatClampNeg)]) dX0_walk_65 clX0_74 sh523 rfl rfl (Nat.le_of_ble_eq_true rfl) (rmSH (by decide) (by decide)) (s_hadBy hW sh523 ?_)
  show Go X 2 mX0_walk Q 68 [(4, .int (0 : Int32)), (0, .ref 512), (1, .ref 523), (2, .int x2)] [.int (tAt (mI m 526) x2 6), .ref 31, .int (0 : Int32), .int (mI (uI m 525 x2.toNatClampNeg ((mI m 525 x2.toNatClampNeg) + (mI m 33 x2.toNatClampNeg))) 525 x2.toNatClampNeg)] (uI m 525 x2.toNatClampNeg ((mI m 525 x2.toNatClampNeg) + (mI m 33 x2.toNatClampNeg)))
  refine g_callV (As := [.int (tAt (mI m 526) x2 6)]) (st := [.int (0 : Int32), .int (mI (uI m 525 x2.toNatClampNeg ((mI m 525 x2.toNatClampNeg) + (mI m 33 x2.toNatClampNeg))) 525 x2.toNatClampNeg)]) dX0_walk_68 clX0_88 sh31 rfl rfl (Nat.le_of_ble_eq_true rfl) (rmSH (by decide) (by decide)) (s_weightOf hW sh31 ?_)
  show Go X 2 mX0_walk Q 71 [(4, .int (0 : Int32)), (0, .ref 512), (1, .ref 523), (2, .int x2)] [.int (wSum (mI m 34) (tAt (mI m 526) x2 6) 6), .int (0 : Int32), .int (mI (uI m 525 x2.toNatClampNeg ((mI m 525 x2.toNatClampNeg) + (mI m 33 x2.toNatClampNeg))) 525 x2.toNatClampNeg)] (uI m 525 x2.toNatClampNeg ((mI m 525 x2.toNatClampNeg) + (mI m 33 x2.toNatClampNeg)))
  refine g_iadd dX0_walk_71 ?_
  refine g_icmp_ge 77 dX0_walk_72 (by decide) (fun q1 => ?_) (fun q1 => ?_)
  · refine g_aload_n 2 dX0_walk_77 rfl rfl ?_
    refine g_getR dX0_walk_78 fl0_31 rfl sh523 (w8_1 hW sh523) ?_
    refine g_iload_n 3 dX0_walk_81 rfl rfl ?_
    refine g_dup2 dX0_walk_82 rfl rfl ?_
    refine g_iald (j := x2.toNatClampNeg) dX0_walk_83 (s8_1 sh523) (h2 q1) rfl ?_
    refine g_iconst (v := 1) dX0_walk_84 (by decide) ?_
    refine g_iadd dX0_walk_85 ?_
    refine g_iast (j := x2.toNatClampNeg) dX0_walk_86 (s8_1 sh523) (h2 q1) rfl ?_
    refine g_aload_n 2 dX0_walk_87 rfl rfl ?_
    refine g_getR dX0_walk_88 fl0_39 rfl sh523 (w8_2 hW sh523) ?_
    refine g_iload_n 3 dX0_walk_91 rfl rfl ?_
    refine g_iconst (v := 0) dX0_walk_92 (by decide) ?_
    refine g_iast (j := x2.toNatClampNeg) dX0_walk_93 (s8_2 sh523) (h2 q1) rfl ?_
    refine g_iconst (v := 1) dX0_walk_94 (by decide) ?_
    exact g_bret dX0_walk_95 rfl (Or.inr rfl) enSH (h3 q1)
  · refine g_iconst (v := 0) dX0_walk_75 (by decide) ?_
    exact g_bret dX0_walk_76 rfl (Or.inl rfl) enSH (h4 q1)
theorem bX0_setWordsS37_0 {X : pX} {Q : Option Value → pMem → Prop} {m : pMem} {x2 : Int32} {x3 : Int32} (hW : Wf m)
    (h1 : vp_in x2 4)
    (h2 : vp_in x3 6)
    (h3 : sm64 (tAt (mI m 40) x2 6))
    (h4 : ¬ (mI m 38 x2.toNatClampNeg) < 0 ∧ ¬ mI m 31 2 ≤ (mI m 38 x2.toNatClampNeg) ∧ ¬ (8 : Int32) ≤ (mI m 38 x2.toNatClampNeg) → vp_in (mI m 38 x2.toNatClampNeg) 8)
    (h5 : ¬ (mI m 38 x2.toNatClampNeg) < 0 ∧ ¬ mI m 31 2 ≤ (mI m 38 x2.toNatClampNeg) ∧ ¬ (8 : Int32) ≤ (mI m 38 x2.toNatClampNeg) → Q none (uI (uI (uI (uI (uI (uI (uI (uI (uI (uI (uI (uI m 513 0 x2) 513 1 x3) 513 2 (mI m 34 x3.toNatClampNeg)) 513 3 (mI m 35 x3.toNatClampNeg)) 513 4 (((tAt (mI m 40) x2 6) >>> (x3 &&& 31)) &&& (1 : Int32))) 513 5 (pcI (tAt (mI m 40) x2 6))) 513 6 (wSum (mI m 34) (tAt (mI m 40) x2 6) 6)) 513 7 (mI m 38 x2.toNatClampNeg)) 513 8 ((mI m 31 2) - (mI m 38 x2.toNatClampNeg))) 513 9 (mI m 33 x2.toNatClampNeg)) 513 10 (mI m 32 ((mI m 38 x2.toNatClampNeg).toNatClampNeg))) 513 11 (mI m 37 0)))
    (h6 : ¬ (¬ (mI m 38 x2.toNatClampNeg) < 0 ∧ ¬ mI m 31 2 ≤ (mI m 38 x2.toNatClampNeg) ∧ ¬ (8 : Int32) ≤ (mI m 38 x2.toNatClampNeg)) → Q none (uI (uI (uI (uI (uI (uI (uI (uI (uI (uI (uI (uI m 513 0 x2) 513 1 x3) 513 2 (mI m 34 x3.toNatClampNeg)) 513 3 (mI m 35 x3.toNatClampNeg)) 513 4 (((tAt (mI m 40) x2 6) >>> (x3 &&& 31)) &&& (1 : Int32))) 513 5 (pcI (tAt (mI m 40) x2 6))) 513 6 (wSum (mI m 34) (tAt (mI m 40) x2 6) 6)) 513 7 (mI m 38 x2.toNatClampNeg)) 513 8 ((mI m 31 2) - (mI m 38 x2.toNatClampNeg))) 513 9 (mI m 33 x2.toNatClampNeg)) 513 10 (0 : Int32)) 513 11 (mI m 37 0))) :
    Go X 2 mX0_setWords Q 0 [(0, .ref 512), (1, .ref 37), (2, .int x2), (3, .int x3)] [] m := by
  refine g_aload_n 1 dX0_setWords_0 rfl rfl ?_
  refine g_iload_n 2 dX0_setWords_1 rfl rfl ?_
  refine g_callV (As := [.int x2]) (st := []) dX0_setWords_2 clX0_74 sh37 rfl rfl (Nat.le_of_ble_eq_true rfl) (rmSH (by decide) (by decide)) (s_hadBy hW sh37 ?_)
  show Go X 2 mX0_setWords Q 5 [(0, .ref 512), (1, .ref 37), (2, .int x2), (3, .int x3)] [.int (tAt (mI m 40) x2 6)] m
  refine g_istore (ls2 := [(4, .int (tAt (mI m 40) x2 6)), (0, .ref 512), (1, .ref 37), (2, .int x2), (3, .int x3)]) dX0_setWords_5 (by decide) rfl ?_
  refine g_aload_n 2 dX0_setWords_7 rfl rfl ?_
  refine g_getR dX0_setWords_8 fl0_31 rfl sh37 (w8_1 hW sh37) ?_
  refine g_iload_n 3 dX0_setWords_11 rfl rfl ?_
  refine g_iald (j := x2.toNatClampNeg) dX0_setWords_12 (s8_1 sh37) h1 rfl ?_
  refine g_istore (ls2 := [(5, .int (mI m 38 x2.toNatClampNeg)), (4, .int (tAt (mI m 40) x2 6)), (0, .ref 512), (1, .ref 37), (2, .int x2), (3, .int x3)]) dX0_setWords_13 (by decide) rfl ?_
  refine g_aload_n 2 dX0_setWords_15 rfl rfl ?_
  refine g_getR dX0_setWords_16 fl0_11 rfl sh512 (w0_1 hW sh512) ?_
  refine g_iconst (v := 0) dX0_setWords_19 (by decide) ?_
  refine g_iload_n 4 dX0_setWords_20 rfl rfl ?_
  refine g_iast (j := 0) dX0_setWords_21 (s0_1 sh512) (by unfold vp_in; decide) (by decide) ?_
  refine g_aload_n 2 dX0_setWords_22 rfl rfl ?_
  refine g_getR dX0_setWords_23 fl0_11 rfl sh512 (w0_1 hW sh512) ?_
  refine g_iconst (v := 1) dX0_setWords_26 (by decide) ?_
  refine g_iload_n 5 dX0_setWords_27 rfl rfl ?_
  refine g_iast (j := 1) dX0_setWords_28 (s0_1 sh512) (by unfold vp_in; decide) (by decide) ?_
  refine g_aload_n 2 dX0_setWords_29 rfl rfl ?_
  refine g_getR dX0_setWords_30 fl0_11 rfl sh512 (w0_1 hW sh512) ?_
  refine g_iconst (v := 2) dX0_setWords_33 (by decide) ?_
  refine g_aload_n 2 dX0_setWords_34 rfl rfl ?_
  refine g_getR dX0_setWords_35 fl0_17 rfl sh512 (w0_0 hW sh512) ?_
  refine g_getR dX0_setWords_38 fl0_77 rfl sh31 (w4_7 hW sh31) ?_
  refine g_iload_n 5 dX0_setWords_41 rfl rfl ?_
  refine g_iald (j := x3.toNatClampNeg) dX0_setWords_42 (s4_7 sh31) h2 rfl ?_
  refine g_iast (j := 2) dX0_setWords_43 (s0_1 sh512) (by unfold vp_in; decide) (by decide) ?_
  refine g_aload_n 2 dX0_setWords_44 rfl rfl ?_
  refine g_getR dX0_setWords_45 fl0_11 rfl sh512 (w0_1 hW sh512) ?_
  refine g_iconst (v := 3) dX0_setWords_48 (by decide) ?_
  refine g_aload_n 2 dX0_setWords_49 rfl rfl ?_
  refine g_getR dX0_setWords_50 fl0_17 rfl sh512 (w0_0 hW sh512) ?_
  refine g_getR dX0_setWords_53 fl0_80 rfl sh31 (w4_8 hW sh31) ?_
  refine g_iload_n 5 dX0_setWords_56 rfl rfl ?_
  refine g_iald (j := x3.toNatClampNeg) dX0_setWords_57 (s4_8 sh31) h2 rfl ?_
  refine g_iast (j := 3) dX0_setWords_58 (s0_1 sh512) (by unfold vp_in; decide) (by decide) ?_
  refine g_aload_n 2 dX0_setWords_59 rfl rfl ?_
  refine g_getR dX0_setWords_60 fl0_11 rfl sh512 (w0_1 hW sh512) ?_
  refine g_iconst (v := 4) dX0_setWords_63 (by decide) ?_
  refine g_iload 1 dX0_setWords_64 rfl ?_
  refine g_iload_n 5 dX0_setWords_66 rfl rfl ?_
  refine g_ishr dX0_setWords_67 ?_
  refine g_iconst (v := 1) dX0_setWords_68 (by decide) ?_
  refine g_iand dX0_setWords_69 ?_
  refine g_iast (j := 4) dX0_setWords_70 (s0_1 sh512) (by unfold vp_in; decide) (by decide) ?_
  refine g_aload_n 2 dX0_setWords_71 rfl rfl ?_
  refine g_getR dX0_setWords_72 fl0_11 rfl sh512 (w0_1 hW sh512) ?_
  refine g_iconst (v := 5) dX0_setWords_75 (by decide) ?_
  refine g_iload 1 dX0_setWords_76 rfl ?_
  refine g_callS (As := [.int (tAt (mI m 40) x2 6)]) (st := [.int (5 : Int32), .ref 513]) dX0_setWords_78 clX0_83 rfl rfl (Nat.le_of_ble_eq_true rfl) (rmSH (by decide) (by decide)) (s_bitCount hW h3 ?_)
  show Go X 2 mX0_setWords Q 81 [(5, .int (mI m 38 x2.toNatClampNeg)), (4, .int (tAt (mI m 40) x2 6)), (0, .ref 512), (1, .ref 37), (2, .int x2), (3, .int x3)] [.int (pcI (tAt (mI m 40) x2 6)), .int (5 : Int32), .ref 513] (uI (uI (uI (uI (uI m 513 0 x2) 513 1 x3) 513 2 (mI m 34 x3.toNatClampNeg)) 513 3 (mI m 35 x3.toNatClampNeg)) 513 4 (((tAt (mI m 40) x2 6) >>> (x3 &&& 31)) &&& (1 : Int32)))
  refine g_iast (j := 5) dX0_setWords_81 (s0_1 sh512) (by unfold vp_in; decide) (by decide) ?_
  refine g_aload_n 2 dX0_setWords_82 rfl rfl ?_
  refine g_getR dX0_setWords_83 fl0_11 rfl sh512 (w0_1 hW sh512) ?_
  refine g_bipush (v := 6) dX0_setWords_86 (by decide) ?_
  refine g_aload_n 2 dX0_setWords_88 rfl rfl ?_
  refine g_getR dX0_setWords_89 fl0_17 rfl sh512 (w0_0 hW sh512) ?_
  refine g_iload 1 dX0_setWords_92 rfl ?_
  refine g_callV (As := [.int (tAt (mI m 40) x2 6)]) (st := [.int (6 : Int32), .ref 513]) dX0_setWords_94 clX0_88 sh31 rfl rfl (Nat.le_of_ble_eq_true rfl) (rmSH (by decide) (by decide)) (s_weightOf hW sh31 ?_)
  show Go X 2 mX0_setWords Q 97 [(5, .int (mI m 38 x2.toNatClampNeg)), (4, .int (tAt (mI m 40) x2 6)), (0, .ref 512), (1, .ref 37), (2, .int x2), (3, .int x3)] [.int (wSum (mI m 34) (tAt (mI m 40) x2 6) 6), .int (6 : Int32), .ref 513] (uI (uI (uI (uI (uI (uI m 513 0 x2) 513 1 x3) 513 2 (mI m 34 x3.toNatClampNeg)) 513 3 (mI m 35 x3.toNatClampNeg)) 513 4 (((tAt (mI m 40) x2 6) >>> (x3 &&& 31)) &&& (1 : Int32))) 513 5 (pcI (tAt (mI m 40) x2 6)))
  refine g_iast (j := 6) dX0_setWords_97 (s0_1 sh512) (by unfold vp_in; decide) (by decide) ?_
  refine g_aload_n 2 dX0_setWords_98 rfl rfl ?_
  refine g_getR dX0_setWords_99 fl0_11 rfl sh512 (w0_1 hW sh512) ?_
  refine g_bipush (v := 7) dX0_setWords_102 (by decide) ?_
  refine g_iload 0 dX0_setWords_104 rfl ?_
  refine g_iast (j := 7) dX0_setWords_106 (s0_1 sh512) (by unfold vp_in; decide) (by decide) ?_
  refine g_aload_n 2 dX0_setWords_107 rfl rfl ?_
  refine g_getR dX0_setWords_108 fl0_11 rfl sh512 (w0_1 hW sh512) ?_
  refine g_bipush (v := 8) dX0_setWords_111 (by decide) ?_
  refine g_aload_n 2 dX0_setWords_113 rfl rfl ?_
  refine g_getR dX0_setWords_114 fl0_17 rfl sh512 (w0_0 hW sh512) ?_
  refine g_getI dX0_setWords_117 fl0_36 sh31 ?_
  refine g_iload 0 dX0_setWords_120 rfl ?_
  refine g_isub dX0_setWords_122 ?_
  refine g_iast (j := 8) dX0_setWords_123 (s0_1 sh512) (by unfold vp_in; decide) (by decide) ?_
  refine g_aload_n 2 dX0_setWords_124 rfl rfl ?_
  refine g_getR dX0_setWords_125 fl0_11 rfl sh512 (w0_1 hW sh512) ?_
  refine g_bipush (v := 9) dX0_setWords_128 (by decide) ?_
  refine g_aload_n 2 dX0_setWords_130 rfl rfl ?_
  refine g_getR dX0_setWords_131 fl0_17 rfl sh512 (w0_0 hW sh512) ?_
  refine g_getR dX0_setWords_134 fl0_91 rfl sh31 (w4_6 hW sh31) ?_
  refine g_iload_n 4 dX0_setWords_137 rfl rfl ?_
  refine g_iald (j := x2.toNatClampNeg) dX0_setWords_138 (s4_6 sh31) h1 rfl ?_
  refine g_iast (j := 9) dX0_setWords_139 (s0_1 sh512) (by unfold vp_in; decide) (by decide) ?_
  refine g_aload_n 2 dX0_setWords_140 rfl rfl ?_
  refine g_getR dX0_setWords_141 fl0_11 rfl sh512 (w0_1 hW sh512) ?_
  refine g_bipush (v := 10) dX0_setWords_144 (by decide) ?_
  refine g_aload_n 2 dX0_setWords_146 rfl rfl ?_
  refine g_getR dX0_setWords_147 fl0_17 rfl sh512 (w0_0 hW sh512) ?_
  refine g_iload 0 dX0_setWords_150 rfl ?_
  refine g_callV (As := [.int (mI m 38 x2.toNatClampNeg)]) (st := [.int (10 : Int32), .ref 513]) dX0_setWords_152 clX0_94 sh31 rfl rfl (Nat.le_of_ble_eq_true rfl) (rmSH (by decide) (by decide)) (s_isStage hW sh31 (fun q1 => ?_) (fun q1 => ?_))
  · refine g_if_eq 171 dX0_setWords_155 (by decide) (fun q2 => absurd q2 (by decide)) (fun q2 => ?_)
    refine g_aload_n 2 dX0_setWords_158 rfl rfl ?_
    refine g_getR dX0_setWords_159 fl0_17 rfl sh512 (w0_0 hW sh512) ?_
    refine g_getR dX0_setWords_162 fl0_98 rfl sh31 (w4_5 hW sh31) ?_
    refine g_iload 0 dX0_setWords_165 rfl ?_
    refine g_iald (j := (mI m 38 x2.toNatClampNeg).toNatClampNeg) dX0_setWords_167 (s4_5 sh31) (h4 q1) rfl ?_
    refine g_goto 172 dX0_setWords_168 (by decide) ?_
    refine g_iast (j := 10) dX0_setWords_172 (s0_1 sh512) (by unfold vp_in; decide) (by decide) ?_
    refine g_aload_n 2 dX0_setWords_173 rfl rfl ?_
    refine g_getR dX0_setWords_174 fl0_11 rfl sh512 (w0_1 hW sh512) ?_
    refine g_bipush (v := 11) dX0_setWords_177 (by decide) ?_
    refine g_aload_n 3 dX0_setWords_179 rfl rfl ?_
    refine g_getI dX0_setWords_180 fl0_50 sh37 ?_
    refine g_iast (j := 11) dX0_setWords_183 (s0_1 sh512) (by unfold vp_in; decide) (by decide) ?_
    exact g_vret dX0_setWords_184 rfl enSH (h5 q1)
  · refine g_if_eq 171 dX0_setWords_155 (by decide) (fun q3 => ?_) (fun q3 => absurd q3 (by decide))
    refine g_iconst (v := 0) dX0_setWords_171 (by decide) ?_
    refine g_iast (j := 10) dX0_setWords_172 (s0_1 sh512) (by unfold vp_in; decide) (by decide) ?_
    refine g_aload_n 2 dX0_setWords_173 rfl rfl ?_
    refine g_getR dX0_setWords_174 fl0_11 rfl sh512 (w0_1 hW sh512) ?_
    refine g_bipush (v := 11) dX0_setWords_177 (by decide) ?_
    refine g_aload_n 3 dX0_setWords_179 rfl rfl ?_
    refine g_getI dX0_setWords_180 fl0_50 sh37 ?_
    refine g_iast (j := 11) dX0_setWords_183 (s0_1 sh512) (by unfold vp_in; decide) (by decide) ?_
    exact g_vret dX0_setWords_184 rfl enSH (h6 q1)
theorem bX0_setWordsS523_0 {X : pX} {Q : Option Value → pMem → Prop} {m : pMem} {x2 : Int32} {x3 : Int32} (hW : Wf m)
    (h1 : vp_in x2 4)
    (h2 : vp_in x3 6)
    (h3 : sm64 (tAt (mI m 526) x2 6))
    (h4 : ¬ (mI m 524 x2.toNatClampNeg) < 0 ∧ ¬ mI m 31 2 ≤ (mI m 524 x2.toNatClampNeg) ∧ ¬ (8 : Int32) ≤ (mI m 524 x2.toNatClampNeg) → vp_in (mI m 524 x2.toNatClampNeg) 8)
    (h5 : ¬ (mI m 524 x2.toNatClampNeg) < 0 ∧ ¬ mI m 31 2 ≤ (mI m 524 x2.toNatClampNeg) ∧ ¬ (8 : Int32) ≤ (mI m 524 x2.toNatClampNeg) → Q none (uI (uI (uI (uI (uI (uI (uI (uI (uI (uI (uI (uI m 513 0 x2) 513 1 x3) 513 2 (mI m 34 x3.toNatClampNeg)) 513 3 (mI m 35 x3.toNatClampNeg)) 513 4 (((tAt (mI m 526) x2 6) >>> (x3 &&& 31)) &&& (1 : Int32))) 513 5 (pcI (tAt (mI m 526) x2 6))) 513 6 (wSum (mI m 34) (tAt (mI m 526) x2 6) 6)) 513 7 (mI m 524 x2.toNatClampNeg)) 513 8 ((mI m 31 2) - (mI m 524 x2.toNatClampNeg))) 513 9 (mI m 33 x2.toNatClampNeg)) 513 10 (mI m 32 ((mI m 524 x2.toNatClampNeg).toNatClampNeg))) 513 11 (mI m 523 0)))
    (h6 : ¬ (¬ (mI m 524 x2.toNatClampNeg) < 0 ∧ ¬ mI m 31 2 ≤ (mI m 524 x2.toNatClampNeg) ∧ ¬ (8 : Int32) ≤ (mI m 524 x2.toNatClampNeg)) → Q none (uI (uI (uI (uI (uI (uI (uI (uI (uI (uI (uI (uI m 513 0 x2) 513 1 x3) 513 2 (mI m 34 x3.toNatClampNeg)) 513 3 (mI m 35 x3.toNatClampNeg)) 513 4 (((tAt (mI m 526) x2 6) >>> (x3 &&& 31)) &&& (1 : Int32))) 513 5 (pcI (tAt (mI m 526) x2 6))) 513 6 (wSum (mI m 34) (tAt (mI m 526) x2 6) 6)) 513 7 (mI m 524 x2.toNatClampNeg)) 513 8 ((mI m 31 2) - (mI m 524 x2.toNatClampNeg))) 513 9 (mI m 33 x2.toNatClampNeg)) 513 10 (0 : Int32)) 513 11 (mI m 523 0))) :
    Go X 2 mX0_setWords Q 0 [(0, .ref 512), (1, .ref 523), (2, .int x2), (3, .int x3)] [] m := by
  refine g_aload_n 1 dX0_setWords_0 rfl rfl ?_
  refine g_iload_n 2 dX0_setWords_1 rfl rfl ?_
  refine g_callV (As := [.int x2]) (st := []) dX0_setWords_2 clX0_74 sh523 rfl rfl (Nat.le_of_ble_eq_true rfl) (rmSH (by decide) (by decide)) (s_hadBy hW sh523 ?_)
  show Go X 2 mX0_setWords Q 5 [(0, .ref 512), (1, .ref 523), (2, .int x2), (3, .int x3)] [.int (tAt (mI m 526) x2 6)] m
  refine g_istore (ls2 := [(4, .int (tAt (mI m 526) x2 6)), (0, .ref 512), (1, .ref 523), (2, .int x2), (3, .int x3)]) dX0_setWords_5 (by decide) rfl ?_
  refine g_aload_n 2 dX0_setWords_7 rfl rfl ?_
  refine g_getR dX0_setWords_8 fl0_31 rfl sh523 (w8_1 hW sh523) ?_
  refine g_iload_n 3 dX0_setWords_11 rfl rfl ?_
  refine g_iald (j := x2.toNatClampNeg) dX0_setWords_12 (s8_1 sh523) h1 rfl ?_
  refine g_istore (ls2 := [(5, .int (mI m 524 x2.toNatClampNeg)), (4, .int (tAt (mI m 526) x2 6)), (0, .ref 512), (1, .ref 523), (2, .int x2), (3, .int x3)]) dX0_setWords_13 (by decide) rfl ?_
  refine g_aload_n 2 dX0_setWords_15 rfl rfl ?_
  refine g_getR dX0_setWords_16 fl0_11 rfl sh512 (w0_1 hW sh512) ?_
  refine g_iconst (v := 0) dX0_setWords_19 (by decide) ?_
  refine g_iload_n 4 dX0_setWords_20 rfl rfl ?_
  refine g_iast (j := 0) dX0_setWords_21 (s0_1 sh512) (by unfold vp_in; decide) (by decide) ?_
  refine g_aload_n 2 dX0_setWords_22 rfl rfl ?_
  refine g_getR dX0_setWords_23 fl0_11 rfl sh512 (w0_1 hW sh512) ?_
  refine g_iconst (v := 1) dX0_setWords_26 (by decide) ?_
  refine g_iload_n 5 dX0_setWords_27 rfl rfl ?_
  refine g_iast (j := 1) dX0_setWords_28 (s0_1 sh512) (by unfold vp_in; decide) (by decide) ?_
  refine g_aload_n 2 dX0_setWords_29 rfl rfl ?_
  refine g_getR dX0_setWords_30 fl0_11 rfl sh512 (w0_1 hW sh512) ?_
  refine g_iconst (v := 2) dX0_setWords_33 (by decide) ?_
  refine g_aload_n 2 dX0_setWords_34 rfl rfl ?_
  refine g_getR dX0_setWords_35 fl0_17 rfl sh512 (w0_0 hW sh512) ?_
  refine g_getR dX0_setWords_38 fl0_77 rfl sh31 (w4_7 hW sh31) ?_
  refine g_iload_n 5 dX0_setWords_41 rfl rfl ?_
  refine g_iald (j := x3.toNatClampNeg) dX0_setWords_42 (s4_7 sh31) h2 rfl ?_
  refine g_iast (j := 2) dX0_setWords_43 (s0_1 sh512) (by unfold vp_in; decide) (by decide) ?_
  refine g_aload_n 2 dX0_setWords_44 rfl rfl ?_
  refine g_getR dX0_setWords_45 fl0_11 rfl sh512 (w0_1 hW sh512) ?_
  refine g_iconst (v := 3) dX0_setWords_48 (by decide) ?_
  refine g_aload_n 2 dX0_setWords_49 rfl rfl ?_
  refine g_getR dX0_setWords_50 fl0_17 rfl sh512 (w0_0 hW sh512) ?_
  refine g_getR dX0_setWords_53 fl0_80 rfl sh31 (w4_8 hW sh31) ?_
  refine g_iload_n 5 dX0_setWords_56 rfl rfl ?_
  refine g_iald (j := x3.toNatClampNeg) dX0_setWords_57 (s4_8 sh31) h2 rfl ?_
  refine g_iast (j := 3) dX0_setWords_58 (s0_1 sh512) (by unfold vp_in; decide) (by decide) ?_
  refine g_aload_n 2 dX0_setWords_59 rfl rfl ?_
  refine g_getR dX0_setWords_60 fl0_11 rfl sh512 (w0_1 hW sh512) ?_
  refine g_iconst (v := 4) dX0_setWords_63 (by decide) ?_
  refine g_iload 1 dX0_setWords_64 rfl ?_
  refine g_iload_n 5 dX0_setWords_66 rfl rfl ?_
  refine g_ishr dX0_setWords_67 ?_
  refine g_iconst (v := 1) dX0_setWords_68 (by decide) ?_
  refine g_iand dX0_setWords_69 ?_
  refine g_iast (j := 4) dX0_setWords_70 (s0_1 sh512) (by unfold vp_in; decide) (by decide) ?_
  refine g_aload_n 2 dX0_setWords_71 rfl rfl ?_
  refine g_getR dX0_setWords_72 fl0_11 rfl sh512 (w0_1 hW sh512) ?_
  refine g_iconst (v := 5) dX0_setWords_75 (by decide) ?_
  refine g_iload 1 dX0_setWords_76 rfl ?_
  refine g_callS (As := [.int (tAt (mI m 526) x2 6)]) (st := [.int (5 : Int32), .ref 513]) dX0_setWords_78 clX0_83 rfl rfl (Nat.le_of_ble_eq_true rfl) (rmSH (by decide) (by decide)) (s_bitCount hW h3 ?_)
  show Go X 2 mX0_setWords Q 81 [(5, .int (mI m 524 x2.toNatClampNeg)), (4, .int (tAt (mI m 526) x2 6)), (0, .ref 512), (1, .ref 523), (2, .int x2), (3, .int x3)] [.int (pcI (tAt (mI m 526) x2 6)), .int (5 : Int32), .ref 513] (uI (uI (uI (uI (uI m 513 0 x2) 513 1 x3) 513 2 (mI m 34 x3.toNatClampNeg)) 513 3 (mI m 35 x3.toNatClampNeg)) 513 4 (((tAt (mI m 526) x2 6) >>> (x3 &&& 31)) &&& (1 : Int32)))
  refine g_iast (j := 5) dX0_setWords_81 (s0_1 sh512) (by unfold vp_in; decide) (by decide) ?_
  refine g_aload_n 2 dX0_setWords_82 rfl rfl ?_
  refine g_getR dX0_setWords_83 fl0_11 rfl sh512 (w0_1 hW sh512) ?_
  refine g_bipush (v := 6) dX0_setWords_86 (by decide) ?_
  refine g_aload_n 2 dX0_setWords_88 rfl rfl ?_
  refine g_getR dX0_setWords_89 fl0_17 rfl sh512 (w0_0 hW sh512) ?_
  refine g_iload 1 dX0_setWords_92 rfl ?_
  refine g_callV (As := [.int (tAt (mI m 526) x2 6)]) (st := [.int (6 : Int32), .ref 513]) dX0_setWords_94 clX0_88 sh31 rfl rfl (Nat.le_of_ble_eq_true rfl) (rmSH (by decide) (by decide)) (s_weightOf hW sh31 ?_)
  show Go X 2 mX0_setWords Q 97 [(5, .int (mI m 524 x2.toNatClampNeg)), (4, .int (tAt (mI m 526) x2 6)), (0, .ref 512), (1, .ref 523), (2, .int x2), (3, .int x3)] [.int (wSum (mI m 34) (tAt (mI m 526) x2 6) 6), .int (6 : Int32), .ref 513] (uI (uI (uI (uI (uI (uI m 513 0 x2) 513 1 x3) 513 2 (mI m 34 x3.toNatClampNeg)) 513 3 (mI m 35 x3.toNatClampNeg)) 513 4 (((tAt (mI m 526) x2 6) >>> (x3 &&& 31)) &&& (1 : Int32))) 513 5 (pcI (tAt (mI m 526) x2 6)))
  refine g_iast (j := 6) dX0_setWords_97 (s0_1 sh512) (by unfold vp_in; decide) (by decide) ?_
  refine g_aload_n 2 dX0_setWords_98 rfl rfl ?_
  refine g_getR dX0_setWords_99 fl0_11 rfl sh512 (w0_1 hW sh512) ?_
  refine g_bipush (v := 7) dX0_setWords_102 (by decide) ?_
  refine g_iload 0 dX0_setWords_104 rfl ?_
  refine g_iast (j := 7) dX0_setWords_106 (s0_1 sh512) (by unfold vp_in; decide) (by decide) ?_
  refine g_aload_n 2 dX0_setWords_107 rfl rfl ?_
  refine g_getR dX0_setWords_108 fl0_11 rfl sh512 (w0_1 hW sh512) ?_
  refine g_bipush (v := 8) dX0_setWords_111 (by decide) ?_
  refine g_aload_n 2 dX0_setWords_113 rfl rfl ?_
  refine g_getR dX0_setWords_114 fl0_17 rfl sh512 (w0_0 hW sh512) ?_
  refine g_getI dX0_setWords_117 fl0_36 sh31 ?_
  refine g_iload 0 dX0_setWords_120 rfl ?_
  refine g_isub dX0_setWords_122 ?_
  refine g_iast (j := 8) dX0_setWords_123 (s0_1 sh512) (by unfold vp_in; decide) (by decide) ?_
  refine g_aload_n 2 dX0_setWords_124 rfl rfl ?_
  refine g_getR dX0_setWords_125 fl0_11 rfl sh512 (w0_1 hW sh512) ?_
  refine g_bipush (v := 9) dX0_setWords_128 (by decide) ?_
  refine g_aload_n 2 dX0_setWords_130 rfl rfl ?_
  refine g_getR dX0_setWords_131 fl0_17 rfl sh512 (w0_0 hW sh512) ?_
  refine g_getR dX0_setWords_134 fl0_91 rfl sh31 (w4_6 hW sh31) ?_
  refine g_iload_n 4 dX0_setWords_137 rfl rfl ?_
  refine g_iald (j := x2.toNatClampNeg) dX0_setWords_138 (s4_6 sh31) h1 rfl ?_
  refine g_iast (j := 9) dX0_setWords_139 (s0_1 sh512) (by unfold vp_in; decide) (by decide) ?_
  refine g_aload_n 2 dX0_setWords_140 rfl rfl ?_
  refine g_getR dX0_setWords_141 fl0_11 rfl sh512 (w0_1 hW sh512) ?_
  refine g_bipush (v := 10) dX0_setWords_144 (by decide) ?_
  refine g_aload_n 2 dX0_setWords_146 rfl rfl ?_
  refine g_getR dX0_setWords_147 fl0_17 rfl sh512 (w0_0 hW sh512) ?_
  refine g_iload 0 dX0_setWords_150 rfl ?_
  refine g_callV (As := [.int (mI m 524 x2.toNatClampNeg)]) (st := [.int (10 : Int32), .ref 513]) dX0_setWords_152 clX0_94 sh31 rfl rfl (Nat.le_of_ble_eq_true rfl) (rmSH (by decide) (by decide)) (s_isStage hW sh31 (fun q1 => ?_) (fun q1 => ?_))
  · refine g_if_eq 171 dX0_setWords_155 (by decide) (fun q2 => absurd q2 (by decide)) (fun q2 => ?_)
    refine g_aload_n 2 dX0_setWords_158 rfl rfl ?_
    refine g_getR dX0_setWords_159 fl0_17 rfl sh512 (w0_0 hW sh512) ?_
    refine g_getR dX0_setWords_162 fl0_98 rfl sh31 (w4_5 hW sh31) ?_
    refine g_iload 0 dX0_setWords_165 rfl ?_
    refine g_iald (j := (mI m 524 x2.toNatClampNeg).toNatClampNeg) dX0_setWords_167 (s4_5 sh31) (h4 q1) rfl ?_
    refine g_goto 172 dX0_setWords_168 (by decide) ?_
    refine g_iast (j := 10) dX0_setWords_172 (s0_1 sh512) (by unfold vp_in; decide) (by decide) ?_
    refine g_aload_n 2 dX0_setWords_173 rfl rfl ?_
    refine g_getR dX0_setWords_174 fl0_11 rfl sh512 (w0_1 hW sh512) ?_
    refine g_bipush (v := 11) dX0_setWords_177 (by decide) ?_
    refine g_aload_n 3 dX0_setWords_179 rfl rfl ?_
    refine g_getI dX0_setWords_180 fl0_50 sh523 ?_
    refine g_iast (j := 11) dX0_setWords_183 (s0_1 sh512) (by unfold vp_in; decide) (by decide) ?_
    exact g_vret dX0_setWords_184 rfl enSH (h5 q1)
  · refine g_if_eq 171 dX0_setWords_155 (by decide) (fun q3 => ?_) (fun q3 => absurd q3 (by decide))
    refine g_iconst (v := 0) dX0_setWords_171 (by decide) ?_
    refine g_iast (j := 10) dX0_setWords_172 (s0_1 sh512) (by unfold vp_in; decide) (by decide) ?_
    refine g_aload_n 2 dX0_setWords_173 rfl rfl ?_
    refine g_getR dX0_setWords_174 fl0_11 rfl sh512 (w0_1 hW sh512) ?_
    refine g_bipush (v := 11) dX0_setWords_177 (by decide) ?_
    refine g_aload_n 3 dX0_setWords_179 rfl rfl ?_
    refine g_getI dX0_setWords_180 fl0_50 sh523 ?_
    refine g_iast (j := 11) dX0_setWords_183 (s0_1 sh512) (by unfold vp_in; decide) (by decide) ?_
    exact g_vret dX0_setWords_184 rfl enSH (h6 q1)
theorem bX4_daysFor_0 {X : pX} {Q : Option Value → pMem → Prop} {m : pMem} {a0 : Nat} {x1 : Int32} {x2 : Int32} {x3 : Int32} {x4 : Int32} (hW : Wf m) (c0 : SH[a0]? = some (.inl 4))
    (h1 : ¬ x1 < 0 ∧ ¬ mI m a0 3 ≤ x1 ∧ ¬ (4 : Int32) ≤ x1 → vp_in x1 4)
    (h2 : ¬ x1 < 0 ∧ ¬ mI m a0 3 ≤ x1 ∧ ¬ (4 : Int32) ≤ x1 → (1 : Int32) ≤ (mI m (a0 + 2) x1.toNatClampNeg) → Go X 1 mX4_daysFor Q 38 [(0, .ref a0), (1, .int x1), (3, .int x3), (5, .int (wSum (mI m (a0 + 3)) x4 6)), (6, .int (0 : Int32)), (7, .int (if x2 < (0 : Int32) then (0 : Int32) else x2))] [] m)
    (h3 : ¬ x1 < 0 ∧ ¬ mI m a0 3 ≤ x1 ∧ ¬ (4 : Int32) ≤ x1 → ¬ ((1 : Int32) ≤ (mI m (a0 + 2) x1.toNatClampNeg)) → Q (some (.int (0 : Int32))) m)
    (h4 : ¬ (¬ x1 < 0 ∧ ¬ mI m a0 3 ≤ x1 ∧ ¬ (4 : Int32) ≤ x1) → Q (some (.int (0 : Int32))) m) :
    Go X 1 mX4_daysFor Q 0 [(0, .ref a0), (1, .int x1), (2, .int x2), (3, .int x3), (4, .int x4)] [] m := by
  refine g_aload_n 0 dX4_daysFor_0 rfl rfl ?_
  refine g_iload_n 1 dX4_daysFor_1 rfl rfl ?_
  refine g_callV (As := [.int x1]) (st := []) dX4_daysFor_2 clX4_68 c0 rfl rfl (Nat.le_of_ble_eq_true rfl) (rmSH (by decide) (by decide)) (s_isPerson hW c0 (fun q1 => ?_) (fun q1 => ?_))
  · refine g_if_eq 18 dX4_daysFor_5 (by decide) (fun q2 => absurd q2 (by decide)) (fun q2 => ?_)
    refine g_aload_n 0 dX4_daysFor_8 rfl rfl ?_
    refine g_getR dX4_daysFor_9 fl4_15 rfl c0 (w4_6 hW c0) ?_
    refine g_iload_n 1 dX4_daysFor_12 rfl rfl ?_
    refine g_iald (j := x1.toNatClampNeg) dX4_daysFor_13 (s4_6 c0) (h1 q1) rfl ?_
    refine g_iconst (v := 1) dX4_daysFor_14 (by decide) ?_
    refine g_icmp_ge 20 dX4_daysFor_15 (by decide) (fun q3 => ?_) (fun q3 => ?_)
    · refine g_aload_n 0 dX4_daysFor_20 rfl rfl ?_
      refine g_iload 4 dX4_daysFor_21 rfl ?_
      refine g_callV (As := [.int x4]) (st := []) dX4_daysFor_23 clX4_72 c0 rfl rfl (Nat.le_of_ble_eq_true rfl) (rmSH (by decide) (by decide)) (s_weightOf hW c0 ?_)
      show Go X 1 mX4_daysFor Q 26 [(0, .ref a0), (1, .int x1), (2, .int x2), (3, .int x3), (4, .int x4)] [.int (wSum (mI m (a0 + 3)) x4 6)] m
      refine g_istore (ls2 := [(5, .int (wSum (mI m (a0 + 3)) x4 6)), (0, .ref a0), (1, .int x1), (2, .int x2), (3, .int x3), (4, .int x4)]) dX4_daysFor_26 (by decide) rfl ?_
      refine g_iconst (v := 0) dX4_daysFor_28 (by decide) ?_
      refine g_istore (ls2 := [(6, .int (0 : Int32)), (5, .int (wSum (mI m (a0 + 3)) x4 6)), (0, .ref a0), (1, .int x1), (2, .int x2), (3, .int x3), (4, .int x4)]) dX4_daysFor_29 (by decide) rfl ?_
      refine g_iload_n 4 dX4_daysFor_31 rfl rfl ?_
      refine g_iconst (v := 0) dX4_daysFor_32 (by decide) ?_
      refine g_mmax dX4_daysFor_33 mmwX4_76 (Nat.le_of_ble_eq_true rfl) ⟨by decide, by decide⟩ ⟨Nat.le_refl _, Nat.le_refl _⟩ ?_
      refine g_istore (ls2 := [(7, .int (if x2 < (0 : Int32) then (0 : Int32) else x2)), (6, .int (0 : Int32)), (5, .int (wSum (mI m (a0 + 3)) x4 6)), (0, .ref a0), (1, .int x1), (2, .int x2), (3, .int x3), (4, .int x4)]) dX4_daysFor_36 (by decide) rfl ?_
      exact g_ls [3, 4, 6, 2, 1, 0] rfl (h2 q1 q3)
    · refine g_iconst (v := 0) dX4_daysFor_18 (by decide) ?_
      exact g_iret dX4_daysFor_19 rfl enSH (h3 q1 q3)
  · refine g_if_eq 18 dX4_daysFor_5 (by decide) (fun q4 => ?_) (fun q4 => absurd q4 (by decide))
    refine g_iconst (v := 0) dX4_daysFor_18 (by decide) ?_
    exact g_iret dX4_daysFor_19 rfl enSH (h4 q1)
theorem bX4_daysFor_38 {X : pX} {Q : Option Value → pMem → Prop} {m : pMem} {a0 : Nat} {x1 : Int32} {x3 : Int32} {x5 : Int32} {x6 : Int32} {x7 : Int32} (hW : Wf m) (c0 : SH[a0]? = some (.inl 4))
    (h1 : x3 ≤ x7 → Q (some (.int x6)) m)
    (h2 : ¬ (x3 ≤ x7) → (8 : Int32) ≤ x7 → Q (some (.int x6)) m)
    (h3 : ¬ (x3 ≤ x7) → ¬ ((8 : Int32) ≤ x7) → vp_in x7 8)
    (h4 : ¬ (x3 ≤ x7) → ¬ ((8 : Int32) ≤ x7) → vp_in x1 4)
    (h5 : ¬ (x3 ≤ x7) → ¬ ((8 : Int32) ≤ x7) → ¬ (mI m (a0 + 2) x1.toNatClampNeg) = 0)
    (h6 : ¬ (x3 ≤ x7) → ¬ ((8 : Int32) ≤ x7) → Go X 1 mX4_daysFor Q 38 [(0, .ref a0), (1, .int x1), (3, .int x3), (5, .int x5), (6, .int (x6 + (((((mI m (a0 + 1) x7.toNatClampNeg) + x5) + (mI m (a0 + 2) x1.toNatClampNeg)) - (1 : Int32)) / (mI m (a0 + 2) x1.toNatClampNeg)))), (7, .int (x7 + (1 : Int32)))] [] m) :
    Go X 1 mX4_daysFor Q 38 [(0, .ref a0), (1, .int x1), (3, .int x3), (5, .int x5), (6, .int x6), (7, .int x7)] [] m := by
  refine g_iload 5 dX4_daysFor_38 rfl ?_
  refine g_iload_n 2 dX4_daysFor_40 rfl rfl ?_
  refine g_icmp_ge 88 dX4_daysFor_41 (by decide) (fun q1 => ?_) (fun q1 => ?_)
  · refine g_iload 4 dX4_daysFor_88 rfl ?_
    exact g_iret dX4_daysFor_90 rfl enSH (h1 q1)
  · refine g_iload 5 dX4_daysFor_44 rfl ?_
    refine g_bipush (v := 8) dX4_daysFor_46 (by decide) ?_
    refine g_icmp_ge 88 dX4_daysFor_48 (by decide) (fun q2 => ?_) (fun q2 => ?_)
    · refine g_iload 4 dX4_daysFor_88 rfl ?_
      exact g_iret dX4_daysFor_90 rfl enSH (h2 q1 q2)
    · refine g_iload 4 dX4_daysFor_51 rfl ?_
      refine g_aload_n 0 dX4_daysFor_53 rfl rfl ?_
      refine g_getR dX4_daysFor_54 fl4_9 rfl c0 (w4_5 hW c0) ?_
      refine g_iload 5 dX4_daysFor_57 rfl ?_
      refine g_iald (j := x7.toNatClampNeg) dX4_daysFor_59 (s4_5 c0) (h3 q1 q2) rfl ?_
      refine g_iload 3 dX4_daysFor_60 rfl ?_
      refine g_iadd dX4_daysFor_62 ?_
      refine g_aload_n 0 dX4_daysFor_63 rfl rfl ?_
      refine g_getR dX4_daysFor_64 fl4_15 rfl c0 (w4_6 hW c0) ?_
      refine g_iload_n 1 dX4_daysFor_67 rfl rfl ?_
      refine g_iald (j := x1.toNatClampNeg) dX4_daysFor_68 (s4_6 c0) (h4 q1 q2) rfl ?_
      refine g_iadd dX4_daysFor_69 ?_
      refine g_iconst (v := 1) dX4_daysFor_70 (by decide) ?_
      refine g_isub dX4_daysFor_71 ?_
      refine g_aload_n 0 dX4_daysFor_72 rfl rfl ?_
      refine g_getR dX4_daysFor_73 fl4_15 rfl c0 (w4_6 hW c0) ?_
      refine g_iload_n 1 dX4_daysFor_76 rfl rfl ?_
      refine g_iald (j := x1.toNatClampNeg) dX4_daysFor_77 (s4_6 c0) (h4 q1 q2) rfl ?_
      refine g_idiv dX4_daysFor_78 (h5 q1 q2) ?_
      refine g_iadd dX4_daysFor_79 ?_
      refine g_istore (ls2 := [(6, .int (x6 + (((((mI m (a0 + 1) x7.toNatClampNeg) + x5) + (mI m (a0 + 2) x1.toNatClampNeg)) - (1 : Int32)) / (mI m (a0 + 2) x1.toNatClampNeg)))), (0, .ref a0), (1, .int x1), (3, .int x3), (5, .int x5), (7, .int x7)]) dX4_daysFor_80 (by decide) rfl ?_
      refine g_iinc (v := x7 + (1 : Int32)) (ls2 := [(7, .int (x7 + (1 : Int32))), (6, .int (x6 + (((((mI m (a0 + 1) x7.toNatClampNeg) + x5) + (mI m (a0 + 2) x1.toNatClampNeg)) - (1 : Int32)) / (mI m (a0 + 2) x1.toNatClampNeg)))), (0, .ref a0), (1, .int x1), (3, .int x3), (5, .int x5)]) 5 dX4_daysFor_82 rfl rfl (by decide) rfl ?_
      refine g_goto 38 dX4_daysFor_85 (by decide) ?_
      exact g_ls [2, 3, 4, 5, 1, 0] rfl (h6 q1 q2)
theorem bX12_isPerson_0 {X : pX} {Q : Option Value → pMem → Prop} {m : pMem} {x1 : Int32} (hW : Wf m)
    (h1 : ¬ x1 < (0 : Int32) ∧ ¬ ((mI m 536 3) - (1 : Int32)) < x1 → Q (some (.int (1 : Int32))) m)
    (h2 : ¬ (¬ x1 < (0 : Int32) ∧ ¬ ((mI m 536 3) - (1 : Int32)) < x1) → Q (some (.int (0 : Int32))) m) :
    Go X 1 mX12_isPerson Q 0 [(0, .ref 535), (1, .int x1)] [] m := by
  refine g_iload_n 1 dX12_isPerson_0 rfl rfl ?_
  refine g_i2l dX12_isPerson_1 ?_
  refine g_lconst (v := 0) dX12_isPerson_2 (by decide) ?_
  refine g_aload_n 0 dX12_isPerson_3 rfl rfl ?_
  refine g_getR dX12_isPerson_4 fl12_9 rfl sh535 (w12_1 hW sh535) ?_
  refine g_iconst (v := 3) dX12_isPerson_7 (by decide) ?_
  refine g_iald (j := 3) dX12_isPerson_8 (s12_1 sh535) (by unfold vp_in; decide) (by decide) ?_
  refine g_iconst (v := 1) dX12_isPerson_9 (by decide) ?_
  refine g_isub dX12_isPerson_10 ?_
  refine g_i2l dX12_isPerson_11 ?_
  refine g_callS (As := [.long x1.toInt64, .long (0 : Int64), .long (((mI m 536 3) - (1 : Int32)).toInt64)]) (st := []) dX12_isPerson_12 clX12_128 rfl rfl (Nat.le_of_ble_eq_true rfl) (rmSH (by decide) (by decide)) (s_in (x := x1) (lo := (0 : Int32)) (hi := ((mI m 536 3) - (1 : Int32))) hW (by first | rfl | decide) (by first | rfl | decide) (by first | rfl | decide) (fun q1 => ?_) (fun q1 => ?_))
  · exact g_bret dX12_isPerson_15 rfl (Or.inr rfl) enSH (h1 q1)
  · exact g_bret dX12_isPerson_15 rfl (Or.inl rfl) enSH (h2 q1)
theorem bX12_isThing_0 {X : pX} {Q : Option Value → pMem → Prop} {m : pMem} {x1 : Int32} (hW : Wf m)
    (h1 : ¬ x1 < (0 : Int32) ∧ ¬ ((mI m 536 4) - (1 : Int32)) < x1 → Q (some (.int (1 : Int32))) m)
    (h2 : ¬ (¬ x1 < (0 : Int32) ∧ ¬ ((mI m 536 4) - (1 : Int32)) < x1) → Q (some (.int (0 : Int32))) m) :
    Go X 1 mX12_isThing Q 0 [(0, .ref 535), (1, .int x1)] [] m := by
  refine g_iload_n 1 dX12_isThing_0 rfl rfl ?_
  refine g_i2l dX12_isThing_1 ?_
  refine g_lconst (v := 0) dX12_isThing_2 (by decide) ?_
  refine g_aload_n 0 dX12_isThing_3 rfl rfl ?_
  refine g_getR dX12_isThing_4 fl12_9 rfl sh535 (w12_1 hW sh535) ?_
  refine g_iconst (v := 4) dX12_isThing_7 (by decide) ?_
  refine g_iald (j := 4) dX12_isThing_8 (s12_1 sh535) (by unfold vp_in; decide) (by decide) ?_
  refine g_iconst (v := 1) dX12_isThing_9 (by decide) ?_
  refine g_isub dX12_isThing_10 ?_
  refine g_i2l dX12_isThing_11 ?_
  refine g_callS (As := [.long x1.toInt64, .long (0 : Int64), .long (((mI m 536 4) - (1 : Int32)).toInt64)]) (st := []) dX12_isThing_12 clX12_128 rfl rfl (Nat.le_of_ble_eq_true rfl) (rmSH (by decide) (by decide)) (s_in (x := x1) (lo := (0 : Int32)) (hi := ((mI m 536 4) - (1 : Int32))) hW (by first | rfl | decide) (by first | rfl | decide) (by first | rfl | decide) (fun q1 => ?_) (fun q1 => ?_))
  · exact g_bret dX12_isThing_15 rfl (Or.inr rfl) enSH (h1 q1)
  · exact g_bret dX12_isThing_15 rfl (Or.inl rfl) enSH (h2 q1)
theorem bX12_weightOf_0 {X : pX} {Q : Option Value → pMem → Prop} {m : pMem} {x1 : Int32} (hW : Wf m)
    (h1 : Go X 1 mX12_weightOf Q 4 [(0, .ref 535), (1, .int x1), (2, .int (0 : Int32)), (3, .int (0 : Int32))] [] m) :
    Go X 1 mX12_weightOf Q 0 [(0, .ref 535), (1, .int x1)] [] m := by
  refine g_iconst (v := 0) dX12_weightOf_0 (by decide) ?_
  refine g_istore_n (ls2 := [(2, .int (0 : Int32)), (0, .ref 535), (1, .int x1)]) dX12_weightOf_1 rfl (by decide) rfl ?_
  refine g_iconst (v := 0) dX12_weightOf_2 (by decide) ?_
  refine g_istore_n (ls2 := [(3, .int (0 : Int32)), (2, .int (0 : Int32)), (0, .ref 535), (1, .int x1)]) dX12_weightOf_3 rfl (by decide) rfl ?_
  exact g_ls [2, 3, 1, 0] rfl h1
theorem bX12_weightOf_4 {X : pX} {Q : Option Value → pMem → Prop} {m : pMem} {x1 : Int32} {x2 : Int32} {x3 : Int32} (hW : Wf m)
    (h1 : (mI m 536 4) ≤ x3 → Q (some (.int x2)) m)
    (h2 : ¬ ((mI m 536 4) ≤ x3) → ((x1 >>> (x3 &&& 31)) &&& (1 : Int32)) = (1 : Int32) → vp_in x3 6)
    (h3 : ¬ ((mI m 536 4) ≤ x3) → ((x1 >>> (x3 &&& 31)) &&& (1 : Int32)) = (1 : Int32) → Go X 1 mX12_weightOf Q 4 [(0, .ref 535), (1, .int x1), (2, .int (x2 + (mI m 542 x3.toNatClampNeg))), (3, .int (x3 + (1 : Int32)))] [] m)
    (h4 : ¬ ((mI m 536 4) ≤ x3) → ¬ (((x1 >>> (x3 &&& 31)) &&& (1 : Int32)) = (1 : Int32)) → Go X 1 mX12_weightOf Q 4 [(0, .ref 535), (1, .int x1), (2, .int (x2 + (0 : Int32))), (3, .int (x3 + (1 : Int32)))] [] m) :
    Go X 1 mX12_weightOf Q 4 [(0, .ref 535), (1, .int x1), (2, .int x2), (3, .int x3)] [] m := by
  refine g_iload_n 3 dX12_weightOf_4 rfl rfl ?_
  refine g_aload_n 0 dX12_weightOf_5 rfl rfl ?_
  refine g_getR dX12_weightOf_6 fl12_9 rfl sh535 (w12_1 hW sh535) ?_
  refine g_iconst (v := 4) dX12_weightOf_9 (by decide) ?_
  refine g_iald (j := 4) dX12_weightOf_10 (s12_1 sh535) (by unfold vp_in; decide) (by decide) ?_
  refine g_icmp_ge 41 dX12_weightOf_11 (by decide) (fun q1 => ?_) (fun q1 => ?_)
  · refine g_iload_n 2 dX12_weightOf_41 rfl rfl ?_
    exact g_iret dX12_weightOf_42 rfl enSH (h1 q1)
  · refine g_iload_n 2 dX12_weightOf_14 rfl rfl ?_
    refine g_iload_n 1 dX12_weightOf_15 rfl rfl ?_
    refine g_iload_n 3 dX12_weightOf_16 rfl rfl ?_
    refine g_callS (As := [.int x1, .int x3]) (st := [.int x2]) dX12_weightOf_17 clX12_332 rfl rfl (Nat.le_of_ble_eq_true rfl) (rmSH (by decide) (by decide)) (s_has hW (fun q2 => ?_) (fun q2 => ?_))
    · refine g_if_eq 32 dX12_weightOf_20 (by decide) (fun q3 => absurd q3 (by decide)) (fun q3 => ?_)
      refine g_aload_n 0 dX12_weightOf_23 rfl rfl ?_
      refine g_getR dX12_weightOf_24 fl12_28 rfl sh535 (w12_7 hW sh535) ?_
      refine g_iload_n 3 dX12_weightOf_27 rfl rfl ?_
      refine g_iald (j := x3.toNatClampNeg) dX12_weightOf_28 (s12_7 sh535) (h2 q1 q2) rfl ?_
      refine g_goto 33 dX12_weightOf_29 (by decide) ?_
      refine g_iadd dX12_weightOf_33 ?_
      refine g_istore_n (ls2 := [(2, .int (x2 + (mI m 542 x3.toNatClampNeg))), (0, .ref 535), (1, .int x1), (3, .int x3)]) dX12_weightOf_34 rfl (by decide) rfl ?_
      refine g_iinc (v := x3 + (1 : Int32)) (ls2 := [(3, .int (x3 + (1 : Int32))), (2, .int (x2 + (mI m 542 x3.toNatClampNeg))), (0, .ref 535), (1, .int x1)]) 3 dX12_weightOf_35 rfl rfl (by decide) rfl ?_
      refine g_goto 4 dX12_weightOf_38 (by decide) ?_
      exact g_ls [2, 3, 1, 0] rfl (h3 q1 q2)
    · refine g_if_eq 32 dX12_weightOf_20 (by decide) (fun q4 => ?_) (fun q4 => absurd q4 (by decide))
      refine g_iconst (v := 0) dX12_weightOf_32 (by decide) ?_
      refine g_iadd dX12_weightOf_33 ?_
      refine g_istore_n (ls2 := [(2, .int (x2 + (0 : Int32))), (0, .ref 535), (1, .int x1), (3, .int x3)]) dX12_weightOf_34 rfl (by decide) rfl ?_
      refine g_iinc (v := x3 + (1 : Int32)) (ls2 := [(3, .int (x3 + (1 : Int32))), (2, .int (x2 + (0 : Int32))), (0, .ref 535), (1, .int x1)]) 3 dX12_weightOf_35 rfl rfl (by decide) rfl ?_
      refine g_goto 4 dX12_weightOf_38 (by decide) ?_
      exact g_ls [2, 3, 1, 0] rfl (h4 q1 q2)
theorem bX12_worthOf_0 {X : pX} {Q : Option Value → pMem → Prop} {m : pMem} {x1 : Int32} (hW : Wf m)
    (h1 : Go X 1 mX12_worthOf Q 4 [(0, .ref 535), (1, .int x1), (2, .int (0 : Int32)), (3, .int (0 : Int32))] [] m) :
    Go X 1 mX12_worthOf Q 0 [(0, .ref 535), (1, .int x1)] [] m := by
  refine g_iconst (v := 0) dX12_worthOf_0 (by decide) ?_
  refine g_istore_n (ls2 := [(2, .int (0 : Int32)), (0, .ref 535), (1, .int x1)]) dX12_worthOf_1 rfl (by decide) rfl ?_
  refine g_iconst (v := 0) dX12_worthOf_2 (by decide) ?_
  refine g_istore_n (ls2 := [(3, .int (0 : Int32)), (2, .int (0 : Int32)), (0, .ref 535), (1, .int x1)]) dX12_worthOf_3 rfl (by decide) rfl ?_
  exact g_ls [2, 3, 1, 0] rfl h1
theorem bX12_worthOf_4 {X : pX} {Q : Option Value → pMem → Prop} {m : pMem} {x1 : Int32} {x2 : Int32} {x3 : Int32} (hW : Wf m)
    (h1 : (mI m 536 4) ≤ x3 → Q (some (.int x2)) m)
    (h2 : ¬ ((mI m 536 4) ≤ x3) → ((x1 >>> (x3 &&& 31)) &&& (1 : Int32)) = (1 : Int32) → vp_in x3 6)
    (h3 : ¬ ((mI m 536 4) ≤ x3) → ((x1 >>> (x3 &&& 31)) &&& (1 : Int32)) = (1 : Int32) → Go X 1 mX12_worthOf Q 4 [(0, .ref 535), (1, .int x1), (2, .int (x2 + (mI m 543 x3.toNatClampNeg))), (3, .int (x3 + (1 : Int32)))] [] m)
    (h4 : ¬ ((mI m 536 4) ≤ x3) → ¬ (((x1 >>> (x3 &&& 31)) &&& (1 : Int32)) = (1 : Int32)) → Go X 1 mX12_worthOf Q 4 [(0, .ref 535), (1, .int x1), (2, .int (x2 + (0 : Int32))), (3, .int (x3 + (1 : Int32)))] [] m) :
    Go X 1 mX12_worthOf Q 4 [(0, .ref 535), (1, .int x1), (2, .int x2), (3, .int x3)] [] m := by
  refine g_iload_n 3 dX12_worthOf_4 rfl rfl ?_
  refine g_aload_n 0 dX12_worthOf_5 rfl rfl ?_
  refine g_getR dX12_worthOf_6 fl12_9 rfl sh535 (w12_1 hW sh535) ?_
  refine g_iconst (v := 4) dX12_worthOf_9 (by decide) ?_
  refine g_iald (j := 4) dX12_worthOf_10 (s12_1 sh535) (by unfold vp_in; decide) (by decide) ?_
  refine g_icmp_ge 41 dX12_worthOf_11 (by decide) (fun q1 => ?_) (fun q1 => ?_)
  · refine g_iload_n 2 dX12_worthOf_41 rfl rfl ?_
    exact g_iret dX12_worthOf_42 rfl enSH (h1 q1)
  · refine g_iload_n 2 dX12_worthOf_14 rfl rfl ?_
    refine g_iload_n 1 dX12_worthOf_15 rfl rfl ?_
    refine g_iload_n 3 dX12_worthOf_16 rfl rfl ?_
    refine g_callS (As := [.int x1, .int x3]) (st := [.int x2]) dX12_worthOf_17 clX12_332 rfl rfl (Nat.le_of_ble_eq_true rfl) (rmSH (by decide) (by decide)) (s_has hW (fun q2 => ?_) (fun q2 => ?_))
    · refine g_if_eq 32 dX12_worthOf_20 (by decide) (fun q3 => absurd q3 (by decide)) (fun q3 => ?_)
      refine g_aload_n 0 dX12_worthOf_23 rfl rfl ?_
      refine g_getR dX12_worthOf_24 fl12_31 rfl sh535 (w12_8 hW sh535) ?_
      refine g_iload_n 3 dX12_worthOf_27 rfl rfl ?_
      refine g_iald (j := x3.toNatClampNeg) dX12_worthOf_28 (s12_8 sh535) (h2 q1 q2) rfl ?_
      refine g_goto 33 dX12_worthOf_29 (by decide) ?_
      refine g_iadd dX12_worthOf_33 ?_
      refine g_istore_n (ls2 := [(2, .int (x2 + (mI m 543 x3.toNatClampNeg))), (0, .ref 535), (1, .int x1), (3, .int x3)]) dX12_worthOf_34 rfl (by decide) rfl ?_
      refine g_iinc (v := x3 + (1 : Int32)) (ls2 := [(3, .int (x3 + (1 : Int32))), (2, .int (x2 + (mI m 543 x3.toNatClampNeg))), (0, .ref 535), (1, .int x1)]) 3 dX12_worthOf_35 rfl rfl (by decide) rfl ?_
      refine g_goto 4 dX12_worthOf_38 (by decide) ?_
      exact g_ls [2, 3, 1, 0] rfl (h3 q1 q2)
    · refine g_if_eq 32 dX12_worthOf_20 (by decide) (fun q4 => ?_) (fun q4 => absurd q4 (by decide))
      refine g_iconst (v := 0) dX12_worthOf_32 (by decide) ?_
      refine g_iadd dX12_worthOf_33 ?_
      refine g_istore_n (ls2 := [(2, .int (x2 + (0 : Int32))), (0, .ref 535), (1, .int x1), (3, .int x3)]) dX12_worthOf_34 rfl (by decide) rfl ?_
      refine g_iinc (v := x3 + (1 : Int32)) (ls2 := [(3, .int (x3 + (1 : Int32))), (2, .int (x2 + (0 : Int32))), (0, .ref 535), (1, .int x1)]) 3 dX12_worthOf_35 rfl rfl (by decide) rfl ?_
      refine g_goto 4 dX12_worthOf_38 (by decide) ?_
      exact g_ls [2, 3, 1, 0] rfl (h4 q1 q2)
theorem bX12_inTown_0 {X : pX} {Q : Option Value → pMem → Prop} {m : pMem} (hW : Wf m)
    (h1 : Go X 1 mX12_inTown Q 4 [(0, .ref 535), (1, .int (0 : Int32)), (2, .int (0 : Int32))] [] m) :
    Go X 1 mX12_inTown Q 0 [(0, .ref 535)] [] m := by
  refine g_iconst (v := 0) dX12_inTown_0 (by decide) ?_
  refine g_istore_n (ls2 := [(1, .int (0 : Int32)), (0, .ref 535)]) dX12_inTown_1 rfl (by decide) rfl ?_
  refine g_iconst (v := 0) dX12_inTown_2 (by decide) ?_
  refine g_istore_n (ls2 := [(2, .int (0 : Int32)), (1, .int (0 : Int32)), (0, .ref 535)]) dX12_inTown_3 rfl (by decide) rfl ?_
  exact g_ls [2, 1, 0] rfl h1
theorem bX12_inTown_4 {X : pX} {Q : Option Value → pMem → Prop} {m : pMem} {x1 : Int32} {x2 : Int32} (hW : Wf m)
    (h1 : (mI m 536 3) ≤ x2 → Q (some (.int x1)) m)
    (h2 : ¬ ((mI m 536 3) ≤ x2) → vp_in x2 4)
    (h3 : ¬ ((mI m 536 3) ≤ x2) → ¬ (mI m 537 x2.toNatClampNeg) = (mI m 536 2) → Go X 1 mX12_inTown Q 4 [(0, .ref 535), (1, .int (x1 ||| (0 : Int32))), (2, .int (x2 + (1 : Int32)))] [] m)
    (h4 : ¬ ((mI m 536 3) ≤ x2) → (mI m 537 x2.toNatClampNeg) = (mI m 536 2) → Go X 1 mX12_inTown Q 4 [(0, .ref 535), (1, .int (x1 ||| ((1 : Int32) <<< (x2 &&& 31)))), (2, .int (x2 + (1 : Int32)))] [] m) :
    Go X 1 mX12_inTown Q 4 [(0, .ref 535), (1, .int x1), (2, .int x2)] [] m := by
  refine g_iload_n 2 dX12_inTown_4 rfl rfl ?_
  refine g_aload_n 0 dX12_inTown_5 rfl rfl ?_
  refine g_getR dX12_inTown_6 fl12_9 rfl sh535 (w12_1 hW sh535) ?_
  refine g_iconst (v := 3) dX12_inTown_9 (by decide) ?_
  refine g_iald (j := 3) dX12_inTown_10 (s12_1 sh535) (by unfold vp_in; decide) (by decide) ?_
  refine g_icmp_ge 43 dX12_inTown_11 (by decide) (fun q1 => ?_) (fun q1 => ?_)
  · refine g_iload_n 1 dX12_inTown_43 rfl rfl ?_
    exact g_iret dX12_inTown_44 rfl enSH (h1 q1)
  · refine g_iload_n 1 dX12_inTown_14 rfl rfl ?_
    refine g_aload_n 0 dX12_inTown_15 rfl rfl ?_
    refine g_getR dX12_inTown_16 fl12_13 rfl sh535 (w12_2 hW sh535) ?_
    refine g_iload_n 2 dX12_inTown_19 rfl rfl ?_
    refine g_iald (j := x2.toNatClampNeg) dX12_inTown_20 (s12_2 sh535) (h2 q1) rfl ?_
    refine g_aload_n 0 dX12_inTown_21 rfl rfl ?_
    refine g_callV (As := []) (st := [.int (mI m 537 x2.toNatClampNeg), .int x1]) dX12_inTown_22 clX12_352 sh535 rfl rfl (Nat.le_of_ble_eq_true rfl) (rmSH (by decide) (by decide)) (s_town hW ?_)
    show Go X 1 mX12_inTown Q 25 [(0, .ref 535), (1, .int x1), (2, .int x2)] [.int (mI m 536 2), .int (mI m 537 x2.toNatClampNeg), .int x1] m
    refine g_icmp_ne 34 dX12_inTown_25 (by decide) (fun q2 => ?_) (fun q2 => ?_)
    · refine g_iconst (v := 0) dX12_inTown_34 (by decide) ?_
      refine g_ior dX12_inTown_35 ?_
      refine g_istore_n (ls2 := [(1, .int (x1 ||| (0 : Int32))), (0, .ref 535), (2, .int x2)]) dX12_inTown_36 rfl (by decide) rfl ?_
      refine g_iinc (v := x2 + (1 : Int32)) (ls2 := [(2, .int (x2 + (1 : Int32))), (1, .int (x1 ||| (0 : Int32))), (0, .ref 535)]) 2 dX12_inTown_37 rfl rfl (by decide) rfl ?_
      refine g_goto 4 dX12_inTown_40 (by decide) ?_
      exact g_ls [2, 1, 0] rfl (h3 q1 q2)
    · refine g_iconst (v := 1) dX12_inTown_28 (by decide) ?_
      refine g_iload_n 2 dX12_inTown_29 rfl rfl ?_
      refine g_ishl dX12_inTown_30 ?_
      refine g_goto 35 dX12_inTown_31 (by decide) ?_
      refine g_ior dX12_inTown_35 ?_
      refine g_istore_n (ls2 := [(1, .int (x1 ||| ((1 : Int32) <<< (x2 &&& 31)))), (0, .ref 535), (2, .int x2)]) dX12_inTown_36 rfl (by decide) rfl ?_
      refine g_iinc (v := x2 + (1 : Int32)) (ls2 := [(2, .int (x2 + (1 : Int32))), (1, .int (x1 ||| ((1 : Int32) <<< (x2 &&& 31)))), (0, .ref 535)]) 2 dX12_inTown_37 rfl rfl (by decide) rfl ?_
      refine g_goto 4 dX12_inTown_40 (by decide) ?_
      exact g_ls [2, 1, 0] rfl (h4 q1 q2)
