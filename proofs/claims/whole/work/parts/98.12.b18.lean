theorem bX3_bestLoad_0 {X : pX} {Q : Option Value → pMem → Prop} {m : pMem} {x1 : Int32} {x2 : Int32} (hW : Wf m)
    (h1 : vp_in x1 4)
    (h2 : Go X 3 mX3_bestLoad Q 30 [(0, .ref 514), (1, .int x1), (2, .int x2), (3, .int ((tAt (mI m 40) x1 6) ||| (tAt (mI m 40) ((10 : Int32) + mI m 38 x1.toNatClampNeg) 6))), (4, .int (-1 : Int32)), (5, .int (0 : Int32)), (6, .int (0 : Int32)), (7, .int (0 : Int32))] [] m) :
    Go X 3 mX3_bestLoad Q 0 [(0, .ref 514), (1, .int x1), (2, .int x2)] [] m := by
  refine g_aload_n 0 dX3_bestLoad_0 rfl rfl ?_
  refine g_getR dX3_bestLoad_1 fl3_15 rfl sh514 (w3_1 hW sh514) ?_
  refine g_iload_n 1 dX3_bestLoad_4 rfl rfl ?_
  refine g_callV (As := [.int x1]) (st := []) dX3_bestLoad_5 clX3_48 sh37 rfl rfl (Nat.le_of_ble_eq_true rfl) (rmSH (by decide) (by decide)) (s_hadBy hW sh37 ?_)
  show Go X 3 mX3_bestLoad Q 8 [(0, .ref 514), (1, .int x1), (2, .int x2)] [.int (tAt (mI m 40) x1 6)] m
  refine g_aload_n 0 dX3_bestLoad_8 rfl rfl ?_
  refine g_getR dX3_bestLoad_9 fl3_15 rfl sh514 (w3_1 hW sh514) ?_
  refine g_iload_n 1 dX3_bestLoad_12 rfl rfl ?_
  refine g_callV (As := [.int x1]) (st := [.int (tAt (mI m 40) x1 6)]) dX3_bestLoad_13 clX3_51 sh37 rfl rfl (Nat.le_of_ble_eq_true rfl) (rmSH (by decide) (by decide)) (s_lyingBy hW sh37 h1 ?_)
  show Go X 3 mX3_bestLoad Q 16 [(0, .ref 514), (1, .int x1), (2, .int x2)] [.int (tAt (mI m 40) ((10 : Int32) + mI m 38 x1.toNatClampNeg) 6), .int (tAt (mI m 40) x1 6)] m
  refine g_ior dX3_bestLoad_16 ?_
  refine g_istore_n (ls2 := [(3, .int ((tAt (mI m 40) x1 6) ||| (tAt (mI m 40) ((10 : Int32) + mI m 38 x1.toNatClampNeg) 6))), (0, .ref 514), (1, .int x1), (2, .int x2)]) dX3_bestLoad_17 rfl (by decide) rfl ?_
  refine g_iconst (v := -1) dX3_bestLoad_18 (by decide) ?_
  refine g_istore (ls2 := [(4, .int (-1 : Int32)), (3, .int ((tAt (mI m 40) x1 6) ||| (tAt (mI m 40) ((10 : Int32) + mI m 38 x1.toNatClampNeg) 6))), (0, .ref 514), (1, .int x1), (2, .int x2)]) dX3_bestLoad_19 (by decide) rfl ?_
  refine g_iconst (v := 0) dX3_bestLoad_21 (by decide) ?_
  refine g_istore (ls2 := [(5, .int (0 : Int32)), (4, .int (-1 : Int32)), (3, .int ((tAt (mI m 40) x1 6) ||| (tAt (mI m 40) ((10 : Int32) + mI m 38 x1.toNatClampNeg) 6))), (0, .ref 514), (1, .int x1), (2, .int x2)]) dX3_bestLoad_22 (by decide) rfl ?_
  refine g_iconst (v := 0) dX3_bestLoad_24 (by decide) ?_
  refine g_istore (ls2 := [(6, .int (0 : Int32)), (5, .int (0 : Int32)), (4, .int (-1 : Int32)), (3, .int ((tAt (mI m 40) x1 6) ||| (tAt (mI m 40) ((10 : Int32) + mI m 38 x1.toNatClampNeg) 6))), (0, .ref 514), (1, .int x1), (2, .int x2)]) dX3_bestLoad_25 (by decide) rfl ?_
  refine g_iconst (v := 0) dX3_bestLoad_27 (by decide) ?_
  refine g_istore (ls2 := [(7, .int (0 : Int32)), (6, .int (0 : Int32)), (5, .int (0 : Int32)), (4, .int (-1 : Int32)), (3, .int ((tAt (mI m 40) x1 6) ||| (tAt (mI m 40) ((10 : Int32) + mI m 38 x1.toNatClampNeg) 6))), (0, .ref 514), (1, .int x1), (2, .int x2)]) dX3_bestLoad_28 (by decide) rfl ?_
  exact g_ls [5, 6, 7, 4, 3, 2, 1, 0] rfl h2
theorem bX3_bestLoad_30 {X : pX} {Q : Option Value → pMem → Prop} {m : pMem} {x1 : Int32} {x2 : Int32} {x3 : Int32} {x4 : Int32} {x5 : Int32} {x6 : Int32} {x7 : Int32} (hW : Wf m)
    (h1 : (((1 : Int32) <<< (mI m 31 4 &&& 31)) - (1 : Int32)) < x7 → Q (some (.int x4)) m)
    (h2 : ¬ ((((1 : Int32) <<< (mI m 31 4 &&& 31)) - (1 : Int32)) < x7) → ¬ (x7 &&& (x3 ^^^ (-1 : Int32))) = 0 → Go X 3 mX3_bestLoad Q 30 [(0, .ref 514), (1, .int x1), (2, .int x2), (3, .int x3), (4, .int x4), (5, .int x5), (6, .int x6), (7, .int (x7 + (1 : Int32)))] [] m)
    (h3 : ¬ ((((1 : Int32) <<< (mI m 31 4 &&& 31)) - (1 : Int32)) < x7) → (x7 &&& (x3 ^^^ (-1 : Int32))) = 0 → vp_in (mI m 31 4) 7)
    (h4 : ¬ ((((1 : Int32) <<< (mI m 31 4 &&& 31)) - (1 : Int32)) < x7) → (x7 &&& (x3 ^^^ (-1 : Int32))) = 0 → ¬ x7 < 0 ∧ ¬ (((1 : Int32) <<< (mI m 31 4 &&& 31)) - (1 : Int32)) < x7 ∧ ¬ mI m 31 1 < pcI x7 → dyOk (mI m 31 3) (mI m 33) x1 (mI m 38 x1.toNatClampNeg) (mI m 31 2))
    (h5 : ¬ ((((1 : Int32) <<< (mI m 31 4 &&& 31)) - (1 : Int32)) < x7) → (x7 &&& (x3 ^^^ (-1 : Int32))) = 0 → ¬ x7 < 0 ∧ ¬ (((1 : Int32) <<< (mI m 31 4 &&& 31)) - (1 : Int32)) < x7 ∧ ¬ mI m 31 1 < pcI x7 → x4 = (-1 : Int32) → Go X 3 mX3_bestLoad Q 107 [(0, .ref 514), (1, .int x1), (2, .int x2), (3, .int x3), (4, .int x4), (5, .int x5), (6, .int x6), (7, .int x7), (8, .int (wSum (mI m 35) x7 6)), (9, .int (dyI (mI m 32) (mI m 33 x1.toNatClampNeg) (wSum (mI m 34) x7 6) (mI m 38 x1.toNatClampNeg) (mI m 31 2)))] [] m)
    (h6 : ¬ ((((1 : Int32) <<< (mI m 31 4 &&& 31)) - (1 : Int32)) < x7) → (x7 &&& (x3 ^^^ (-1 : Int32))) = 0 → ¬ x7 < 0 ∧ ¬ (((1 : Int32) <<< (mI m 31 4 &&& 31)) - (1 : Int32)) < x7 ∧ ¬ mI m 31 1 < pcI x7 → ¬ (x4 = (-1 : Int32)) → x5 < (wSum (mI m 35) x7 6) → Go X 3 mX3_bestLoad Q 107 [(0, .ref 514), (1, .int x1), (2, .int x2), (3, .int x3), (4, .int x4), (5, .int x5), (6, .int x6), (7, .int x7), (8, .int (wSum (mI m 35) x7 6)), (9, .int (dyI (mI m 32) (mI m 33 x1.toNatClampNeg) (wSum (mI m 34) x7 6) (mI m 38 x1.toNatClampNeg) (mI m 31 2)))] [] m)
    (h7 : ¬ ((((1 : Int32) <<< (mI m 31 4 &&& 31)) - (1 : Int32)) < x7) → (x7 &&& (x3 ^^^ (-1 : Int32))) = 0 → ¬ x7 < 0 ∧ ¬ (((1 : Int32) <<< (mI m 31 4 &&& 31)) - (1 : Int32)) < x7 ∧ ¬ mI m 31 1 < pcI x7 → ¬ (x4 = (-1 : Int32)) → ¬ (x5 < (wSum (mI m 35) x7 6)) → ¬ (wSum (mI m 35) x7 6) = x5 → Go X 3 mX3_bestLoad Q 111 [(0, .ref 514), (1, .int x1), (2, .int x2), (3, .int x3), (4, .int x4), (5, .int x5), (6, .int x6), (7, .int x7), (8, .int (wSum (mI m 35) x7 6)), (9, .int (dyI (mI m 32) (mI m 33 x1.toNatClampNeg) (wSum (mI m 34) x7 6) (mI m 38 x1.toNatClampNeg) (mI m 31 2)))] [] m)
    (h8 : ¬ ((((1 : Int32) <<< (mI m 31 4 &&& 31)) - (1 : Int32)) < x7) → (x7 &&& (x3 ^^^ (-1 : Int32))) = 0 → ¬ x7 < 0 ∧ ¬ (((1 : Int32) <<< (mI m 31 4 &&& 31)) - (1 : Int32)) < x7 ∧ ¬ mI m 31 1 < pcI x7 → ¬ (x4 = (-1 : Int32)) → ¬ (x5 < (wSum (mI m 35) x7 6)) → (wSum (mI m 35) x7 6) = x5 → x6 ≤ (dyI (mI m 32) (mI m 33 x1.toNatClampNeg) (wSum (mI m 34) x7 6) (mI m 38 x1.toNatClampNeg) (mI m 31 2)) → Go X 3 mX3_bestLoad Q 111 [(0, .ref 514), (1, .int x1), (2, .int x2), (3, .int x3), (4, .int x4), (5, .int x5), (6, .int x6), (7, .int x7), (8, .int (wSum (mI m 35) x7 6)), (9, .int (dyI (mI m 32) (mI m 33 x1.toNatClampNeg) (wSum (mI m 34) x7 6) (mI m 38 x1.toNatClampNeg) (mI m 31 2)))] [] m)
    (h9 : ¬ ((((1 : Int32) <<< (mI m 31 4 &&& 31)) - (1 : Int32)) < x7) → (x7 &&& (x3 ^^^ (-1 : Int32))) = 0 → ¬ x7 < 0 ∧ ¬ (((1 : Int32) <<< (mI m 31 4 &&& 31)) - (1 : Int32)) < x7 ∧ ¬ mI m 31 1 < pcI x7 → ¬ (x4 = (-1 : Int32)) → ¬ (x5 < (wSum (mI m 35) x7 6)) → (wSum (mI m 35) x7 6) = x5 → ¬ (x6 ≤ (dyI (mI m 32) (mI m 33 x1.toNatClampNeg) (wSum (mI m 34) x7 6) (mI m 38 x1.toNatClampNeg) (mI m 31 2))) → Go X 3 mX3_bestLoad Q 107 [(0, .ref 514), (1, .int x1), (2, .int x2), (3, .int x3), (4, .int x4), (5, .int x5), (6, .int x6), (7, .int x7), (8, .int (wSum (mI m 35) x7 6)), (9, .int (dyI (mI m 32) (mI m 33 x1.toNatClampNeg) (wSum (mI m 34) x7 6) (mI m 38 x1.toNatClampNeg) (mI m 31 2)))] [] m)
    (h10 : ¬ ((((1 : Int32) <<< (mI m 31 4 &&& 31)) - (1 : Int32)) < x7) → (x7 &&& (x3 ^^^ (-1 : Int32))) = 0 → ¬ (¬ x7 < 0 ∧ ¬ (((1 : Int32) <<< (mI m 31 4 &&& 31)) - (1 : Int32)) < x7 ∧ ¬ mI m 31 1 < pcI x7) → Go X 3 mX3_bestLoad Q 30 [(0, .ref 514), (1, .int x1), (2, .int x2), (3, .int x3), (4, .int x4), (5, .int x5), (6, .int x6), (7, .int (x7 + (1 : Int32)))] [] m) :
    Go X 3 mX3_bestLoad Q 30 [(0, .ref 514), (1, .int x1), (2, .int x2), (3, .int x3), (4, .int x4), (5, .int x5), (6, .int x6), (7, .int x7)] [] m := by
  refine g_iload 7 dX3_bestLoad_30 rfl ?_
  refine g_aload_n 0 dX3_bestLoad_32 rfl rfl ?_
  refine g_getR dX3_bestLoad_33 fl3_9 rfl sh514 (w3_0 hW sh514) ?_
  refine g_callV (As := []) (st := [.int x7]) dX3_bestLoad_36 clX3_19 sh31 rfl rfl (Nat.le_of_ble_eq_true rfl) (rmSH (by decide) (by decide)) (s_allThings hW sh31 ?_)
  show Go X 3 mX3_bestLoad Q 39 [(0, .ref 514), (1, .int x1), (2, .int x2), (3, .int x3), (4, .int x4), (5, .int x5), (6, .int x6), (7, .int x7)] [.int (((1 : Int32) <<< (mI m 31 4 &&& 31)) - (1 : Int32)), .int x7] m
  refine g_icmp_gt 143 dX3_bestLoad_39 (by decide) (fun q1 => ?_) (fun q1 => ?_)
  · refine g_iload 4 dX3_bestLoad_143 rfl ?_
    exact g_iret dX3_bestLoad_145 rfl enSH (h1 q1)
  · refine g_iload 7 dX3_bestLoad_42 rfl ?_
    refine g_iload_n 3 dX3_bestLoad_44 rfl rfl ?_
    refine g_iconst (v := -1) dX3_bestLoad_45 (by decide) ?_
    refine g_ixor dX3_bestLoad_46 ?_
    refine g_iand dX3_bestLoad_47 ?_
    refine g_if_ne 137 dX3_bestLoad_48 (by decide) (fun q2 => ?_) (fun q2 => ?_)
    · refine g_iinc (v := x7 + (1 : Int32)) (ls2 := [(7, .int (x7 + (1 : Int32))), (0, .ref 514), (1, .int x1), (2, .int x2), (3, .int x3), (4, .int x4), (5, .int x5), (6, .int x6)]) 7 dX3_bestLoad_137 rfl rfl (by decide) rfl ?_
      refine g_goto 30 dX3_bestLoad_140 (by decide) ?_
      exact g_ls [1, 2, 3, 4, 5, 6, 7, 0] rfl (h2 q1 q2)
    · refine g_aload_n 0 dX3_bestLoad_51 rfl rfl ?_
      refine g_iload 7 dX3_bestLoad_52 rfl ?_
      refine g_callV (As := [.int x7]) (st := []) dX3_bestLoad_54 clX3_54 sh514 rfl rfl (Nat.le_of_ble_eq_true rfl) (rmSH (by decide) (by decide)) (s_canBe hW (h3 q1 q2) (fun q3 => ?_) (fun q3 => ?_))
      · refine g_if_eq 137 dX3_bestLoad_57 (by decide) (fun q4 => absurd q4 (by decide)) (fun q4 => ?_)
        refine g_aload_n 0 dX3_bestLoad_60 rfl rfl ?_
        refine g_getR dX3_bestLoad_61 fl3_9 rfl sh514 (w3_0 hW sh514) ?_
        refine g_iload 7 dX3_bestLoad_64 rfl ?_
        refine g_callV (As := [.int x7]) (st := []) dX3_bestLoad_66 clX3_58 sh31 rfl rfl (Nat.le_of_ble_eq_true rfl) (rmSH (by decide) (by decide)) (s_worthOf hW sh31 ?_)
        show Go X 3 mX3_bestLoad Q 69 [(0, .ref 514), (1, .int x1), (2, .int x2), (3, .int x3), (4, .int x4), (5, .int x5), (6, .int x6), (7, .int x7)] [.int (wSum (mI m 35) x7 6)] m
        refine g_istore (ls2 := [(8, .int (wSum (mI m 35) x7 6)), (0, .ref 514), (1, .int x1), (2, .int x2), (3, .int x3), (4, .int x4), (5, .int x5), (6, .int x6), (7, .int x7)]) dX3_bestLoad_69 (by decide) rfl ?_
        refine g_aload_n 1 dX3_bestLoad_71 rfl rfl ?_
        refine g_iload_n 2 dX3_bestLoad_72 rfl rfl ?_
        refine g_iload 8 dX3_bestLoad_73 rfl ?_
        refine g_callV (As := [.int x1, .int x7]) (st := []) dX3_bestLoad_75 clX3_61 sh514 rfl rfl (Nat.le_of_ble_eq_true rfl) (rmSH (by decide) (by decide)) (s_toTown hW (h4 q1 q2 q3) ?_)
        show Go X 3 mX3_bestLoad Q 78 [(8, .int (wSum (mI m 35) x7 6)), (0, .ref 514), (1, .int x1), (2, .int x2), (3, .int x3), (4, .int x4), (5, .int x5), (6, .int x6), (7, .int x7)] [.int (dyI (mI m 32) (mI m 33 x1.toNatClampNeg) (wSum (mI m 34) x7 6) (mI m 38 x1.toNatClampNeg) (mI m 31 2))] m
        refine g_istore (ls2 := [(9, .int (dyI (mI m 32) (mI m 33 x1.toNatClampNeg) (wSum (mI m 34) x7 6) (mI m 38 x1.toNatClampNeg) (mI m 31 2))), (8, .int (wSum (mI m 35) x7 6)), (0, .ref 514), (1, .int x1), (2, .int x2), (3, .int x3), (4, .int x4), (5, .int x5), (6, .int x6), (7, .int x7)]) dX3_bestLoad_78 (by decide) rfl ?_
        refine g_iload 6 dX3_bestLoad_80 rfl ?_
        refine g_iconst (v := -1) dX3_bestLoad_82 (by decide) ?_
        refine g_icmp_eq 107 dX3_bestLoad_83 (by decide) (fun q5 => ?_) (fun q5 => ?_)
        · exact g_ls [2, 3, 4, 5, 6, 7, 8, 9, 1, 0] rfl (h5 q1 q2 q3 q5)
        · refine g_iload 1 dX3_bestLoad_86 rfl ?_
          refine g_iload 7 dX3_bestLoad_88 rfl ?_
          refine g_icmp_gt 107 dX3_bestLoad_90 (by decide) (fun q6 => ?_) (fun q6 => ?_)
          · exact g_ls [2, 3, 4, 5, 6, 7, 8, 9, 1, 0] rfl (h6 q1 q2 q3 q5 q6)
          · refine g_iload 1 dX3_bestLoad_93 rfl ?_
            refine g_iload 7 dX3_bestLoad_95 rfl ?_
            refine g_icmp_ne 111 dX3_bestLoad_97 (by decide) (fun q7 => ?_) (fun q7 => ?_)
            · exact g_ls [2, 3, 4, 5, 6, 7, 8, 9, 1, 0] rfl (h7 q1 q2 q3 q5 q6 q7)
            · refine g_iload 0 dX3_bestLoad_100 rfl ?_
              refine g_iload 8 dX3_bestLoad_102 rfl ?_
              refine g_icmp_ge 111 dX3_bestLoad_104 (by decide) (fun q8 => ?_) (fun q8 => ?_)
              · exact g_ls [2, 3, 4, 5, 6, 7, 8, 9, 1, 0] rfl (h8 q1 q2 q3 q5 q6 q7 q8)
              · exact g_ls [2, 3, 4, 5, 6, 7, 8, 9, 1, 0] rfl (h9 q1 q2 q3 q5 q6 q7 q8)
      · refine g_if_eq 137 dX3_bestLoad_57 (by decide) (fun q9 => ?_) (fun q9 => absurd q9 (by decide))
        refine g_iinc (v := x7 + (1 : Int32)) (ls2 := [(7, .int (x7 + (1 : Int32))), (0, .ref 514), (1, .int x1), (2, .int x2), (3, .int x3), (4, .int x4), (5, .int x5), (6, .int x6)]) 7 dX3_bestLoad_137 rfl rfl (by decide) rfl ?_
        refine g_goto 30 dX3_bestLoad_140 (by decide) ?_
        exact g_ls [1, 2, 3, 4, 5, 6, 7, 0] rfl (h10 q1 q2 q3)
theorem bX3_bestLoad_107 {X : pX} {Q : Option Value → pMem → Prop} {m : pMem} {x1 : Int32} {x2 : Int32} {x3 : Int32} {x4 : Int32} {x5 : Int32} {x6 : Int32} {x7 : Int32} {x8 : Int32} {x9 : Int32} (hW : Wf m)
    (h1 : Go X 3 mX3_bestLoad Q 112 [(0, .ref 514), (1, .int x1), (2, .int x2), (3, .int x3), (4, .int x4), (5, .int x5), (6, .int x6), (7, .int x7), (8, .int x8), (9, .int x9)] [.int (1 : Int32)] m) :
    Go X 3 mX3_bestLoad Q 107 [(0, .ref 514), (1, .int x1), (2, .int x2), (3, .int x3), (4, .int x4), (5, .int x5), (6, .int x6), (7, .int x7), (8, .int x8), (9, .int x9)] [] m := by
  refine g_iconst (v := 1) dX3_bestLoad_107 (by decide) ?_
  refine g_goto 112 dX3_bestLoad_108 (by decide) ?_
  exact g_ls [0, 1, 2, 3, 4, 5, 6, 7, 8, 9] rfl h1
theorem bX3_bestLoad_111 {X : pX} {Q : Option Value → pMem → Prop} {m : pMem} {x1 : Int32} {x2 : Int32} {x3 : Int32} {x4 : Int32} {x5 : Int32} {x6 : Int32} {x7 : Int32} {x8 : Int32} {x9 : Int32} (hW : Wf m)
    (h1 : Go X 3 mX3_bestLoad Q 112 [(0, .ref 514), (1, .int x1), (2, .int x2), (3, .int x3), (4, .int x4), (5, .int x5), (6, .int x6), (7, .int x7), (8, .int x8), (9, .int x9)] [.int (0 : Int32)] m) :
    Go X 3 mX3_bestLoad Q 111 [(0, .ref 514), (1, .int x1), (2, .int x2), (3, .int x3), (4, .int x4), (5, .int x5), (6, .int x6), (7, .int x7), (8, .int x8), (9, .int x9)] [] m := by
  refine g_iconst (v := 0) dX3_bestLoad_111 (by decide) ?_
  exact g_ls [0, 1, 2, 3, 4, 5, 6, 7, 8, 9] rfl h1
theorem bX3_bestLoad_112 {X : pX} {Q : Option Value → pMem → Prop} {m : pMem} {x1 : Int32} {x2 : Int32} {x3 : Int32} {x4 : Int32} {x5 : Int32} {x6 : Int32} {x7 : Int32} {x8 : Int32} {x9 : Int32} (hW : Wf m)
    (h1 : x2 < x9 → Go X 3 mX3_bestLoad Q 30 [(0, .ref 514), (1, .int x1), (2, .int x2), (3, .int x3), (4, .int x4), (5, .int x5), (6, .int x6), (7, .int (x7 + (1 : Int32)))] [] m)
    (h2 : ¬ (x2 < x9) → Go X 3 mX3_bestLoad Q 30 [(0, .ref 514), (1, .int x1), (2, .int x2), (3, .int x3), (4, .int x7), (5, .int x8), (6, .int x9), (7, .int (x7 + (1 : Int32)))] [] m) :
    Go X 3 mX3_bestLoad Q 112 [(0, .ref 514), (1, .int x1), (2, .int x2), (3, .int x3), (4, .int x4), (5, .int x5), (6, .int x6), (7, .int x7), (8, .int x8), (9, .int x9)] [.int (1 : Int32)] m := by
  refine g_istore (ls2 := [(10, .int (1 : Int32)), (0, .ref 514), (1, .int x1), (2, .int x2), (3, .int x3), (4, .int x4), (5, .int x5), (6, .int x6), (7, .int x7), (8, .int x8), (9, .int x9)]) dX3_bestLoad_112 (by decide) rfl ?_
  refine g_iload 10 dX3_bestLoad_114 rfl ?_
  refine g_iload_n 3 dX3_bestLoad_116 rfl rfl ?_
  refine g_icmp_gt 137 dX3_bestLoad_117 (by decide) (fun q1 => ?_) (fun q1 => ?_)
  · refine g_iinc (v := x7 + (1 : Int32)) (ls2 := [(7, .int (x7 + (1 : Int32))), (10, .int (1 : Int32)), (0, .ref 514), (1, .int x1), (2, .int x2), (3, .int x3), (4, .int x4), (5, .int x5), (6, .int x6), (8, .int x8), (9, .int x9)]) 8 dX3_bestLoad_137 rfl rfl (by decide) rfl ?_
    refine g_goto 30 dX3_bestLoad_140 (by decide) ?_
    exact g_ls [2, 3, 4, 5, 6, 7, 8, 0] rfl (h1 q1)
  · refine g_iload 0 dX3_bestLoad_120 rfl ?_
    refine g_if_eq 137 dX3_bestLoad_122 (by decide) (fun q2 => absurd q2 (by decide)) (fun q2 => ?_)
    refine g_iload 8 dX3_bestLoad_125 rfl ?_
    refine g_istore (ls2 := [(4, .int x7), (10, .int (1 : Int32)), (0, .ref 514), (1, .int x1), (2, .int x2), (3, .int x3), (5, .int x5), (6, .int x6), (7, .int x7), (8, .int x8), (9, .int x9)]) dX3_bestLoad_127 (by decide) rfl ?_
    refine g_iload 9 dX3_bestLoad_129 rfl ?_
    refine g_istore (ls2 := [(5, .int x8), (4, .int x7), (10, .int (1 : Int32)), (0, .ref 514), (1, .int x1), (2, .int x2), (3, .int x3), (6, .int x6), (7, .int x7), (8, .int x8), (9, .int x9)]) dX3_bestLoad_131 (by decide) rfl ?_
    refine g_iload 10 dX3_bestLoad_133 rfl ?_
    refine g_istore (ls2 := [(6, .int x9), (5, .int x8), (4, .int x7), (10, .int (1 : Int32)), (0, .ref 514), (1, .int x1), (2, .int x2), (3, .int x3), (7, .int x7), (8, .int x8), (9, .int x9)]) dX3_bestLoad_135 (by decide) rfl ?_
    refine g_iinc (v := x7 + (1 : Int32)) (ls2 := [(7, .int (x7 + (1 : Int32))), (6, .int x9), (5, .int x8), (4, .int x7), (10, .int (1 : Int32)), (0, .ref 514), (1, .int x1), (2, .int x2), (3, .int x3), (8, .int x8), (9, .int x9)]) 8 dX3_bestLoad_137 rfl rfl (by decide) rfl ?_
    refine g_goto 30 dX3_bestLoad_140 (by decide) ?_
    exact g_ls [5, 6, 7, 8, 3, 2, 1, 0] rfl (h2 q1)
theorem bX3_bestLoad_112v1 {X : pX} {Q : Option Value → pMem → Prop} {m : pMem} {x1 : Int32} {x2 : Int32} {x3 : Int32} {x4 : Int32} {x5 : Int32} {x6 : Int32} {x7 : Int32} {x8 : Int32} {x9 : Int32} (hW : Wf m)
    (h1 : x2 < x9 → Go X 3 mX3_bestLoad Q 30 [(0, .ref 514), (1, .int x1), (2, .int x2), (3, .int x3), (4, .int x4), (5, .int x5), (6, .int x6), (7, .int (x7 + (1 : Int32)))] [] m)
    (h2 : ¬ (x2 < x9) → Go X 3 mX3_bestLoad Q 30 [(0, .ref 514), (1, .int x1), (2, .int x2), (3, .int x3), (4, .int x4), (5, .int x5), (6, .int x6), (7, .int (x7 + (1 : Int32)))] [] m) :
    Go X 3 mX3_bestLoad Q 112 [(0, .ref 514), (1, .int x1), (2, .int x2), (3, .int x3), (4, .int x4), (5, .int x5), (6, .int x6), (7, .int x7), (8, .int x8), (9, .int x9)] [.int (0 : Int32)] m := by
  refine g_istore (ls2 := [(10, .int (0 : Int32)), (0, .ref 514), (1, .int x1), (2, .int x2), (3, .int x3), (4, .int x4), (5, .int x5), (6, .int x6), (7, .int x7), (8, .int x8), (9, .int x9)]) dX3_bestLoad_112 (by decide) rfl ?_
  refine g_iload 10 dX3_bestLoad_114 rfl ?_
  refine g_iload_n 3 dX3_bestLoad_116 rfl rfl ?_
  refine g_icmp_gt 137 dX3_bestLoad_117 (by decide) (fun q1 => ?_) (fun q1 => ?_)
  · refine g_iinc (v := x7 + (1 : Int32)) (ls2 := [(7, .int (x7 + (1 : Int32))), (10, .int (0 : Int32)), (0, .ref 514), (1, .int x1), (2, .int x2), (3, .int x3), (4, .int x4), (5, .int x5), (6, .int x6), (8, .int x8), (9, .int x9)]) 8 dX3_bestLoad_137 rfl rfl (by decide) rfl ?_
    refine g_goto 30 dX3_bestLoad_140 (by decide) ?_
    exact g_ls [2, 3, 4, 5, 6, 7, 8, 0] rfl (h1 q1)
  · refine g_iload 0 dX3_bestLoad_120 rfl ?_
    refine g_if_eq 137 dX3_bestLoad_122 (by decide) (fun q2 => ?_) (fun q2 => absurd q2 (by decide))
    refine g_iinc (v := x7 + (1 : Int32)) (ls2 := [(7, .int (x7 + (1 : Int32))), (10, .int (0 : Int32)), (0, .ref 514), (1, .int x1), (2, .int x2), (3, .int x3), (4, .int x4), (5, .int x5), (6, .int x6), (8, .int x8), (9, .int x9)]) 8 dX3_bestLoad_137 rfl rfl (by decide) rfl ?_
    refine g_goto 30 dX3_bestLoad_140 (by decide) ?_
    exact g_ls [2, 3, 4, 5, 6, 7, 8, 0] rfl (h2 q1)
theorem bX3_thatTook_0 {X : pX} {Q : Option Value → pMem → Prop} {m : pMem} {x1 : Int32} {x2 : Int32} {x3 : Int32} {x4 : Int32} {x5 : Int32} (hW : Wf m)
    (h1 : Go X 2 mX3_thatTook Q 19 [(0, .ref 514), (1, .int x1), (2, .int x2), (3, .int x3), (4, .int x4), (5, .int x5), (6, .int (0 : Int32)), (7, .int (-2 : Int32)), (8, .int (((1 : Int32) <<< (mI m 31 4 &&& 31)) - (1 : Int32))), (9, .int (0 : Int32))] [] m) :
    Go X 2 mX3_thatTook Q 0 [(0, .ref 514), (1, .int x1), (2, .int x2), (3, .int x3), (4, .int x4), (5, .int x5)] [] m := by
  refine g_iconst (v := 0) dX3_thatTook_0 (by decide) ?_
  refine g_istore (ls2 := [(6, .int (0 : Int32)), (0, .ref 514), (1, .int x1), (2, .int x2), (3, .int x3), (4, .int x4), (5, .int x5)]) dX3_thatTook_1 (by decide) rfl ?_
  refine g_bipush (v := -2) dX3_thatTook_3 (by decide) ?_
  refine g_istore (ls2 := [(7, .int (-2 : Int32)), (6, .int (0 : Int32)), (0, .ref 514), (1, .int x1), (2, .int x2), (3, .int x3), (4, .int x4), (5, .int x5)]) dX3_thatTook_5 (by decide) rfl ?_
  refine g_aload_n 2 dX3_thatTook_7 rfl rfl ?_
  refine g_getR dX3_thatTook_8 fl3_9 rfl sh514 (w3_0 hW sh514) ?_
  refine g_callV (As := []) (st := []) dX3_thatTook_11 clX3_19 sh31 rfl rfl (Nat.le_of_ble_eq_true rfl) (rmSH (by decide) (by decide)) (s_allThings hW sh31 ?_)
  show Go X 2 mX3_thatTook Q 14 [(7, .int (-2 : Int32)), (6, .int (0 : Int32)), (0, .ref 514), (1, .int x1), (2, .int x2), (3, .int x3), (4, .int x4), (5, .int x5)] [.int (((1 : Int32) <<< (mI m 31 4 &&& 31)) - (1 : Int32))] m
  refine g_istore (ls2 := [(8, .int (((1 : Int32) <<< (mI m 31 4 &&& 31)) - (1 : Int32))), (7, .int (-2 : Int32)), (6, .int (0 : Int32)), (0, .ref 514), (1, .int x1), (2, .int x2), (3, .int x3), (4, .int x4), (5, .int x5)]) dX3_thatTook_14 (by decide) rfl ?_
  refine g_iconst (v := 0) dX3_thatTook_16 (by decide) ?_
  refine g_istore (ls2 := [(9, .int (0 : Int32)), (8, .int (((1 : Int32) <<< (mI m 31 4 &&& 31)) - (1 : Int32))), (7, .int (-2 : Int32)), (6, .int (0 : Int32)), (0, .ref 514), (1, .int x1), (2, .int x2), (3, .int x3), (4, .int x4), (5, .int x5)]) dX3_thatTook_17 (by decide) rfl ?_
  exact g_ls [4, 5, 6, 7, 8, 9, 3, 2, 1, 0] rfl h1
theorem bX3_thatTook_19 {X : pX} {Q : Option Value → pMem → Prop} {m : pMem} {x1 : Int32} {x2 : Int32} {x3 : Int32} {x4 : Int32} {x5 : Int32} {x6 : Int32} {x7 : Int32} {x8 : Int32} {x9 : Int32} (hW : Wf m)
    (h1 : (((1 : Int32) <<< (mI m 31 4 &&& 31)) - (1 : Int32)) < x9 → ¬ x5 = 0 → ¬ x5 = (1 : Int32) → ¬ x6 = 0 → Q (some (.int x8)) m)
    (h2 : (((1 : Int32) <<< (mI m 31 4 &&& 31)) - (1 : Int32)) < x9 → ¬ x5 = 0 → ¬ x5 = (1 : Int32) → x6 = 0 → Q (some (.int (0 : Int32))) m)
    (h3 : (((1 : Int32) <<< (mI m 31 4 &&& 31)) - (1 : Int32)) < x9 → ¬ x5 = 0 → x5 = (1 : Int32) → Q (some (.int x7)) m)
    (h4 : (((1 : Int32) <<< (mI m 31 4 &&& 31)) - (1 : Int32)) < x9 → x5 = 0 → Q (some (.int x6)) m)
    (h5 : ¬ ((((1 : Int32) <<< (mI m 31 4 &&& 31)) - (1 : Int32)) < x9) → vp_in (mI m 31 4) 7)
    (h6 : ¬ ((((1 : Int32) <<< (mI m 31 4 &&& 31)) - (1 : Int32)) < x9) → ¬ x9 < 0 ∧ ¬ (((1 : Int32) <<< (mI m 31 4 &&& 31)) - (1 : Int32)) < x9 ∧ ¬ mI m 31 1 < pcI x9 → dyOk (mI m 31 3) (mI m 33) x1 x2 x3)
    (h7 : ¬ ((((1 : Int32) <<< (mI m 31 4 &&& 31)) - (1 : Int32)) < x9) → ¬ x9 < 0 ∧ ¬ (((1 : Int32) <<< (mI m 31 4 &&& 31)) - (1 : Int32)) < x9 ∧ ¬ mI m 31 1 < pcI x9 → ¬ (dyI (mI m 32) (mI m 33 x1.toNatClampNeg) (wSum (mI m 34) x9 6) x2 x3) = x4 → Go X 2 mX3_thatTook Q 19 [(0, .ref 514), (1, .int x1), (2, .int x2), (3, .int x3), (4, .int x4), (5, .int x5), (6, .int x6), (7, .int x7), (8, .int x8), (9, .int (x9 + (1 : Int32)))] [] m)
    (h8 : ¬ ((((1 : Int32) <<< (mI m 31 4 &&& 31)) - (1 : Int32)) < x9) → ¬ x9 < 0 ∧ ¬ (((1 : Int32) <<< (mI m 31 4 &&& 31)) - (1 : Int32)) < x9 ∧ ¬ mI m 31 1 < pcI x9 → (dyI (mI m 32) (mI m 33 x1.toNatClampNeg) (wSum (mI m 34) x9 6) x2 x3) = x4 → ¬ x6 = 0 → Go X 2 mX3_thatTook Q 19 [(0, .ref 514), (1, .int x1), (2, .int x2), (3, .int x3), (4, .int x4), (5, .int x5), (6, .int (x6 + (1 : Int32))), (7, .int x7), (8, .int (x8 &&& x9)), (9, .int (x9 + (1 : Int32)))] [] m)
    (h9 : ¬ ((((1 : Int32) <<< (mI m 31 4 &&& 31)) - (1 : Int32)) < x9) → ¬ x9 < 0 ∧ ¬ (((1 : Int32) <<< (mI m 31 4 &&& 31)) - (1 : Int32)) < x9 ∧ ¬ mI m 31 1 < pcI x9 → (dyI (mI m 32) (mI m 33 x1.toNatClampNeg) (wSum (mI m 34) x9 6) x2 x3) = x4 → x6 = 0 → Go X 2 mX3_thatTook Q 19 [(0, .ref 514), (1, .int x1), (2, .int x2), (3, .int x3), (4, .int x4), (5, .int x5), (6, .int (x6 + (1 : Int32))), (7, .int x9), (8, .int (x8 &&& x9)), (9, .int (x9 + (1 : Int32)))] [] m)
    (h10 : ¬ ((((1 : Int32) <<< (mI m 31 4 &&& 31)) - (1 : Int32)) < x9) → ¬ (¬ x9 < 0 ∧ ¬ (((1 : Int32) <<< (mI m 31 4 &&& 31)) - (1 : Int32)) < x9 ∧ ¬ mI m 31 1 < pcI x9) → Go X 2 mX3_thatTook Q 19 [(0, .ref 514), (1, .int x1), (2, .int x2), (3, .int x3), (4, .int x4), (5, .int x5), (6, .int x6), (7, .int x7), (8, .int x8), (9, .int (x9 + (1 : Int32)))] [] m) :
    Go X 2 mX3_thatTook Q 19 [(0, .ref 514), (1, .int x1), (2, .int x2), (3, .int x3), (4, .int x4), (5, .int x5), (6, .int x6), (7, .int x7), (8, .int x8), (9, .int x9)] [] m := by
  refine g_iload 9 dX3_thatTook_19 rfl ?_
  refine g_aload_n 0 dX3_thatTook_21 rfl rfl ?_
  refine g_getR dX3_thatTook_22 fl3_9 rfl sh514 (w3_0 hW sh514) ?_
  refine g_callV (As := []) (st := [.int x9]) dX3_thatTook_25 clX3_19 sh31 rfl rfl (Nat.le_of_ble_eq_true rfl) (rmSH (by decide) (by decide)) (s_allThings hW sh31 ?_)
  show Go X 2 mX3_thatTook Q 28 [(0, .ref 514), (1, .int x1), (2, .int x2), (3, .int x3), (4, .int x4), (5, .int x5), (6, .int x6), (7, .int x7), (8, .int x8), (9, .int x9)] [.int (((1 : Int32) <<< (mI m 31 4 &&& 31)) - (1 : Int32)), .int x9] m
  refine g_icmp_gt 82 dX3_thatTook_28 (by decide) (fun q1 => ?_) (fun q1 => ?_)
  · refine g_iload 5 dX3_thatTook_82 rfl ?_
    refine g_if_ne 90 dX3_thatTook_84 (by decide) (fun q2 => ?_) (fun q2 => ?_)
    · refine g_iload 5 dX3_thatTook_90 rfl ?_
      refine g_iconst (v := 1) dX3_thatTook_92 (by decide) ?_
      refine g_icmp_ne 99 dX3_thatTook_93 (by decide) (fun q3 => ?_) (fun q3 => ?_)
      · refine g_iload 6 dX3_thatTook_99 rfl ?_
        refine g_if_ne 108 dX3_thatTook_101 (by decide) (fun q4 => ?_) (fun q4 => ?_)
        · refine g_iload 8 dX3_thatTook_108 rfl ?_
          exact g_iret dX3_thatTook_110 rfl enSH (h1 q1 q2 q3 q4)
        · refine g_iconst (v := 0) dX3_thatTook_104 (by decide) ?_
          refine g_goto 110 dX3_thatTook_105 (by decide) ?_
          exact g_iret dX3_thatTook_110 rfl enSH (h2 q1 q2 q3 q4)
      · refine g_iload 7 dX3_thatTook_96 rfl ?_
        exact g_iret dX3_thatTook_98 rfl enSH (h3 q1 q2 q3)
    · refine g_iload 6 dX3_thatTook_87 rfl ?_
      exact g_iret dX3_thatTook_89 rfl enSH (h4 q1 q2)
  · refine g_aload_n 0 dX3_thatTook_31 rfl rfl ?_
    refine g_iload 9 dX3_thatTook_32 rfl ?_
    refine g_callV (As := [.int x9]) (st := []) dX3_thatTook_34 clX3_54 sh514 rfl rfl (Nat.le_of_ble_eq_true rfl) (rmSH (by decide) (by decide)) (s_canBe hW (h5 q1) (fun q5 => ?_) (fun q5 => ?_))
    · refine g_if_eq 76 dX3_thatTook_37 (by decide) (fun q6 => absurd q6 (by decide)) (fun q6 => ?_)
      refine g_aload_n 0 dX3_thatTook_40 rfl rfl ?_
      refine g_getR dX3_thatTook_41 fl3_9 rfl sh514 (w3_0 hW sh514) ?_
      refine g_iload_n 1 dX3_thatTook_44 rfl rfl ?_
      refine g_iload_n 2 dX3_thatTook_45 rfl rfl ?_
      refine g_iload_n 3 dX3_thatTook_46 rfl rfl ?_
      refine g_iload 9 dX3_thatTook_47 rfl ?_
      refine g_callV (As := [.int x1, .int x2, .int x3, .int x9]) (st := []) dX3_thatTook_49 clX3_44 sh31 rfl rfl (Nat.le_of_ble_eq_true rfl) (rmSH (by decide) (by decide)) (s_daysFor hW sh31 (h6 q1 q5) ?_)
      show Go X 2 mX3_thatTook Q 52 [(0, .ref 514), (1, .int x1), (2, .int x2), (3, .int x3), (4, .int x4), (5, .int x5), (6, .int x6), (7, .int x7), (8, .int x8), (9, .int x9)] [.int (dyI (mI m 32) (mI m 33 x1.toNatClampNeg) (wSum (mI m 34) x9 6) x2 x3)] m
      refine g_iload 4 dX3_thatTook_52 rfl ?_
      refine g_icmp_ne 76 dX3_thatTook_54 (by decide) (fun q7 => ?_) (fun q7 => ?_)
      · refine g_iinc (v := x9 + (1 : Int32)) (ls2 := [(9, .int (x9 + (1 : Int32))), (0, .ref 514), (1, .int x1), (2, .int x2), (3, .int x3), (4, .int x4), (5, .int x5), (6, .int x6), (7, .int x7), (8, .int x8)]) 9 dX3_thatTook_76 rfl rfl (by decide) rfl ?_
        refine g_goto 19 dX3_thatTook_79 (by decide) ?_
        exact g_ls [1, 2, 3, 4, 5, 6, 7, 8, 9, 0] rfl (h7 q1 q5 q7)
      · refine g_iload 6 dX3_thatTook_57 rfl ?_
        refine g_if_ne 66 dX3_thatTook_59 (by decide) (fun q8 => ?_) (fun q8 => ?_)
        · refine g_iload 8 dX3_thatTook_66 rfl ?_
          refine g_iload 9 dX3_thatTook_68 rfl ?_
          refine g_iand dX3_thatTook_70 ?_
          refine g_istore (ls2 := [(8, .int (x8 &&& x9)), (0, .ref 514), (1, .int x1), (2, .int x2), (3, .int x3), (4, .int x4), (5, .int x5), (6, .int x6), (7, .int x7), (9, .int x9)]) dX3_thatTook_71 (by decide) rfl ?_
          refine g_iinc (v := x6 + (1 : Int32)) (ls2 := [(6, .int (x6 + (1 : Int32))), (8, .int (x8 &&& x9)), (0, .ref 514), (1, .int x1), (2, .int x2), (3, .int x3), (4, .int x4), (5, .int x5), (7, .int x7), (9, .int x9)]) 7 dX3_thatTook_73 rfl rfl (by decide) rfl ?_
          refine g_iinc (v := x9 + (1 : Int32)) (ls2 := [(9, .int (x9 + (1 : Int32))), (6, .int (x6 + (1 : Int32))), (8, .int (x8 &&& x9)), (0, .ref 514), (1, .int x1), (2, .int x2), (3, .int x3), (4, .int x4), (5, .int x5), (7, .int x7)]) 9 dX3_thatTook_76 rfl rfl (by decide) rfl ?_
          refine g_goto 19 dX3_thatTook_79 (by decide) ?_
          exact g_ls [3, 4, 5, 6, 7, 8, 1, 9, 2, 0] rfl (h8 q1 q5 q7 q8)
        · refine g_iload 9 dX3_thatTook_62 rfl ?_
          refine g_istore (ls2 := [(7, .int x9), (0, .ref 514), (1, .int x1), (2, .int x2), (3, .int x3), (4, .int x4), (5, .int x5), (6, .int x6), (8, .int x8), (9, .int x9)]) dX3_thatTook_64 (by decide) rfl ?_
          refine g_iload 8 dX3_thatTook_66 rfl ?_
          refine g_iload 9 dX3_thatTook_68 rfl ?_
          refine g_iand dX3_thatTook_70 ?_
          refine g_istore (ls2 := [(8, .int (x8 &&& x9)), (7, .int x9), (0, .ref 514), (1, .int x1), (2, .int x2), (3, .int x3), (4, .int x4), (5, .int x5), (6, .int x6), (9, .int x9)]) dX3_thatTook_71 (by decide) rfl ?_
          refine g_iinc (v := x6 + (1 : Int32)) (ls2 := [(6, .int (x6 + (1 : Int32))), (8, .int (x8 &&& x9)), (7, .int x9), (0, .ref 514), (1, .int x1), (2, .int x2), (3, .int x3), (4, .int x4), (5, .int x5), (9, .int x9)]) 8 dX3_thatTook_73 rfl rfl (by decide) rfl ?_
          refine g_iinc (v := x9 + (1 : Int32)) (ls2 := [(9, .int (x9 + (1 : Int32))), (6, .int (x6 + (1 : Int32))), (8, .int (x8 &&& x9)), (7, .int x9), (0, .ref 514), (1, .int x1), (2, .int x2), (3, .int x3), (4, .int x4), (5, .int x5)]) 9 dX3_thatTook_76 rfl rfl (by decide) rfl ?_
          refine g_goto 19 dX3_thatTook_79 (by decide) ?_
          exact g_ls [4, 5, 6, 7, 8, 9, 1, 3, 2, 0] rfl (h9 q1 q5 q7 q8)
    · refine g_if_eq 76 dX3_thatTook_37 (by decide) (fun q9 => ?_) (fun q9 => absurd q9 (by decide))
      refine g_iinc (v := x9 + (1 : Int32)) (ls2 := [(9, .int (x9 + (1 : Int32))), (0, .ref 514), (1, .int x1), (2, .int x2), (3, .int x3), (4, .int x4), (5, .int x5), (6, .int x6), (7, .int x7), (8, .int x8)]) 9 dX3_thatTook_76 rfl rfl (by decide) rfl ?_
      refine g_goto 19 dX3_thatTook_79 (by decide) ?_
      exact g_ls [1, 2, 3, 4, 5, 6, 7, 8, 9, 0] rfl (h10 q1 q5)
theorem bX3_daysOfBoth_0 {X : pX} {Q : Option Value → pMem → Prop} {m : pMem} {x1 : Int32} {x2 : Int32} {x3 : Int32} (hW : Wf m)
    (h1 : ¬ x3 = (-1 : Int32) → Go X 3 mX3_daysOfBoth Q 22 [(0, .ref 514), (1, .int x1), (2, .int x2)] [.int (((1 : Int32) <<< ((x3 / (6 : Int32)) &&& 31)) ||| ((1 : Int32) <<< ((x3 - x3 / (6 : Int32) * (6 : Int32)) &&& 31)))] m)
    (h2 : x3 = (-1 : Int32) → Go X 3 mX3_daysOfBoth Q 22 [(0, .ref 514), (1, .int x1), (2, .int x2)] [.int (0 : Int32)] m) :
    Go X 3 mX3_daysOfBoth Q 0 [(0, .ref 514), (1, .int x1), (2, .int x2), (3, .int x3)] [] m := by
  refine g_iload_n 3 dX3_daysOfBoth_0 rfl rfl ?_
  refine g_iconst (v := -1) dX3_daysOfBoth_1 (by decide) ?_
  refine g_icmp_ne 9 dX3_daysOfBoth_2 (by decide) (fun q1 => ?_) (fun q1 => ?_)
  · refine g_iconst (v := 1) dX3_daysOfBoth_9 (by decide) ?_
    refine g_iload_n 3 dX3_daysOfBoth_10 rfl rfl ?_
    refine g_bipush (v := 6) dX3_daysOfBoth_11 (by decide) ?_
    refine g_idiv dX3_daysOfBoth_13 (by decide) ?_
    refine g_ishl dX3_daysOfBoth_14 ?_
    refine g_iconst (v := 1) dX3_daysOfBoth_15 (by decide) ?_
    refine g_iload_n 3 dX3_daysOfBoth_16 rfl rfl ?_
    refine g_bipush (v := 6) dX3_daysOfBoth_17 (by decide) ?_
    refine g_irem dX3_daysOfBoth_19 (by decide) ?_
    refine g_ishl dX3_daysOfBoth_20 ?_
    refine g_ior dX3_daysOfBoth_21 ?_
    exact g_ls [0, 1, 2] rfl (h1 q1)
  · refine g_iconst (v := 0) dX3_daysOfBoth_5 (by decide) ?_
    refine g_goto 22 dX3_daysOfBoth_6 (by decide) ?_
    exact g_ls [0, 1, 2] rfl (h2 q1)
theorem bX3_daysOfBoth_22 {X : pX} {Q : Option Value → pMem → Prop} {m : pMem} {x1 : Int32} {x2 : Int32} {xs0 : Int32} (hW : Wf m)
    (h1 : dyOk (mI m 31 3) (mI m 33) x1 (mI m 38 x1.toNatClampNeg) (mI m 31 2))
    (h2 : dyOk (mI m 31 3) (mI m 33) x2 (mI m 38 x2.toNatClampNeg) (mI m 31 2))
    (h3 : Q (some (.int ((dyI (mI m 32) (mI m 33 x1.toNatClampNeg) (wSum (mI m 34) ((tAt (mI m 40) x1 6) ^^^ xs0) 6) (mI m 38 x1.toNatClampNeg) (mI m 31 2)) + (dyI (mI m 32) (mI m 33 x2.toNatClampNeg) (wSum (mI m 34) ((tAt (mI m 40) x2 6) ^^^ xs0) 6) (mI m 38 x2.toNatClampNeg) (mI m 31 2))))) m) :
    Go X 3 mX3_daysOfBoth Q 22 [(0, .ref 514), (1, .int x1), (2, .int x2)] [.int xs0] m := by
  refine g_istore (ls2 := [(4, .int xs0), (0, .ref 514), (1, .int x1), (2, .int x2)]) dX3_daysOfBoth_22 (by decide) rfl ?_
  refine g_aload_n 1 dX3_daysOfBoth_24 rfl rfl ?_
  refine g_iload_n 2 dX3_daysOfBoth_25 rfl rfl ?_
  refine g_aload_n 1 dX3_daysOfBoth_26 rfl rfl ?_
  refine g_getR dX3_daysOfBoth_27 fl3_15 rfl sh514 (w3_1 hW sh514) ?_
  refine g_iload_n 2 dX3_daysOfBoth_30 rfl rfl ?_
  refine g_callV (As := [.int x1]) (st := [.int x1, .ref 514]) dX3_daysOfBoth_31 clX3_48 sh37 rfl rfl (Nat.le_of_ble_eq_true rfl) (rmSH (by decide) (by decide)) (s_hadBy hW sh37 ?_)
  show Go X 3 mX3_daysOfBoth Q 34 [(4, .int xs0), (0, .ref 514), (1, .int x1), (2, .int x2)] [.int (tAt (mI m 40) x1 6), .int x1, .ref 514] m
  refine g_iload 0 dX3_daysOfBoth_34 rfl ?_
  refine g_ixor dX3_daysOfBoth_36 ?_
  refine g_callV (As := [.int x1, .int ((tAt (mI m 40) x1 6) ^^^ xs0)]) (st := []) dX3_daysOfBoth_37 clX3_61 sh514 rfl rfl (Nat.le_of_ble_eq_true rfl) (rmSH (by decide) (by decide)) (s_toTown hW h1 ?_)
  show Go X 3 mX3_daysOfBoth Q 40 [(4, .int xs0), (0, .ref 514), (1, .int x1), (2, .int x2)] [.int (dyI (mI m 32) (mI m 33 x1.toNatClampNeg) (wSum (mI m 34) ((tAt (mI m 40) x1 6) ^^^ xs0) 6) (mI m 38 x1.toNatClampNeg) (mI m 31 2))] m
  refine g_aload_n 1 dX3_daysOfBoth_40 rfl rfl ?_
  refine g_iload_n 3 dX3_daysOfBoth_41 rfl rfl ?_
  refine g_aload_n 1 dX3_daysOfBoth_42 rfl rfl ?_
  refine g_getR dX3_daysOfBoth_43 fl3_15 rfl sh514 (w3_1 hW sh514) ?_
  refine g_iload_n 3 dX3_daysOfBoth_46 rfl rfl ?_
  refine g_callV (As := [.int x2]) (st := [.int x2, .ref 514, .int (dyI (mI m 32) (mI m 33 x1.toNatClampNeg) (wSum (mI m 34) ((tAt (mI m 40) x1 6) ^^^ xs0) 6) (mI m 38 x1.toNatClampNeg) (mI m 31 2))]) dX3_daysOfBoth_47 clX3_48 sh37 rfl rfl (Nat.le_of_ble_eq_true rfl) (rmSH (by decide) (by decide)) (s_hadBy hW sh37 ?_)
  show Go X 3 mX3_daysOfBoth Q 50 [(4, .int xs0), (0, .ref 514), (1, .int x1), (2, .int x2)] [.int (tAt (mI m 40) x2 6), .int x2, .ref 514, .int (dyI (mI m 32) (mI m 33 x1.toNatClampNeg) (wSum (mI m 34) ((tAt (mI m 40) x1 6) ^^^ xs0) 6) (mI m 38 x1.toNatClampNeg) (mI m 31 2))] m
  refine g_iload 0 dX3_daysOfBoth_50 rfl ?_
  refine g_ixor dX3_daysOfBoth_52 ?_
  refine g_callV (As := [.int x2, .int ((tAt (mI m 40) x2 6) ^^^ xs0)]) (st := [.int (dyI (mI m 32) (mI m 33 x1.toNatClampNeg) (wSum (mI m 34) ((tAt (mI m 40) x1 6) ^^^ xs0) 6) (mI m 38 x1.toNatClampNeg) (mI m 31 2))]) dX3_daysOfBoth_53 clX3_61 sh514 rfl rfl (Nat.le_of_ble_eq_true rfl) (rmSH (by decide) (by decide)) (s_toTown hW h2 ?_)
  show Go X 3 mX3_daysOfBoth Q 56 [(4, .int xs0), (0, .ref 514), (1, .int x1), (2, .int x2)] [.int (dyI (mI m 32) (mI m 33 x2.toNatClampNeg) (wSum (mI m 34) ((tAt (mI m 40) x2 6) ^^^ xs0) 6) (mI m 38 x2.toNatClampNeg) (mI m 31 2)), .int (dyI (mI m 32) (mI m 33 x1.toNatClampNeg) (wSum (mI m 34) ((tAt (mI m 40) x1 6) ^^^ xs0) 6) (mI m 38 x1.toNatClampNeg) (mI m 31 2))] m
  refine g_iadd dX3_daysOfBoth_56 ?_
  exact g_iret dX3_daysOfBoth_57 rfl enSH h3
theorem bX3_daysOfBoth_22v1 {X : pX} {Q : Option Value → pMem → Prop} {m : pMem} {x1 : Int32} {x2 : Int32} (hW : Wf m)
    (h1 : dyOk (mI m 31 3) (mI m 33) x1 (mI m 38 x1.toNatClampNeg) (mI m 31 2))
    (h2 : dyOk (mI m 31 3) (mI m 33) x2 (mI m 38 x2.toNatClampNeg) (mI m 31 2))
    (h3 : Q (some (.int ((dyI (mI m 32) (mI m 33 x1.toNatClampNeg) (wSum (mI m 34) ((tAt (mI m 40) x1 6) ^^^ (0 : Int32)) 6) (mI m 38 x1.toNatClampNeg) (mI m 31 2)) + (dyI (mI m 32) (mI m 33 x2.toNatClampNeg) (wSum (mI m 34) ((tAt (mI m 40) x2 6) ^^^ (0 : Int32)) 6) (mI m 38 x2.toNatClampNeg) (mI m 31 2))))) m) :
    Go X 3 mX3_daysOfBoth Q 22 [(0, .ref 514), (1, .int x1), (2, .int x2)] [.int (0 : Int32)] m := by
  refine g_istore (ls2 := [(4, .int (0 : Int32)), (0, .ref 514), (1, .int x1), (2, .int x2)]) dX3_daysOfBoth_22 (by decide) rfl ?_
  refine g_aload_n 1 dX3_daysOfBoth_24 rfl rfl ?_
  refine g_iload_n 2 dX3_daysOfBoth_25 rfl rfl ?_
  refine g_aload_n 1 dX3_daysOfBoth_26 rfl rfl ?_
  refine g_getR dX3_daysOfBoth_27 fl3_15 rfl sh514 (w3_1 hW sh514) ?_
  refine g_iload_n 2 dX3_daysOfBoth_30 rfl rfl ?_
  refine g_callV (As := [.int x1]) (st := [.int x1, .ref 514]) dX3_daysOfBoth_31 clX3_48 sh37 rfl rfl (Nat.le_of_ble_eq_true rfl) (rmSH (by decide) (by decide)) (s_hadBy hW sh37 ?_)
  show Go X 3 mX3_daysOfBoth Q 34 [(4, .int (0 : Int32)), (0, .ref 514), (1, .int x1), (2, .int x2)] [.int (tAt (mI m 40) x1 6), .int x1, .ref 514] m
  refine g_iload 0 dX3_daysOfBoth_34 rfl ?_
  refine g_ixor dX3_daysOfBoth_36 ?_
  refine g_callV (As := [.int x1, .int ((tAt (mI m 40) x1 6) ^^^ (0 : Int32))]) (st := []) dX3_daysOfBoth_37 clX3_61 sh514 rfl rfl (Nat.le_of_ble_eq_true rfl) (rmSH (by decide) (by decide)) (s_toTown hW h1 ?_)
  show Go X 3 mX3_daysOfBoth Q 40 [(4, .int (0 : Int32)), (0, .ref 514), (1, .int x1), (2, .int x2)] [.int (dyI (mI m 32) (mI m 33 x1.toNatClampNeg) (wSum (mI m 34) ((tAt (mI m 40) x1 6) ^^^ (0 : Int32)) 6) (mI m 38 x1.toNatClampNeg) (mI m 31 2))] m
  refine g_aload_n 1 dX3_daysOfBoth_40 rfl rfl ?_
  refine g_iload_n 3 dX3_daysOfBoth_41 rfl rfl ?_
  refine g_aload_n 1 dX3_daysOfBoth_42 rfl rfl ?_
  refine g_getR dX3_daysOfBoth_43 fl3_15 rfl sh514 (w3_1 hW sh514) ?_
  refine g_iload_n 3 dX3_daysOfBoth_46 rfl rfl ?_
  refine g_callV (As := [.int x2]) (st := [.int x2, .ref 514, .int (dyI (mI m 32) (mI m 33 x1.toNatClampNeg) (wSum (mI m 34) ((tAt (mI m 40) x1 6) ^^^ (0 : Int32)) 6) (mI m 38 x1.toNatClampNeg) (mI m 31 2))]) dX3_daysOfBoth_47 clX3_48 sh37 rfl rfl (Nat.le_of_ble_eq_true rfl) (rmSH (by decide) (by decide)) (s_hadBy hW sh37 ?_)
  show Go X 3 mX3_daysOfBoth Q 50 [(4, .int (0 : Int32)), (0, .ref 514), (1, .int x1), (2, .int x2)] [.int (tAt (mI m 40) x2 6), .int x2, .ref 514, .int (dyI (mI m 32) (mI m 33 x1.toNatClampNeg) (wSum (mI m 34) ((tAt (mI m 40) x1 6) ^^^ (0 : Int32)) 6) (mI m 38 x1.toNatClampNeg) (mI m 31 2))] m
  refine g_iload 0 dX3_daysOfBoth_50 rfl ?_
  refine g_ixor dX3_daysOfBoth_52 ?_
  refine g_callV (As := [.int x2, .int ((tAt (mI m 40) x2 6) ^^^ (0 : Int32))]) (st := [.int (dyI (mI m 32) (mI m 33 x1.toNatClampNeg) (wSum (mI m 34) ((tAt (mI m 40) x1 6) ^^^ (0 : Int32)) 6) (mI m 38 x1.toNatClampNeg) (mI m 31 2))]) dX3_daysOfBoth_53 clX3_61 sh514 rfl rfl (Nat.le_of_ble_eq_true rfl) (rmSH (by decide) (by decide)) (s_toTown hW h2 ?_)
  show Go X 3 mX3_daysOfBoth Q 56 [(4, .int (0 : Int32)), (0, .ref 514), (1, .int x1), (2, .int x2)] [.int (dyI (mI m 32) (mI m 33 x2.toNatClampNeg) (wSum (mI m 34) ((tAt (mI m 40) x2 6) ^^^ (0 : Int32)) 6) (mI m 38 x2.toNatClampNeg) (mI m 31 2)), .int (dyI (mI m 32) (mI m 33 x1.toNatClampNeg) (wSum (mI m 34) ((tAt (mI m 40) x1 6) ^^^ (0 : Int32)) 6) (mI m 38 x1.toNatClampNeg) (mI m 31 2))] m
  refine g_iadd dX3_daysOfBoth_56 ?_
  exact g_iret dX3_daysOfBoth_57 rfl enSH h3
theorem bX3_worthBy_0 {X : pX} {Q : Option Value → pMem → Prop} {m : pMem} {x1 : Int32} (hW : Wf m)
    (h1 : Q (some (.int (wSum (mI m 35) (tAt (mI m 40) x1 6) 6))) m) :
    Go X 2 mX3_worthBy Q 0 [(0, .ref 514), (1, .int x1)] [] m := by
  refine g_aload_n 0 dX3_worthBy_0 rfl rfl ?_
  refine g_getR dX3_worthBy_1 fl3_9 rfl sh514 (w3_0 hW sh514) ?_
  refine g_aload_n 0 dX3_worthBy_4 rfl rfl ?_
  refine g_getR dX3_worthBy_5 fl3_15 rfl sh514 (w3_1 hW sh514) ?_
  refine g_iload_n 1 dX3_worthBy_8 rfl rfl ?_
  refine g_callV (As := [.int x1]) (st := [.ref 31]) dX3_worthBy_9 clX3_48 sh37 rfl rfl (Nat.le_of_ble_eq_true rfl) (rmSH (by decide) (by decide)) (s_hadBy hW sh37 ?_)
  show Go X 2 mX3_worthBy Q 12 [(0, .ref 514), (1, .int x1)] [.int (tAt (mI m 40) x1 6), .ref 31] m
  refine g_callV (As := [.int (tAt (mI m 40) x1 6)]) (st := []) dX3_worthBy_12 clX3_58 sh31 rfl rfl (Nat.le_of_ble_eq_true rfl) (rmSH (by decide) (by decide)) (s_worthOf hW sh31 ?_)
  show Go X 2 mX3_worthBy Q 15 [(0, .ref 514), (1, .int x1)] [.int (wSum (mI m 35) (tAt (mI m 40) x1 6) 6)] m
  exact g_iret dX3_worthBy_15 rfl enSH h1
theorem bX11_far_0 {X : pX} {Q : Option Value → pMem → Prop} {m : pMem} {x1 : Int32} {x2 : Int32} (hW : Wf m)
    (h1 : ((¬ x1 < 0 ∧ ¬ mI m 31 3 ≤ x1 ∧ ¬ (4 : Int32) ≤ x1) ∧ mI m 39 x1.toNatClampNeg = 0) → vp_in (mI m 31 4) 7)
    (h2 : ((¬ x1 < 0 ∧ ¬ mI m 31 3 ≤ x1 ∧ ¬ (4 : Int32) ≤ x1) ∧ mI m 39 x1.toNatClampNeg = 0) → ¬ x2 < 0 ∧ ¬ (((1 : Int32) <<< (mI m 31 4 &&& 31)) - (1 : Int32)) < x2 ∧ ¬ mI m 31 1 < pcI x2 → dyOk (mI m 31 3) (mI m 33) x1 (mI m 38 x1.toNatClampNeg) (mI m 31 2))
    (h3 : ((¬ x1 < 0 ∧ ¬ mI m 31 3 ≤ x1 ∧ ¬ (4 : Int32) ≤ x1) ∧ mI m 39 x1.toNatClampNeg = 0) → ¬ x2 < 0 ∧ ¬ (((1 : Int32) <<< (mI m 31 4 &&& 31)) - (1 : Int32)) < x2 ∧ ¬ mI m 31 1 < pcI x2 → Q (some (.int (dyI (mI m 32) (mI m 33 x1.toNatClampNeg) (wSum (mI m 34) x2 6) (mI m 38 x1.toNatClampNeg) (mI m 31 2)))) m)
    (h4 : ((¬ x1 < 0 ∧ ¬ mI m 31 3 ≤ x1 ∧ ¬ (4 : Int32) ≤ x1) ∧ mI m 39 x1.toNatClampNeg = 0) → ¬ (¬ x2 < 0 ∧ ¬ (((1 : Int32) <<< (mI m 31 4 &&& 31)) - (1 : Int32)) < x2 ∧ ¬ mI m 31 1 < pcI x2) → Q (some (.int (-1 : Int32))) m)
    (h5 : ¬ (((¬ x1 < 0 ∧ ¬ mI m 31 3 ≤ x1 ∧ ¬ (4 : Int32) ≤ x1) ∧ mI m 39 x1.toNatClampNeg = 0)) → Q (some (.int (-1 : Int32))) m) :
    Go X 3 mX11_far Q 0 [(0, .ref 0), (1, .int x1), (2, .int x2)] [] m := by
  refine g_aload_n 0 dX11_far_0 rfl rfl ?_
  refine g_iload_n 1 dX11_far_1 rfl rfl ?_
  refine g_callV (As := [.int x1]) (st := []) dX11_far_2 clX11_233 sh0 rfl rfl (Nat.le_of_ble_eq_true rfl) (rmSH (by decide) (by decide)) (s_cAt hW (fun q1 => ?_) (fun q1 => ?_))
  · refine g_if_eq 19 dX11_far_5 (by decide) (fun q2 => absurd q2 (by decide)) (fun q2 => ?_)
    refine g_aload_n 0 dX11_far_8 rfl rfl ?_
    refine g_getR dX11_far_9 fl11_76 rfl sh0 (w11_9 hW sh0) ?_
    refine g_iload_n 2 dX11_far_12 rfl rfl ?_
    refine g_callV (As := [.int x2]) (st := []) dX11_far_13 clX11_263 sh514 rfl rfl (Nat.le_of_ble_eq_true rfl) (rmSH (by decide) (by decide)) (s_canBe hW (h1 q1) (fun q3 => ?_) (fun q3 => ?_))
    · refine g_if_ne 21 dX11_far_16 (by decide) (fun q4 => ?_) (fun q4 => absurd q4 (by decide))
      refine g_aload_n 0 dX11_far_21 rfl rfl ?_
      refine g_getR dX11_far_22 fl11_76 rfl sh0 (w11_9 hW sh0) ?_
      refine g_iload_n 1 dX11_far_25 rfl rfl ?_
      refine g_iload_n 2 dX11_far_26 rfl rfl ?_
      refine g_callV (As := [.int x1, .int x2]) (st := []) dX11_far_27 clX11_266 sh514 rfl rfl (Nat.le_of_ble_eq_true rfl) (rmSH (by decide) (by decide)) (s_toTown hW (h2 q1 q3) ?_)
      show Go X 3 mX11_far Q 30 [(0, .ref 0), (1, .int x1), (2, .int x2)] [.int (dyI (mI m 32) (mI m 33 x1.toNatClampNeg) (wSum (mI m 34) x2 6) (mI m 38 x1.toNatClampNeg) (mI m 31 2))] m
      exact g_iret dX11_far_30 rfl enSH (h3 q1 q3)
    · refine g_if_ne 21 dX11_far_16 (by decide) (fun q5 => absurd q5 (by decide)) (fun q5 => ?_)
      refine g_iconst (v := -1) dX11_far_19 (by decide) ?_
      exact g_iret dX11_far_20 rfl enSH (h4 q1 q3)
  · refine g_if_eq 19 dX11_far_5 (by decide) (fun q6 => ?_) (fun q6 => absurd q6 (by decide))
    refine g_iconst (v := -1) dX11_far_19 (by decide) ?_
    exact g_iret dX11_far_20 rfl enSH (h5 q1)
theorem bX12_far_0 {X : pX} {Q : Option Value → pMem → Prop} {m : pMem} {x1 : Int32} {x2 : Int32} (hW : Wf m)
    (h1 : vp_in (mI m 536 3) 5)
    (h2 : ((¬ x1 < 0 ∧ ¬ (mI m 536 3 - (1 : Int32)) < x1) ∧ mI m 538 x1.toNatClampNeg = 0) → ¬ x2 < (0 : Int32) ∧ ¬ (((1 : Int32) <<< ((mI m 536 4) &&& 31)) - (1 : Int32)) < x2 → sm64 x2)
    (h3 : ((¬ x1 < 0 ∧ ¬ (mI m 536 3 - (1 : Int32)) < x1) ∧ mI m 538 x1.toNatClampNeg = 0) → ¬ x2 < (0 : Int32) ∧ ¬ (((1 : Int32) <<< ((mI m 536 4) &&& 31)) - (1 : Int32)) < x2 → (pcI x2) ≤ (mI m 536 1) → vp_in (mI m 536 4) 7)
    (h4 : ((¬ x1 < 0 ∧ ¬ (mI m 536 3 - (1 : Int32)) < x1) ∧ mI m 538 x1.toNatClampNeg = 0) → ¬ x2 < (0 : Int32) ∧ ¬ (((1 : Int32) <<< ((mI m 536 4) &&& 31)) - (1 : Int32)) < x2 → (pcI x2) ≤ (mI m 536 1) → dyOkM (mI m 541) x1 (mI m 537 x1.toNatClampNeg) (mI m 536 2))
    (h5 : ((¬ x1 < 0 ∧ ¬ (mI m 536 3 - (1 : Int32)) < x1) ∧ mI m 538 x1.toNatClampNeg = 0) → ¬ x2 < (0 : Int32) ∧ ¬ (((1 : Int32) <<< ((mI m 536 4) &&& 31)) - (1 : Int32)) < x2 → (pcI x2) ≤ (mI m 536 1) → Q (some (.int (dyI (mI m 540) (mI m 541 x1.toNatClampNeg) (wSum (mI m 542) x2 (mI m 536 4).toNatClampNeg) (mI m 537 x1.toNatClampNeg) (mI m 536 2)))) m)
    (h6 : ((¬ x1 < 0 ∧ ¬ (mI m 536 3 - (1 : Int32)) < x1) ∧ mI m 538 x1.toNatClampNeg = 0) → ¬ x2 < (0 : Int32) ∧ ¬ (((1 : Int32) <<< ((mI m 536 4) &&& 31)) - (1 : Int32)) < x2 → ¬ ((pcI x2) ≤ (mI m 536 1)) → Q (some (.int (-1 : Int32))) m)
    (h7 : ((¬ x1 < 0 ∧ ¬ (mI m 536 3 - (1 : Int32)) < x1) ∧ mI m 538 x1.toNatClampNeg = 0) → ¬ (¬ x2 < (0 : Int32) ∧ ¬ (((1 : Int32) <<< ((mI m 536 4) &&& 31)) - (1 : Int32)) < x2) → Q (some (.int (-1 : Int32))) m)
    (h8 : ¬ (((¬ x1 < 0 ∧ ¬ (mI m 536 3 - (1 : Int32)) < x1) ∧ mI m 538 x1.toNatClampNeg = 0)) → Q (some (.int (-1 : Int32))) m) :
    Go X 3 mX12_far Q 0 [(0, .ref 535), (1, .int x1), (2, .int x2)] [] m := by
  refine g_aload_n 0 dX12_far_0 rfl rfl ?_
  refine g_iload_n 1 dX12_far_1 rfl rfl ?_
  refine g_callV (As := [.int x1]) (st := []) dX12_far_2 clX12_395 sh535 rfl rfl (Nat.le_of_ble_eq_true rfl) (rmSH (by decide) (by decide)) (s_mAt hW h1 (fun q1 => ?_) (fun q1 => ?_))
  · refine g_if_eq 41 dX12_far_5 (by decide) (fun q2 => absurd q2 (by decide)) (fun q2 => ?_)
    refine g_iload_n 2 dX12_far_8 rfl rfl ?_
    refine g_i2l dX12_far_9 ?_
    refine g_lconst (v := 0) dX12_far_10 (by decide) ?_
    refine g_iconst (v := 1) dX12_far_11 (by decide) ?_
    refine g_aload_n 0 dX12_far_12 rfl rfl ?_
    refine g_getR dX12_far_13 fl12_9 rfl sh535 (w12_1 hW sh535) ?_
    refine g_iconst (v := 4) dX12_far_16 (by decide) ?_
    refine g_iald (j := 4) dX12_far_17 (s12_1 sh535) (by unfold vp_in; decide) (by decide) ?_
    refine g_ishl dX12_far_18 ?_
    refine g_iconst (v := 1) dX12_far_19 (by decide) ?_
    refine g_isub dX12_far_20 ?_
    refine g_i2l dX12_far_21 ?_
    refine g_callS (As := [.long x2.toInt64, .long (0 : Int64), .long ((((1 : Int32) <<< ((mI m 536 4) &&& 31)) - (1 : Int32)).toInt64)]) (st := []) dX12_far_22 clX12_128 rfl rfl (Nat.le_of_ble_eq_true rfl) (rmSH (by decide) (by decide)) (s_in (x := x2) (lo := (0 : Int32)) (hi := (((1 : Int32) <<< ((mI m 536 4) &&& 31)) - (1 : Int32))) hW (by first | rfl | decide) (by first | rfl | decide) (by first | rfl | decide) (fun q3 => ?_) (fun q3 => ?_))
    · refine g_if_eq 41 dX12_far_25 (by decide) (fun q4 => absurd q4 (by decide)) (fun q4 => ?_)
      refine g_iload_n 2 dX12_far_28 rfl rfl ?_
      refine g_callS (As := [.int x2]) (st := []) dX12_far_29 clX12_355 rfl rfl (Nat.le_of_ble_eq_true rfl) (rmSH (by decide) (by decide)) (s_bits hW (h2 q1 q3) ?_)
      show Go X 3 mX12_far Q 32 [(0, .ref 535), (1, .int x1), (2, .int x2)] [.int (pcI x2)] m
      refine g_aload_n 0 dX12_far_32 rfl rfl ?_
      refine g_getR dX12_far_33 fl12_9 rfl sh535 (w12_1 hW sh535) ?_
      refine g_iconst (v := 1) dX12_far_36 (by decide) ?_
      refine g_iald (j := 1) dX12_far_37 (s12_1 sh535) (by unfold vp_in; decide) (by decide) ?_
      refine g_icmp_le 43 dX12_far_38 (by decide) (fun q5 => ?_) (fun q5 => ?_)
      · refine g_aload_n 0 dX12_far_43 rfl rfl ?_
        refine g_iload_n 1 dX12_far_44 rfl rfl ?_
        refine g_iload_n 2 dX12_far_45 rfl rfl ?_
        refine g_callV (As := [.int x1, .int x2]) (st := []) dX12_far_46 clX12_428 sh535 rfl rfl (Nat.le_of_ble_eq_true rfl) (rmSH (by decide) (by decide)) (s_home hW (h3 q1 q3 q5) (h4 q1 q3 q5) ?_)
        show Go X 3 mX12_far Q 49 [(0, .ref 535), (1, .int x1), (2, .int x2)] [.int (dyI (mI m 540) (mI m 541 x1.toNatClampNeg) (wSum (mI m 542) x2 (mI m 536 4).toNatClampNeg) (mI m 537 x1.toNatClampNeg) (mI m 536 2))] m
        exact g_iret dX12_far_49 rfl enSH (h5 q1 q3 q5)
      · refine g_iconst (v := -1) dX12_far_41 (by decide) ?_
        exact g_iret dX12_far_42 rfl enSH (h6 q1 q3 q5)
    · refine g_if_eq 41 dX12_far_25 (by decide) (fun q6 => ?_) (fun q6 => absurd q6 (by decide))
      refine g_iconst (v := -1) dX12_far_41 (by decide) ?_
      exact g_iret dX12_far_42 rfl enSH (h7 q1 q3)
  · refine g_if_eq 41 dX12_far_5 (by decide) (fun q7 => ?_) (fun q7 => absurd q7 (by decide))
    refine g_iconst (v := -1) dX12_far_41 (by decide) ?_
    exact g_iret dX12_far_42 rfl enSH (h8 q1)
theorem bX12_load_0 {X : pX} {Q : Option Value → pMem → Prop} {m : pMem} {x1 : Int32} {x2 : Int32} {x3 : Int32} (hW : Wf m)
    (h1 : vp_in (mI m 536 3) 5)
    (h2 : ((¬ x1 < 0 ∧ ¬ (mI m 536 3 - (1 : Int32)) < x1) ∧ mI m 538 x1.toNatClampNeg = 0) → ¬ x2 < (1 : Int32) ∧ ¬ (60 : Int32) < x2 → ¬ x3 < (0 : Int32) ∧ ¬ (2 : Int32) < x3 → vp_in (mI m 536 4) 7)
    (h3 : ((¬ x1 < 0 ∧ ¬ (mI m 536 3 - (1 : Int32)) < x1) ∧ mI m 538 x1.toNatClampNeg = 0) → ¬ x2 < (1 : Int32) ∧ ¬ (60 : Int32) < x2 → ¬ x3 < (0 : Int32) ∧ ¬ (2 : Int32) < x3 → vp_in x1 4)
    (h4 : ((¬ x1 < 0 ∧ ¬ (mI m 536 3 - (1 : Int32)) < x1) ∧ mI m 538 x1.toNatClampNeg = 0) → ¬ x2 < (1 : Int32) ∧ ¬ (60 : Int32) < x2 → ¬ x3 < (0 : Int32) ∧ ¬ (2 : Int32) < x3 → Go X 3 mX12_load Q 62 [(0, .ref 535), (1, .int x1), (2, .int x2), (3, .int x3), (4, .int ((tAt (mI m 539) x1 (mI m 536 4).toNatClampNeg) ||| (tAt (mI m 539) ((10 : Int32) + (mI m 537 x1.toNatClampNeg)) (mI m 536 4).toNatClampNeg))), (5, .int (-2 : Int32)), (6, .int (0 : Int32))] [] m)
    (h5 : ((¬ x1 < 0 ∧ ¬ (mI m 536 3 - (1 : Int32)) < x1) ∧ mI m 538 x1.toNatClampNeg = 0) → ¬ x2 < (1 : Int32) ∧ ¬ (60 : Int32) < x2 → ¬ (¬ x3 < (0 : Int32) ∧ ¬ (2 : Int32) < x3) → Q (some (.int (-1 : Int32))) m)
    (h6 : ((¬ x1 < 0 ∧ ¬ (mI m 536 3 - (1 : Int32)) < x1) ∧ mI m 538 x1.toNatClampNeg = 0) → ¬ (¬ x2 < (1 : Int32) ∧ ¬ (60 : Int32) < x2) → Q (some (.int (-1 : Int32))) m)
    (h7 : ¬ (((¬ x1 < 0 ∧ ¬ (mI m 536 3 - (1 : Int32)) < x1) ∧ mI m 538 x1.toNatClampNeg = 0)) → Q (some (.int (-1 : Int32))) m) :
    Go X 3 mX12_load Q 0 [(0, .ref 535), (1, .int x1), (2, .int x2), (3, .int x3)] [] m := by
  refine g_aload_n 0 dX12_load_0 rfl rfl ?_
  refine g_iload_n 1 dX12_load_1 rfl rfl ?_
  refine g_callV (As := [.int x1]) (st := []) dX12_load_2 clX12_395 sh535 rfl rfl (Nat.le_of_ble_eq_true rfl) (rmSH (by decide) (by decide)) (s_mAt hW h1 (fun q1 => ?_) (fun q1 => ?_))
  · refine g_if_eq 32 dX12_load_5 (by decide) (fun q2 => absurd q2 (by decide)) (fun q2 => ?_)
    refine g_iload_n 2 dX12_load_8 rfl rfl ?_
    refine g_i2l dX12_load_9 ?_
    refine g_lconst (v := 1) dX12_load_10 (by decide) ?_
    refine g_ldc2 (v := 60) dX12_load_11 cjX12_431 ?_
    refine g_callS (As := [.long x2.toInt64, .long (1 : Int64), .long (60 : Int64)]) (st := []) dX12_load_14 clX12_128 rfl rfl (Nat.le_of_ble_eq_true rfl) (rmSH (by decide) (by decide)) (s_in (x := x2) (lo := (1 : Int32)) (hi := (60 : Int32)) hW (by first | rfl | decide) (by first | rfl | decide) (by first | rfl | decide) (fun q3 => ?_) (fun q3 => ?_))
    · refine g_if_eq 32 dX12_load_17 (by decide) (fun q4 => absurd q4 (by decide)) (fun q4 => ?_)
      refine g_iload_n 3 dX12_load_20 rfl rfl ?_
      refine g_i2l dX12_load_21 ?_
      refine g_lconst (v := 0) dX12_load_22 (by decide) ?_
      refine g_ldc2 (v := 2) dX12_load_23 cjX12_350 ?_
      refine g_callS (As := [.long x3.toInt64, .long (0 : Int64), .long (2 : Int64)]) (st := []) dX12_load_26 clX12_128 rfl rfl (Nat.le_of_ble_eq_true rfl) (rmSH (by decide) (by decide)) (s_in (x := x3) (lo := (0 : Int32)) (hi := (2 : Int32)) hW (by first | rfl | decide) (by first | rfl | decide) (by first | rfl | decide) (fun q5 => ?_) (fun q5 => ?_))
      · refine g_if_ne 34 dX12_load_29 (by decide) (fun q6 => ?_) (fun q6 => absurd q6 (by decide))
        refine g_aload_n 0 dX12_load_34 rfl rfl ?_
        refine g_iload_n 1 dX12_load_35 rfl rfl ?_
        refine g_callV (As := [.int x1]) (st := []) dX12_load_36 clX12_338 sh535 rfl rfl (Nat.le_of_ble_eq_true rfl) (rmSH (by decide) (by decide)) (s_mThings hW (h2 q1 q3 q5) ?_)
        show Go X 3 mX12_load Q 39 [(0, .ref 535), (1, .int x1), (2, .int x2), (3, .int x3)] [.int (tAt (mI m 539) x1 (mI m 536 4).toNatClampNeg)] m
        refine g_aload_n 0 dX12_load_39 rfl rfl ?_
        refine g_bipush (v := 10) dX12_load_40 (by decide) ?_
        refine g_aload_n 0 dX12_load_42 rfl rfl ?_
        refine g_getR dX12_load_43 fl12_13 rfl sh535 (w12_2 hW sh535) ?_
        refine g_iload_n 1 dX12_load_46 rfl rfl ?_
        refine g_iald (j := x1.toNatClampNeg) dX12_load_47 (s12_2 sh535) (h3 q1 q3 q5) rfl ?_
        refine g_iadd dX12_load_48 ?_
        refine g_callV (As := [.int ((10 : Int32) + (mI m 537 x1.toNatClampNeg))]) (st := [.int (tAt (mI m 539) x1 (mI m 536 4).toNatClampNeg)]) dX12_load_49 clX12_338 sh535 rfl rfl (Nat.le_of_ble_eq_true rfl) (rmSH (by decide) (by decide)) (s_mThings hW (h2 q1 q3 q5) ?_)
        show Go X 3 mX12_load Q 52 [(0, .ref 535), (1, .int x1), (2, .int x2), (3, .int x3)] [.int (tAt (mI m 539) ((10 : Int32) + (mI m 537 x1.toNatClampNeg)) (mI m 536 4).toNatClampNeg), .int (tAt (mI m 539) x1 (mI m 536 4).toNatClampNeg)] m
        refine g_ior dX12_load_52 ?_
        refine g_istore (ls2 := [(4, .int ((tAt (mI m 539) x1 (mI m 536 4).toNatClampNeg) ||| (tAt (mI m 539) ((10 : Int32) + (mI m 537 x1.toNatClampNeg)) (mI m 536 4).toNatClampNeg))), (0, .ref 535), (1, .int x1), (2, .int x2), (3, .int x3)]) dX12_load_53 (by decide) rfl ?_
        refine g_bipush (v := -2) dX12_load_55 (by decide) ?_
        refine g_istore (ls2 := [(5, .int (-2 : Int32)), (4, .int ((tAt (mI m 539) x1 (mI m 536 4).toNatClampNeg) ||| (tAt (mI m 539) ((10 : Int32) + (mI m 537 x1.toNatClampNeg)) (mI m 536 4).toNatClampNeg))), (0, .ref 535), (1, .int x1), (2, .int x2), (3, .int x3)]) dX12_load_57 (by decide) rfl ?_
        refine g_iconst (v := 0) dX12_load_59 (by decide) ?_
        refine g_istore (ls2 := [(6, .int (0 : Int32)), (5, .int (-2 : Int32)), (4, .int ((tAt (mI m 539) x1 (mI m 536 4).toNatClampNeg) ||| (tAt (mI m 539) ((10 : Int32) + (mI m 537 x1.toNatClampNeg)) (mI m 536 4).toNatClampNeg))), (0, .ref 535), (1, .int x1), (2, .int x2), (3, .int x3)]) dX12_load_60 (by decide) rfl ?_
        exact g_ls [3, 4, 5, 6, 2, 1, 0] rfl (h4 q1 q3 q5)
      · refine g_if_ne 34 dX12_load_29 (by decide) (fun q7 => absurd q7 (by decide)) (fun q7 => ?_)
        refine g_iconst (v := -1) dX12_load_32 (by decide) ?_
        exact g_iret dX12_load_33 rfl enSH (h5 q1 q3 q5)
    · refine g_if_eq 32 dX12_load_17 (by decide) (fun q8 => ?_) (fun q8 => absurd q8 (by decide))
      refine g_iconst (v := -1) dX12_load_32 (by decide) ?_
      exact g_iret dX12_load_33 rfl enSH (h6 q1 q3)
  · refine g_if_eq 32 dX12_load_5 (by decide) (fun q9 => ?_) (fun q9 => absurd q9 (by decide))
    refine g_iconst (v := -1) dX12_load_32 (by decide) ?_
    exact g_iret dX12_load_33 rfl enSH (h7 q1)
theorem bX12_load_62 {X : pX} {Q : Option Value → pMem → Prop} {m : pMem} {x1 : Int32} {x2 : Int32} {x3 : Int32} {x4 : Int32} {x5 : Int32} {x6 : Int32} (hW : Wf m)
    (h1 : ((1 : Int32) <<< ((mI m 536 4) &&& 31)) ≤ x6 → x5 = (-2 : Int32) → Q (some (.int x5)) m)
    (h2 : ((1 : Int32) <<< ((mI m 536 4) &&& 31)) ≤ x6 → ¬ (x5 = (-2 : Int32)) → ¬ x3 = 0 → ¬ x3 = (1 : Int32) → vp_in (mI m 536 4) 7)
    (h3 : ((1 : Int32) <<< ((mI m 536 4) &&& 31)) ≤ x6 → ¬ (x5 = (-2 : Int32)) → ¬ x3 = 0 → ¬ x3 = (1 : Int32) → dyOkM (mI m 541) x1 (mI m 537 x1.toNatClampNeg) (mI m 536 2))
    (h4 : ((1 : Int32) <<< ((mI m 536 4) &&& 31)) ≤ x6 → ¬ (x5 = (-2 : Int32)) → ¬ x3 = 0 → ¬ x3 = (1 : Int32) → Q (some (.int (dyI (mI m 540) (mI m 541 x1.toNatClampNeg) (wSum (mI m 542) x5 (mI m 536 4).toNatClampNeg) (mI m 537 x1.toNatClampNeg) (mI m 536 2)))) m)
    (h5 : ((1 : Int32) <<< ((mI m 536 4) &&& 31)) ≤ x6 → ¬ (x5 = (-2 : Int32)) → ¬ x3 = 0 → x3 = (1 : Int32) → vp_in (mI m 536 4) 7)
    (h6 : ((1 : Int32) <<< ((mI m 536 4) &&& 31)) ≤ x6 → ¬ (x5 = (-2 : Int32)) → ¬ x3 = 0 → x3 = (1 : Int32) → Q (some (.int (wSum (mI m 543) x5 (mI m 536 4).toNatClampNeg))) m)
    (h7 : ((1 : Int32) <<< ((mI m 536 4) &&& 31)) ≤ x6 → ¬ (x5 = (-2 : Int32)) → x3 = 0 → Q (some (.int x5)) m)
    (h8 : ¬ (((1 : Int32) <<< ((mI m 536 4) &&& 31)) ≤ x6) → ¬ (x6 &&& (x4 ^^^ (-1 : Int32))) = 0 → Go X 3 mX12_load Q 62 [(0, .ref 535), (1, .int x1), (2, .int x2), (3, .int x3), (4, .int x4), (5, .int x5), (6, .int (x6 + (1 : Int32)))] [] m)
    (h9 : ¬ (((1 : Int32) <<< ((mI m 536 4) &&& 31)) ≤ x6) → (x6 &&& (x4 ^^^ (-1 : Int32))) = 0 → sm64 x6)
    (h10 : ¬ (((1 : Int32) <<< ((mI m 536 4) &&& 31)) ≤ x6) → (x6 &&& (x4 ^^^ (-1 : Int32))) = 0 → (mI m 536 1) < (pcI x6) → Go X 3 mX12_load Q 62 [(0, .ref 535), (1, .int x1), (2, .int x2), (3, .int x3), (4, .int x4), (5, .int x5), (6, .int (x6 + (1 : Int32)))] [] m)
    (h11 : ¬ (((1 : Int32) <<< ((mI m 536 4) &&& 31)) ≤ x6) → (x6 &&& (x4 ^^^ (-1 : Int32))) = 0 → ¬ ((mI m 536 1) < (pcI x6)) → vp_in (mI m 536 4) 7)
    (h12 : ¬ (((1 : Int32) <<< ((mI m 536 4) &&& 31)) ≤ x6) → (x6 &&& (x4 ^^^ (-1 : Int32))) = 0 → ¬ ((mI m 536 1) < (pcI x6)) → dyOkM (mI m 541) x1 (mI m 537 x1.toNatClampNeg) (mI m 536 2))
    (h13 : ¬ (((1 : Int32) <<< ((mI m 536 4) &&& 31)) ≤ x6) → (x6 &&& (x4 ^^^ (-1 : Int32))) = 0 → ¬ ((mI m 536 1) < (pcI x6)) → x2 < (dyI (mI m 540) (mI m 541 x1.toNatClampNeg) (wSum (mI m 542) x6 (mI m 536 4).toNatClampNeg) (mI m 537 x1.toNatClampNeg) (mI m 536 2)) → Go X 3 mX12_load Q 62 [(0, .ref 535), (1, .int x1), (2, .int x2), (3, .int x3), (4, .int x4), (5, .int x5), (6, .int (x6 + (1 : Int32)))] [] m)
    (h14 : ¬ (((1 : Int32) <<< ((mI m 536 4) &&& 31)) ≤ x6) → (x6 &&& (x4 ^^^ (-1 : Int32))) = 0 → ¬ ((mI m 536 1) < (pcI x6)) → ¬ (x2 < (dyI (mI m 540) (mI m 541 x1.toNatClampNeg) (wSum (mI m 542) x6 (mI m 536 4).toNatClampNeg) (mI m 537 x1.toNatClampNeg) (mI m 536 2))) → ¬ x5 = (-2 : Int32) → vp_in (mI m 536 4) 7)
    (h15 : ¬ (((1 : Int32) <<< ((mI m 536 4) &&& 31)) ≤ x6) → (x6 &&& (x4 ^^^ (-1 : Int32))) = 0 → ¬ ((mI m 536 1) < (pcI x6)) → ¬ (x2 < (dyI (mI m 540) (mI m 541 x1.toNatClampNeg) (wSum (mI m 542) x6 (mI m 536 4).toNatClampNeg) (mI m 537 x1.toNatClampNeg) (mI m 536 2))) → ¬ x5 = (-2 : Int32) → Go X 3 mX12_load Q 134 [(0, .ref 535), (1, .int x1), (2, .int x2), (3, .int x3), (4, .int x4), (5, .int x5), (6, .int x6)] [.int ((wSum (mI m 543) x6 (mI m 536 4).toNatClampNeg) - (wSum (mI m 543) x5 (mI m 536 4).toNatClampNeg))] m)
    (h16 : ¬ (((1 : Int32) <<< ((mI m 536 4) &&& 31)) ≤ x6) → (x6 &&& (x4 ^^^ (-1 : Int32))) = 0 → ¬ ((mI m 536 1) < (pcI x6)) → ¬ (x2 < (dyI (mI m 540) (mI m 541 x1.toNatClampNeg) (wSum (mI m 542) x6 (mI m 536 4).toNatClampNeg) (mI m 537 x1.toNatClampNeg) (mI m 536 2))) → x5 = (-2 : Int32) → Go X 3 mX12_load Q 134 [(0, .ref 535), (1, .int x1), (2, .int x2), (3, .int x3), (4, .int x4), (5, .int x5), (6, .int x6)] [.int (1 : Int32)] m) :
    Go X 3 mX12_load Q 62 [(0, .ref 535), (1, .int x1), (2, .int x2), (3, .int x3), (4, .int x4), (5, .int x5), (6, .int x6)] [] m := by
  refine g_iload 6 dX12_load_62 rfl ?_
  refine g_iconst (v := 1) dX12_load_64 (by decide) ?_
  refine g_aload_n 0 dX12_load_65 rfl rfl ?_
  refine g_getR dX12_load_66 fl12_9 rfl sh535 (w12_1 hW sh535) ?_
  refine g_iconst (v := 4) dX12_load_69 (by decide) ?_
  refine g_iald (j := 4) dX12_load_70 (s12_1 sh535) (by unfold vp_in; decide) (by decide) ?_
  refine g_ishl dX12_load_71 ?_
  refine g_icmp_ge 178 dX12_load_72 (by decide) (fun q1 => ?_) (fun q1 => ?_)
  · refine g_iload 5 dX12_load_178 rfl ?_
    refine g_bipush (v := -2) dX12_load_180 (by decide) ?_
    refine g_icmp_eq 189 dX12_load_182 (by decide) (fun q2 => ?_) (fun q2 => ?_)
    · refine g_iload 5 dX12_load_189 rfl ?_
      refine g_goto 215 dX12_load_191 (by decide) ?_
      exact g_iret dX12_load_215 rfl enSH (h1 q1 q2)
    · refine g_iload_n 3 dX12_load_185 rfl rfl ?_
      refine g_if_ne 194 dX12_load_186 (by decide) (fun q3 => ?_) (fun q3 => ?_)
      · refine g_iload_n 3 dX12_load_194 rfl rfl ?_
        refine g_iconst (v := 1) dX12_load_195 (by decide) ?_
        refine g_icmp_ne 208 dX12_load_196 (by decide) (fun q4 => ?_) (fun q4 => ?_)
        · refine g_aload_n 0 dX12_load_208 rfl rfl ?_
          refine g_iload_n 1 dX12_load_209 rfl rfl ?_
          refine g_iload 5 dX12_load_210 rfl ?_
          refine g_callV (As := [.int x1, .int x5]) (st := []) dX12_load_212 clX12_428 sh535 rfl rfl (Nat.le_of_ble_eq_true rfl) (rmSH (by decide) (by decide)) (s_home hW (h2 q1 q2 q3 q4) (h3 q1 q2 q3 q4) ?_)
          show Go X 3 mX12_load Q 215 [(0, .ref 535), (1, .int x1), (2, .int x2), (3, .int x3), (4, .int x4), (5, .int x5), (6, .int x6)] [.int (dyI (mI m 540) (mI m 541 x1.toNatClampNeg) (wSum (mI m 542) x5 (mI m 536 4).toNatClampNeg) (mI m 537 x1.toNatClampNeg) (mI m 536 2))] m
          exact g_iret dX12_load_215 rfl enSH (h4 q1 q2 q3 q4)
        · refine g_aload_n 0 dX12_load_199 rfl rfl ?_
          refine g_iload 5 dX12_load_200 rfl ?_
          refine g_callV (As := [.int x5]) (st := []) dX12_load_202 clX12_344 sh535 rfl rfl (Nat.le_of_ble_eq_true rfl) (rmSH (by decide) (by decide)) (s_mWorth hW (h5 q1 q2 q3 q4) ?_)
          show Go X 3 mX12_load Q 205 [(0, .ref 535), (1, .int x1), (2, .int x2), (3, .int x3), (4, .int x4), (5, .int x5), (6, .int x6)] [.int (wSum (mI m 543) x5 (mI m 536 4).toNatClampNeg)] m
          refine g_goto 215 dX12_load_205 (by decide) ?_
          exact g_iret dX12_load_215 rfl enSH (h6 q1 q2 q3 q4)
      · refine g_iload 5 dX12_load_189 rfl ?_
        refine g_goto 215 dX12_load_191 (by decide) ?_
        exact g_iret dX12_load_215 rfl enSH (h7 q1 q2 q3)
  · refine g_iload 6 dX12_load_75 rfl ?_
    refine g_iload 4 dX12_load_77 rfl ?_
    refine g_iconst (v := -1) dX12_load_79 (by decide) ?_
    refine g_ixor dX12_load_80 ?_
    refine g_iand dX12_load_81 ?_
    refine g_if_ne 172 dX12_load_82 (by decide) (fun q5 => ?_) (fun q5 => ?_)
    · refine g_iinc (v := x6 + (1 : Int32)) (ls2 := [(6, .int (x6 + (1 : Int32))), (0, .ref 535), (1, .int x1), (2, .int x2), (3, .int x3), (4, .int x4), (5, .int x5)]) 6 dX12_load_172 rfl rfl (by decide) rfl ?_
      refine g_goto 62 dX12_load_175 (by decide) ?_
      exact g_ls [1, 2, 3, 4, 5, 6, 0] rfl (h8 q1 q5)
    · refine g_iload 6 dX12_load_85 rfl ?_
      refine g_callS (As := [.int x6]) (st := []) dX12_load_87 clX12_355 rfl rfl (Nat.le_of_ble_eq_true rfl) (rmSH (by decide) (by decide)) (s_bits hW (h9 q1 q5) ?_)
      show Go X 3 mX12_load Q 90 [(0, .ref 535), (1, .int x1), (2, .int x2), (3, .int x3), (4, .int x4), (5, .int x5), (6, .int x6)] [.int (pcI x6)] m
      refine g_aload_n 0 dX12_load_90 rfl rfl ?_
      refine g_getR dX12_load_91 fl12_9 rfl sh535 (w12_1 hW sh535) ?_
      refine g_iconst (v := 1) dX12_load_94 (by decide) ?_
      refine g_iald (j := 1) dX12_load_95 (s12_1 sh535) (by unfold vp_in; decide) (by decide) ?_
      refine g_icmp_gt 172 dX12_load_96 (by decide) (fun q6 => ?_) (fun q6 => ?_)
      · refine g_iinc (v := x6 + (1 : Int32)) (ls2 := [(6, .int (x6 + (1 : Int32))), (0, .ref 535), (1, .int x1), (2, .int x2), (3, .int x3), (4, .int x4), (5, .int x5)]) 6 dX12_load_172 rfl rfl (by decide) rfl ?_
        refine g_goto 62 dX12_load_175 (by decide) ?_
        exact g_ls [1, 2, 3, 4, 5, 6, 0] rfl (h10 q1 q5 q6)
      · refine g_aload_n 0 dX12_load_99 rfl rfl ?_
        refine g_iload_n 1 dX12_load_100 rfl rfl ?_
        refine g_iload 6 dX12_load_101 rfl ?_
        refine g_callV (As := [.int x1, .int x6]) (st := []) dX12_load_103 clX12_428 sh535 rfl rfl (Nat.le_of_ble_eq_true rfl) (rmSH (by decide) (by decide)) (s_home hW (h11 q1 q5 q6) (h12 q1 q5 q6) ?_)
        show Go X 3 mX12_load Q 106 [(0, .ref 535), (1, .int x1), (2, .int x2), (3, .int x3), (4, .int x4), (5, .int x5), (6, .int x6)] [.int (dyI (mI m 540) (mI m 541 x1.toNatClampNeg) (wSum (mI m 542) x6 (mI m 536 4).toNatClampNeg) (mI m 537 x1.toNatClampNeg) (mI m 536 2))] m
        refine g_iload_n 2 dX12_load_106 rfl rfl ?_
        refine g_icmp_gt 172 dX12_load_107 (by decide) (fun q7 => ?_) (fun q7 => ?_)
        · refine g_iinc (v := x6 + (1 : Int32)) (ls2 := [(6, .int (x6 + (1 : Int32))), (0, .ref 535), (1, .int x1), (2, .int x2), (3, .int x3), (4, .int x4), (5, .int x5)]) 6 dX12_load_172 rfl rfl (by decide) rfl ?_
          refine g_goto 62 dX12_load_175 (by decide) ?_
          exact g_ls [1, 2, 3, 4, 5, 6, 0] rfl (h13 q1 q5 q6 q7)
        · refine g_iload 5 dX12_load_110 rfl ?_
          refine g_bipush (v := -2) dX12_load_112 (by decide) ?_
          refine g_icmp_ne 121 dX12_load_114 (by decide) (fun q8 => ?_) (fun q8 => ?_)
          · refine g_aload_n 0 dX12_load_121 rfl rfl ?_
            refine g_iload 6 dX12_load_122 rfl ?_
            refine g_callV (As := [.int x6]) (st := []) dX12_load_124 clX12_344 sh535 rfl rfl (Nat.le_of_ble_eq_true rfl) (rmSH (by decide) (by decide)) (s_mWorth hW (h14 q1 q5 q6 q7 q8) ?_)
            show Go X 3 mX12_load Q 127 [(0, .ref 535), (1, .int x1), (2, .int x2), (3, .int x3), (4, .int x4), (5, .int x5), (6, .int x6)] [.int (wSum (mI m 543) x6 (mI m 536 4).toNatClampNeg)] m
            refine g_aload_n 0 dX12_load_127 rfl rfl ?_
            refine g_iload 5 dX12_load_128 rfl ?_
            refine g_callV (As := [.int x5]) (st := [.int (wSum (mI m 543) x6 (mI m 536 4).toNatClampNeg)]) dX12_load_130 clX12_344 sh535 rfl rfl (Nat.le_of_ble_eq_true rfl) (rmSH (by decide) (by decide)) (s_mWorth hW (h14 q1 q5 q6 q7 q8) ?_)
            show Go X 3 mX12_load Q 133 [(0, .ref 535), (1, .int x1), (2, .int x2), (3, .int x3), (4, .int x4), (5, .int x5), (6, .int x6)] [.int (wSum (mI m 543) x5 (mI m 536 4).toNatClampNeg), .int (wSum (mI m 543) x6 (mI m 536 4).toNatClampNeg)] m
            refine g_isub dX12_load_133 ?_
            exact g_ls [0, 1, 2, 3, 4, 5, 6] rfl (h15 q1 q5 q6 q7 q8)
          · refine g_iconst (v := 1) dX12_load_117 (by decide) ?_
            refine g_goto 134 dX12_load_118 (by decide) ?_
            exact g_ls [0, 1, 2, 3, 4, 5, 6] rfl (h16 q1 q5 q6 q7 q8)
theorem bX12_load_134 {X : pX} {Q : Option Value → pMem → Prop} {m : pMem} {x1 : Int32} {x2 : Int32} {x3 : Int32} {x4 : Int32} {x5 : Int32} {x6 : Int32} {xs0 : Int32} (hW : Wf m)
    (h1 : 0 < xs0 → Go X 3 mX12_load Q 62 [(0, .ref 535), (1, .int x1), (2, .int x2), (3, .int x3), (4, .int x4), (5, .int x6), (6, .int (x6 + (1 : Int32)))] [] m)
    (h2 : ¬ (0 < xs0) → ¬ xs0 = 0 → Go X 3 mX12_load Q 62 [(0, .ref 535), (1, .int x1), (2, .int x2), (3, .int x3), (4, .int x4), (5, .int x5), (6, .int (x6 + (1 : Int32)))] [] m)
    (h3 : ¬ (0 < xs0) → xs0 = 0 → vp_in (mI m 536 4) 7)
    (h4 : ¬ (0 < xs0) → xs0 = 0 → dyOkM (mI m 541) x1 (mI m 537 x1.toNatClampNeg) (mI m 536 2))
    (h5 : ¬ (0 < xs0) → xs0 = 0 → (dyI (mI m 540) (mI m 541 x1.toNatClampNeg) (wSum (mI m 542) x5 (mI m 536 4).toNatClampNeg) (mI m 537 x1.toNatClampNeg) (mI m 536 2)) ≤ (dyI (mI m 540) (mI m 541 x1.toNatClampNeg) (wSum (mI m 542) x6 (mI m 536 4).toNatClampNeg) (mI m 537 x1.toNatClampNeg) (mI m 536 2)) → Go X 3 mX12_load Q 62 [(0, .ref 535), (1, .int x1), (2, .int x2), (3, .int x3), (4, .int x4), (5, .int x5), (6, .int (x6 + (1 : Int32)))] [] m)
    (h6 : ¬ (0 < xs0) → xs0 = 0 → ¬ ((dyI (mI m 540) (mI m 541 x1.toNatClampNeg) (wSum (mI m 542) x5 (mI m 536 4).toNatClampNeg) (mI m 537 x1.toNatClampNeg) (mI m 536 2)) ≤ (dyI (mI m 540) (mI m 541 x1.toNatClampNeg) (wSum (mI m 542) x6 (mI m 536 4).toNatClampNeg) (mI m 537 x1.toNatClampNeg) (mI m 536 2))) → Go X 3 mX12_load Q 62 [(0, .ref 535), (1, .int x1), (2, .int x2), (3, .int x3), (4, .int x4), (5, .int x6), (6, .int (x6 + (1 : Int32)))] [] m) :
    Go X 3 mX12_load Q 134 [(0, .ref 535), (1, .int x1), (2, .int x2), (3, .int x3), (4, .int x4), (5, .int x5), (6, .int x6)] [.int xs0] m := by
  refine g_istore (ls2 := [(7, .int xs0), (0, .ref 535), (1, .int x1), (2, .int x2), (3, .int x3), (4, .int x4), (5, .int x5), (6, .int x6)]) dX12_load_134 (by decide) rfl ?_
  refine g_iload 0 dX12_load_136 rfl ?_
  refine g_if_gt 163 dX12_load_138 (by decide) (fun q1 => ?_) (fun q1 => ?_)
  · refine g_iload 7 dX12_load_163 rfl ?_
    refine g_goto 170 dX12_load_165 (by decide) ?_
    refine g_istore (ls2 := [(5, .int x6), (7, .int xs0), (0, .ref 535), (1, .int x1), (2, .int x2), (3, .int x3), (4, .int x4), (6, .int x6)]) dX12_load_170 (by decide) rfl ?_
    refine g_iinc (v := x6 + (1 : Int32)) (ls2 := [(6, .int (x6 + (1 : Int32))), (5, .int x6), (7, .int xs0), (0, .ref 535), (1, .int x1), (2, .int x2), (3, .int x3), (4, .int x4)]) 7 dX12_load_172 rfl rfl (by decide) rfl ?_
    refine g_goto 62 dX12_load_175 (by decide) ?_
    exact g_ls [3, 4, 5, 6, 7, 1, 0] rfl (h1 q1)
  · refine g_iload 0 dX12_load_141 rfl ?_
    refine g_if_ne 168 dX12_load_143 (by decide) (fun q2 => ?_) (fun q2 => ?_)
    · refine g_iload 6 dX12_load_168 rfl ?_
      refine g_istore (ls2 := [(5, .int x5), (7, .int xs0), (0, .ref 535), (1, .int x1), (2, .int x2), (3, .int x3), (4, .int x4), (6, .int x6)]) dX12_load_170 (by decide) rfl ?_
      refine g_iinc (v := x6 + (1 : Int32)) (ls2 := [(6, .int (x6 + (1 : Int32))), (5, .int x5), (7, .int xs0), (0, .ref 535), (1, .int x1), (2, .int x2), (3, .int x3), (4, .int x4)]) 7 dX12_load_172 rfl rfl (by decide) rfl ?_
      refine g_goto 62 dX12_load_175 (by decide) ?_
      exact g_ls [3, 4, 5, 6, 7, 1, 0] rfl (h2 q1 q2)
    · refine g_aload_n 1 dX12_load_146 rfl rfl ?_
      refine g_iload_n 2 dX12_load_147 rfl rfl ?_
      refine g_iload 7 dX12_load_148 rfl ?_
      refine g_callV (As := [.int x1, .int x6]) (st := []) dX12_load_150 clX12_428 sh535 rfl rfl (Nat.le_of_ble_eq_true rfl) (rmSH (by decide) (by decide)) (s_home hW (h3 q1 q2) (h4 q1 q2) ?_)
      show Go X 3 mX12_load Q 153 [(7, .int xs0), (0, .ref 535), (1, .int x1), (2, .int x2), (3, .int x3), (4, .int x4), (5, .int x5), (6, .int x6)] [.int (dyI (mI m 540) (mI m 541 x1.toNatClampNeg) (wSum (mI m 542) x6 (mI m 536 4).toNatClampNeg) (mI m 537 x1.toNatClampNeg) (mI m 536 2))] m
      refine g_aload_n 1 dX12_load_153 rfl rfl ?_
      refine g_iload_n 2 dX12_load_154 rfl rfl ?_
      refine g_iload 6 dX12_load_155 rfl ?_
      refine g_callV (As := [.int x1, .int x5]) (st := [.int (dyI (mI m 540) (mI m 541 x1.toNatClampNeg) (wSum (mI m 542) x6 (mI m 536 4).toNatClampNeg) (mI m 537 x1.toNatClampNeg) (mI m 536 2))]) dX12_load_157 clX12_428 sh535 rfl rfl (Nat.le_of_ble_eq_true rfl) (rmSH (by decide) (by decide)) (s_home hW (h3 q1 q2) (h4 q1 q2) ?_)
      show Go X 3 mX12_load Q 160 [(7, .int xs0), (0, .ref 535), (1, .int x1), (2, .int x2), (3, .int x3), (4, .int x4), (5, .int x5), (6, .int x6)] [.int (dyI (mI m 540) (mI m 541 x1.toNatClampNeg) (wSum (mI m 542) x5 (mI m 536 4).toNatClampNeg) (mI m 537 x1.toNatClampNeg) (mI m 536 2)), .int (dyI (mI m 540) (mI m 541 x1.toNatClampNeg) (wSum (mI m 542) x6 (mI m 536 4).toNatClampNeg) (mI m 537 x1.toNatClampNeg) (mI m 536 2))] m
      refine g_icmp_ge 168 dX12_load_160 (by decide) (fun q3 => ?_) (fun q3 => ?_)
      · refine g_iload 6 dX12_load_168 rfl ?_
        refine g_istore (ls2 := [(5, .int x5), (7, .int xs0), (0, .ref 535), (1, .int x1), (2, .int x2), (3, .int x3), (4, .int x4), (6, .int x6)]) dX12_load_170 (by decide) rfl ?_
        refine g_iinc (v := x6 + (1 : Int32)) (ls2 := [(6, .int (x6 + (1 : Int32))), (5, .int x5), (7, .int xs0), (0, .ref 535), (1, .int x1), (2, .int x2), (3, .int x3), (4, .int x4)]) 7 dX12_load_172 rfl rfl (by decide) rfl ?_
        refine g_goto 62 dX12_load_175 (by decide) ?_
        exact g_ls [3, 4, 5, 6, 7, 1, 0] rfl (h5 q1 q2 q3)
      · refine g_iload 7 dX12_load_163 rfl ?_
        refine g_goto 170 dX12_load_165 (by decide) ?_
        refine g_istore (ls2 := [(5, .int x6), (7, .int xs0), (0, .ref 535), (1, .int x1), (2, .int x2), (3, .int x3), (4, .int x4), (6, .int x6)]) dX12_load_170 (by decide) rfl ?_
        refine g_iinc (v := x6 + (1 : Int32)) (ls2 := [(6, .int (x6 + (1 : Int32))), (5, .int x6), (7, .int xs0), (0, .ref 535), (1, .int x1), (2, .int x2), (3, .int x3), (4, .int x4)]) 7 dX12_load_172 rfl rfl (by decide) rfl ?_
        refine g_goto 62 dX12_load_175 (by decide) ?_
        exact g_ls [3, 4, 5, 6, 7, 1, 0] rfl (h6 q1 q2 q3)
theorem bX12_load_134v1 {X : pX} {Q : Option Value → pMem → Prop} {m : pMem} {x1 : Int32} {x2 : Int32} {x3 : Int32} {x4 : Int32} {x5 : Int32} {x6 : Int32} (hW : Wf m)
    (h1 : Go X 3 mX12_load Q 62 [(0, .ref 535), (1, .int x1), (2, .int x2), (3, .int x3), (4, .int x4), (5, .int x6), (6, .int (x6 + (1 : Int32)))] [] m) :
    Go X 3 mX12_load Q 134 [(0, .ref 535), (1, .int x1), (2, .int x2), (3, .int x3), (4, .int x4), (5, .int x5), (6, .int x6)] [.int (1 : Int32)] m := by
  refine g_istore (ls2 := [(7, .int (1 : Int32)), (0, .ref 535), (1, .int x1), (2, .int x2), (3, .int x3), (4, .int x4), (5, .int x5), (6, .int x6)]) dX12_load_134 (by decide) rfl ?_
  refine g_iload 0 dX12_load_136 rfl ?_
  refine g_if_gt 163 dX12_load_138 (by decide) (fun q1 => ?_) (fun q1 => absurd q1 (by decide))
  refine g_iload 7 dX12_load_163 rfl ?_
  refine g_goto 170 dX12_load_165 (by decide) ?_
  refine g_istore (ls2 := [(5, .int x6), (7, .int (1 : Int32)), (0, .ref 535), (1, .int x1), (2, .int x2), (3, .int x3), (4, .int x4), (6, .int x6)]) dX12_load_170 (by decide) rfl ?_
  refine g_iinc (v := x6 + (1 : Int32)) (ls2 := [(6, .int (x6 + (1 : Int32))), (5, .int x6), (7, .int (1 : Int32)), (0, .ref 535), (1, .int x1), (2, .int x2), (3, .int x3), (4, .int x4)]) 7 dX12_load_172 rfl rfl (by decide) rfl ?_
  refine g_goto 62 dX12_load_175 (by decide) ?_
  exact g_ls [3, 4, 5, 6, 7, 1, 0] rfl h1
theorem bX12_had_0 {X : pX} {Q : Option Value → pMem → Prop} {m : pMem} {x1 : Int32} {x2 : Int32} {x3 : Int32} {x4 : Int32} {x5 : Int32} (hW : Wf m)
    (h1 : ¬ x1 < 0 ∧ ¬ (mI m 536 3 - (1 : Int32)) < x1 → x2 < 0 → Q (some (.int (-3 : Int32))) m)
    (h2 : ¬ x1 < 0 ∧ ¬ (mI m 536 3 - (1 : Int32)) < x1 → ¬ (x2 < 0) → (mI m 536 2) < x3 → Q (some (.int (-3 : Int32))) m)
    (h3 : ¬ x1 < 0 ∧ ¬ (mI m 536 3 - (1 : Int32)) < x1 → ¬ (x2 < 0) → ¬ ((mI m 536 2) < x3) → x3 ≤ x2 → Q (some (.int (-3 : Int32))) m)
    (h4 : ¬ x1 < 0 ∧ ¬ (mI m 536 3 - (1 : Int32)) < x1 → ¬ (x2 < 0) → ¬ ((mI m 536 2) < x3) → ¬ (x3 ≤ x2) → ¬ x4 < (1 : Int32) ∧ ¬ (100 : Int32) < x4 → ¬ x5 < (0 : Int32) ∧ ¬ (2 : Int32) < x5 → Go X 2 mX12_had Q 67 [(0, .ref 535), (1, .int x1), (2, .int x2), (3, .int x3), (4, .int x4), (5, .int x5), (6, .int (0 : Int32)), (7, .int (-2 : Int32)), (8, .int (0 : Int32)), (9, .int (0 : Int32))] [] m)
    (h5 : ¬ x1 < 0 ∧ ¬ (mI m 536 3 - (1 : Int32)) < x1 → ¬ (x2 < 0) → ¬ ((mI m 536 2) < x3) → ¬ (x3 ≤ x2) → ¬ x4 < (1 : Int32) ∧ ¬ (100 : Int32) < x4 → ¬ (¬ x5 < (0 : Int32) ∧ ¬ (2 : Int32) < x5) → Q (some (.int (-3 : Int32))) m)
    (h6 : ¬ x1 < 0 ∧ ¬ (mI m 536 3 - (1 : Int32)) < x1 → ¬ (x2 < 0) → ¬ ((mI m 536 2) < x3) → ¬ (x3 ≤ x2) → ¬ (¬ x4 < (1 : Int32) ∧ ¬ (100 : Int32) < x4) → Q (some (.int (-3 : Int32))) m)
    (h7 : ¬ (¬ x1 < 0 ∧ ¬ (mI m 536 3 - (1 : Int32)) < x1) → Q (some (.int (-3 : Int32))) m) :
    Go X 2 mX12_had Q 0 [(0, .ref 535), (1, .int x1), (2, .int x2), (3, .int x3), (4, .int x4), (5, .int x5)] [] m := by
  refine g_aload_n 0 dX12_had_0 rfl rfl ?_
  refine g_iload_n 1 dX12_had_1 rfl rfl ?_
  refine g_callV (As := [.int x1]) (st := []) dX12_had_2 clX12_334 sh535 rfl rfl (Nat.le_of_ble_eq_true rfl) (rmSH (by decide) (by decide)) (s_mPerson hW (fun q1 => ?_) (fun q1 => ?_))
  · refine g_if_eq 51 dX12_had_5 (by decide) (fun q2 => absurd q2 (by decide)) (fun q2 => ?_)
    refine g_iload_n 2 dX12_had_8 rfl rfl ?_
    refine g_if_lt 51 dX12_had_9 (by decide) (fun q3 => ?_) (fun q3 => ?_)
    · refine g_bipush (v := -3) dX12_had_51 (by decide) ?_
      exact g_iret dX12_had_53 rfl enSH (h1 q1 q3)
    · refine g_iload_n 3 dX12_had_12 rfl rfl ?_
      refine g_aload_n 0 dX12_had_13 rfl rfl ?_
      refine g_callV (As := []) (st := [.int x3]) dX12_had_14 clX12_352 sh535 rfl rfl (Nat.le_of_ble_eq_true rfl) (rmSH (by decide) (by decide)) (s_town hW ?_)
      show Go X 2 mX12_had Q 17 [(0, .ref 535), (1, .int x1), (2, .int x2), (3, .int x3), (4, .int x4), (5, .int x5)] [.int (mI m 536 2), .int x3] m
      refine g_icmp_gt 51 dX12_had_17 (by decide) (fun q4 => ?_) (fun q4 => ?_)
      · refine g_bipush (v := -3) dX12_had_51 (by decide) ?_
        exact g_iret dX12_had_53 rfl enSH (h2 q1 q3 q4)
      · refine g_iload_n 2 dX12_had_20 rfl rfl ?_
        refine g_iload_n 3 dX12_had_21 rfl rfl ?_
        refine g_icmp_ge 51 dX12_had_22 (by decide) (fun q5 => ?_) (fun q5 => ?_)
        · refine g_bipush (v := -3) dX12_had_51 (by decide) ?_
          exact g_iret dX12_had_53 rfl enSH (h3 q1 q3 q4 q5)
        · refine g_iload 4 dX12_had_25 rfl ?_
          refine g_i2l dX12_had_27 ?_
          refine g_lconst (v := 1) dX12_had_28 (by decide) ?_
          refine g_ldc2 (v := 100) dX12_had_29 cjX12_407 ?_
          refine g_callS (As := [.long x4.toInt64, .long (1 : Int64), .long (100 : Int64)]) (st := []) dX12_had_32 clX12_128 rfl rfl (Nat.le_of_ble_eq_true rfl) (rmSH (by decide) (by decide)) (s_in (x := x4) (lo := (1 : Int32)) (hi := (100 : Int32)) hW (by first | rfl | decide) (by first | rfl | decide) (by first | rfl | decide) (fun q6 => ?_) (fun q6 => ?_))
          · refine g_if_eq 51 dX12_had_35 (by decide) (fun q7 => absurd q7 (by decide)) (fun q7 => ?_)
            refine g_iload 5 dX12_had_38 rfl ?_
            refine g_i2l dX12_had_40 ?_
            refine g_lconst (v := 0) dX12_had_41 (by decide) ?_
            refine g_ldc2 (v := 2) dX12_had_42 cjX12_350 ?_
            refine g_callS (As := [.long x5.toInt64, .long (0 : Int64), .long (2 : Int64)]) (st := []) dX12_had_45 clX12_128 rfl rfl (Nat.le_of_ble_eq_true rfl) (rmSH (by decide) (by decide)) (s_in (x := x5) (lo := (0 : Int32)) (hi := (2 : Int32)) hW (by first | rfl | decide) (by first | rfl | decide) (by first | rfl | decide) (fun q8 => ?_) (fun q8 => ?_))
            · refine g_if_ne 54 dX12_had_48 (by decide) (fun q9 => ?_) (fun q9 => absurd q9 (by decide))
              refine g_iconst (v := 0) dX12_had_54 (by decide) ?_
              refine g_istore (ls2 := [(6, .int (0 : Int32)), (0, .ref 535), (1, .int x1), (2, .int x2), (3, .int x3), (4, .int x4), (5, .int x5)]) dX12_had_55 (by decide) rfl ?_
              refine g_bipush (v := -2) dX12_had_57 (by decide) ?_
              refine g_istore (ls2 := [(7, .int (-2 : Int32)), (6, .int (0 : Int32)), (0, .ref 535), (1, .int x1), (2, .int x2), (3, .int x3), (4, .int x4), (5, .int x5)]) dX12_had_59 (by decide) rfl ?_
              refine g_iconst (v := 0) dX12_had_61 (by decide) ?_
              refine g_istore (ls2 := [(8, .int (0 : Int32)), (7, .int (-2 : Int32)), (6, .int (0 : Int32)), (0, .ref 535), (1, .int x1), (2, .int x2), (3, .int x3), (4, .int x4), (5, .int x5)]) dX12_had_62 (by decide) rfl ?_
              refine g_iconst (v := 0) dX12_had_64 (by decide) ?_
              refine g_istore (ls2 := [(9, .int (0 : Int32)), (8, .int (0 : Int32)), (7, .int (-2 : Int32)), (6, .int (0 : Int32)), (0, .ref 535), (1, .int x1), (2, .int x2), (3, .int x3), (4, .int x4), (5, .int x5)]) dX12_had_65 (by decide) rfl ?_
              exact g_ls [4, 5, 6, 7, 8, 9, 3, 2, 1, 0] rfl (h4 q1 q3 q4 q5 q6 q8)
            · refine g_if_ne 54 dX12_had_48 (by decide) (fun q10 => absurd q10 (by decide)) (fun q10 => ?_)
              refine g_bipush (v := -3) dX12_had_51 (by decide) ?_
              exact g_iret dX12_had_53 rfl enSH (h5 q1 q3 q4 q5 q6 q8)
          · refine g_if_eq 51 dX12_had_35 (by decide) (fun q11 => ?_) (fun q11 => absurd q11 (by decide))
            refine g_bipush (v := -3) dX12_had_51 (by decide) ?_
            exact g_iret dX12_had_53 rfl enSH (h6 q1 q3 q4 q5 q6)
  · refine g_if_eq 51 dX12_had_5 (by decide) (fun q12 => ?_) (fun q12 => absurd q12 (by decide))
    refine g_bipush (v := -3) dX12_had_51 (by decide) ?_
    exact g_iret dX12_had_53 rfl enSH (h7 q1)
theorem bX12_had_67 {X : pX} {Q : Option Value → pMem → Prop} {m : pMem} {x1 : Int32} {x2 : Int32} {x3 : Int32} {x4 : Int32} {x5 : Int32} {x6 : Int32} {x7 : Int32} {x8 : Int32} {x9 : Int32} (hW : Wf m)
    (h1 : ((1 : Int32) <<< ((mI m 536 4) &&& 31)) ≤ x9 → ¬ x5 = 0 → ¬ x5 = (1 : Int32) → Q (some (.int x8)) m)
    (h2 : ((1 : Int32) <<< ((mI m 536 4) &&& 31)) ≤ x9 → ¬ x5 = 0 → x5 = (1 : Int32) → Q (some (.int x7)) m)
    (h3 : ((1 : Int32) <<< ((mI m 536 4) &&& 31)) ≤ x9 → x5 = 0 → Q (some (.int x6)) m)
    (h4 : ¬ (((1 : Int32) <<< ((mI m 536 4) &&& 31)) ≤ x9) → sm64 x9)
    (h5 : ¬ (((1 : Int32) <<< ((mI m 536 4) &&& 31)) ≤ x9) → (mI m 536 1) < (pcI x9) → Go X 2 mX12_had Q 67 [(0, .ref 535), (1, .int x1), (2, .int x2), (3, .int x3), (4, .int x4), (5, .int x5), (6, .int x6), (7, .int x7), (8, .int x8), (9, .int (x9 + (1 : Int32)))] [] m)
    (h6 : ¬ (((1 : Int32) <<< ((mI m 536 4) &&& 31)) ≤ x9) → ¬ ((mI m 536 1) < (pcI x9)) → vp_in (mI m 536 4) 7)
    (h7 : ¬ (((1 : Int32) <<< ((mI m 536 4) &&& 31)) ≤ x9) → ¬ ((mI m 536 1) < (pcI x9)) → dyOkM (mI m 541) x1 x2 x3)
    (h8 : ¬ (((1 : Int32) <<< ((mI m 536 4) &&& 31)) ≤ x9) → ¬ ((mI m 536 1) < (pcI x9)) → ¬ (dyI (mI m 540) (mI m 541 x1.toNatClampNeg) (wSum (mI m 542) x9 (mI m 536 4).toNatClampNeg) x2 x3) = x4 → Go X 2 mX12_had Q 67 [(0, .ref 535), (1, .int x1), (2, .int x2), (3, .int x3), (4, .int x4), (5, .int x5), (6, .int x6), (7, .int x7), (8, .int x8), (9, .int (x9 + (1 : Int32)))] [] m)
    (h9 : ¬ (((1 : Int32) <<< ((mI m 536 4) &&& 31)) ≤ x9) → ¬ ((mI m 536 1) < (pcI x9)) → (dyI (mI m 540) (mI m 541 x1.toNatClampNeg) (wSum (mI m 542) x9 (mI m 536 4).toNatClampNeg) x2 x3) = x4 → ¬ x6 = 0 → Go X 2 mX12_had Q 124 [(0, .ref 535), (1, .int x1), (2, .int x2), (3, .int x3), (4, .int x4), (5, .int x5), (6, .int x6), (8, .int x8), (9, .int x9)] [.int x7] m)
    (h10 : ¬ (((1 : Int32) <<< ((mI m 536 4) &&& 31)) ≤ x9) → ¬ ((mI m 536 1) < (pcI x9)) → (dyI (mI m 540) (mI m 541 x1.toNatClampNeg) (wSum (mI m 542) x9 (mI m 536 4).toNatClampNeg) x2 x3) = x4 → x6 = 0 → Go X 2 mX12_had Q 124 [(0, .ref 535), (1, .int x1), (2, .int x2), (3, .int x3), (4, .int x4), (5, .int x5), (6, .int x6), (8, .int x8), (9, .int x9)] [.int x9] m) :
    Go X 2 mX12_had Q 67 [(0, .ref 535), (1, .int x1), (2, .int x2), (3, .int x3), (4, .int x4), (5, .int x5), (6, .int x6), (7, .int x7), (8, .int x8), (9, .int x9)] [] m := by
  refine g_iload 9 dX12_had_67 rfl ?_
  refine g_iconst (v := 1) dX12_had_69 (by decide) ?_
  refine g_aload_n 0 dX12_had_70 rfl rfl ?_
  refine g_getR dX12_had_71 fl12_9 rfl sh535 (w12_1 hW sh535) ?_
  refine g_iconst (v := 4) dX12_had_74 (by decide) ?_
  refine g_iald (j := 4) dX12_had_75 (s12_1 sh535) (by unfold vp_in; decide) (by decide) ?_
  refine g_ishl dX12_had_76 ?_
  refine g_icmp_ge 152 dX12_had_77 (by decide) (fun q1 => ?_) (fun q1 => ?_)
  · refine g_iload 5 dX12_had_152 rfl ?_
    refine g_if_ne 162 dX12_had_154 (by decide) (fun q2 => ?_) (fun q2 => ?_)
    · refine g_iload 5 dX12_had_162 rfl ?_
      refine g_iconst (v := 1) dX12_had_164 (by decide) ?_
      refine g_icmp_ne 173 dX12_had_165 (by decide) (fun q3 => ?_) (fun q3 => ?_)
      · refine g_iload 8 dX12_had_173 rfl ?_
        exact g_iret dX12_had_175 rfl enSH (h1 q1 q2 q3)
      · refine g_iload 7 dX12_had_168 rfl ?_
        refine g_goto 175 dX12_had_170 (by decide) ?_
        exact g_iret dX12_had_175 rfl enSH (h2 q1 q2 q3)
    · refine g_iload 6 dX12_had_157 rfl ?_
      refine g_goto 175 dX12_had_159 (by decide) ?_
      exact g_iret dX12_had_175 rfl enSH (h3 q1 q2)
  · refine g_iload 9 dX12_had_80 rfl ?_
    refine g_callS (As := [.int x9]) (st := []) dX12_had_82 clX12_355 rfl rfl (Nat.le_of_ble_eq_true rfl) (rmSH (by decide) (by decide)) (s_bits hW (h4 q1) ?_)
    show Go X 2 mX12_had Q 85 [(0, .ref 535), (1, .int x1), (2, .int x2), (3, .int x3), (4, .int x4), (5, .int x5), (6, .int x6), (7, .int x7), (8, .int x8), (9, .int x9)] [.int (pcI x9)] m
    refine g_aload_n 0 dX12_had_85 rfl rfl ?_
    refine g_getR dX12_had_86 fl12_9 rfl sh535 (w12_1 hW sh535) ?_
    refine g_iconst (v := 1) dX12_had_89 (by decide) ?_
    refine g_iald (j := 1) dX12_had_90 (s12_1 sh535) (by unfold vp_in; decide) (by decide) ?_
    refine g_icmp_gt 146 dX12_had_91 (by decide) (fun q4 => ?_) (fun q4 => ?_)
    · refine g_iinc (v := x9 + (1 : Int32)) (ls2 := [(9, .int (x9 + (1 : Int32))), (0, .ref 535), (1, .int x1), (2, .int x2), (3, .int x3), (4, .int x4), (5, .int x5), (6, .int x6), (7, .int x7), (8, .int x8)]) 9 dX12_had_146 rfl rfl (by decide) rfl ?_
      refine g_goto 67 dX12_had_149 (by decide) ?_
      exact g_ls [1, 2, 3, 4, 5, 6, 7, 8, 9, 0] rfl (h5 q1 q4)
    · refine g_aload_n 0 dX12_had_94 rfl rfl ?_
      refine g_iload_n 1 dX12_had_95 rfl rfl ?_
      refine g_iload_n 2 dX12_had_96 rfl rfl ?_
      refine g_iload_n 3 dX12_had_97 rfl rfl ?_
      refine g_aload_n 0 dX12_had_98 rfl rfl ?_
      refine g_iload 9 dX12_had_99 rfl ?_
      refine g_callV (As := [.int x9]) (st := [.int x3, .int x2, .int x1, .ref 535]) dX12_had_101 clX12_341 sh535 rfl rfl (Nat.le_of_ble_eq_true rfl) (rmSH (by decide) (by decide)) (s_mWeight hW (h6 q1 q4) ?_)
      show Go X 2 mX12_had Q 104 [(0, .ref 535), (1, .int x1), (2, .int x2), (3, .int x3), (4, .int x4), (5, .int x5), (6, .int x6), (7, .int x7), (8, .int x8), (9, .int x9)] [.int (wSum (mI m 542) x9 (mI m 536 4).toNatClampNeg), .int x3, .int x2, .int x1, .ref 535] m
      refine g_callV (As := [.int x1, .int x2, .int x3, .int (wSum (mI m 542) x9 (mI m 536 4).toNatClampNeg)]) (st := []) dX12_had_104 clX12_424 sh535 rfl rfl (Nat.le_of_ble_eq_true rfl) (rmSH (by decide) (by decide)) (s_mDays hW (h7 q1 q4) ?_)
      show Go X 2 mX12_had Q 107 [(0, .ref 535), (1, .int x1), (2, .int x2), (3, .int x3), (4, .int x4), (5, .int x5), (6, .int x6), (7, .int x7), (8, .int x8), (9, .int x9)] [.int (dyI (mI m 540) (mI m 541 x1.toNatClampNeg) (wSum (mI m 542) x9 (mI m 536 4).toNatClampNeg) x2 x3)] m
      refine g_iload 4 dX12_had_107 rfl ?_
      refine g_icmp_ne 146 dX12_had_109 (by decide) (fun q5 => ?_) (fun q5 => ?_)
      · refine g_iinc (v := x9 + (1 : Int32)) (ls2 := [(9, .int (x9 + (1 : Int32))), (0, .ref 535), (1, .int x1), (2, .int x2), (3, .int x3), (4, .int x4), (5, .int x5), (6, .int x6), (7, .int x7), (8, .int x8)]) 9 dX12_had_146 rfl rfl (by decide) rfl ?_
        refine g_goto 67 dX12_had_149 (by decide) ?_
        exact g_ls [1, 2, 3, 4, 5, 6, 7, 8, 9, 0] rfl (h8 q1 q4 q5)
      · refine g_iload 6 dX12_had_112 rfl ?_
        refine g_if_ne 122 dX12_had_114 (by decide) (fun q6 => ?_) (fun q6 => ?_)
        · refine g_iload 7 dX12_had_122 rfl ?_
          exact g_ls [0, 1, 2, 3, 4, 5, 6, 8, 9] rfl (h9 q1 q4 q5 q6)
        · refine g_iload 9 dX12_had_117 rfl ?_
          refine g_goto 124 dX12_had_119 (by decide) ?_
          exact g_ls [0, 1, 2, 3, 4, 5, 6, 8, 9] rfl (h10 q1 q4 q5 q6)
theorem bX12_had_124 {X : pX} {Q : Option Value → pMem → Prop} {m : pMem} {x1 : Int32} {x2 : Int32} {x3 : Int32} {x4 : Int32} {x5 : Int32} {x6 : Int32} {x8 : Int32} {x9 : Int32} {xs0 : Int32} (hW : Wf m)
    (h1 : ¬ x6 = 0 → Go X 2 mX12_had Q 67 [(0, .ref 535), (1, .int x1), (2, .int x2), (3, .int x3), (4, .int x4), (5, .int x5), (6, .int (x6 + (1 : Int32))), (7, .int xs0), (8, .int (x8 &&& x9)), (9, .int (x9 + (1 : Int32)))] [] m)
    (h2 : x6 = 0 → Go X 2 mX12_had Q 67 [(0, .ref 535), (1, .int x1), (2, .int x2), (3, .int x3), (4, .int x4), (5, .int x5), (6, .int (x6 + (1 : Int32))), (7, .int xs0), (8, .int x9), (9, .int (x9 + (1 : Int32)))] [] m) :
    Go X 2 mX12_had Q 124 [(0, .ref 535), (1, .int x1), (2, .int x2), (3, .int x3), (4, .int x4), (5, .int x5), (6, .int x6), (8, .int x8), (9, .int x9)] [.int xs0] m := by
  refine g_istore (ls2 := [(7, .int xs0), (0, .ref 535), (1, .int x1), (2, .int x2), (3, .int x3), (4, .int x4), (5, .int x5), (6, .int x6), (8, .int x8), (9, .int x9)]) dX12_had_124 (by decide) rfl ?_
  refine g_iload 7 dX12_had_126 rfl ?_
  refine g_if_ne 136 dX12_had_128 (by decide) (fun q1 => ?_) (fun q1 => ?_)
  · refine g_iload 8 dX12_had_136 rfl ?_
    refine g_iload 9 dX12_had_138 rfl ?_
    refine g_iand dX12_had_140 ?_
    refine g_istore (ls2 := [(8, .int (x8 &&& x9)), (7, .int xs0), (0, .ref 535), (1, .int x1), (2, .int x2), (3, .int x3), (4, .int x4), (5, .int x5), (6, .int x6), (9, .int x9)]) dX12_had_141 (by decide) rfl ?_
    refine g_iinc (v := x6 + (1 : Int32)) (ls2 := [(6, .int (x6 + (1 : Int32))), (8, .int (x8 &&& x9)), (7, .int xs0), (0, .ref 535), (1, .int x1), (2, .int x2), (3, .int x3), (4, .int x4), (5, .int x5), (9, .int x9)]) 8 dX12_had_143 rfl rfl (by decide) rfl ?_
    refine g_iinc (v := x9 + (1 : Int32)) (ls2 := [(9, .int (x9 + (1 : Int32))), (6, .int (x6 + (1 : Int32))), (8, .int (x8 &&& x9)), (7, .int xs0), (0, .ref 535), (1, .int x1), (2, .int x2), (3, .int x3), (4, .int x4), (5, .int x5)]) 9 dX12_had_146 rfl rfl (by decide) rfl ?_
    refine g_goto 67 dX12_had_149 (by decide) ?_
    exact g_ls [4, 5, 6, 7, 8, 9, 1, 3, 2, 0] rfl (h1 q1)
  · refine g_iload 9 dX12_had_131 rfl ?_
    refine g_goto 141 dX12_had_133 (by decide) ?_
    refine g_istore (ls2 := [(8, .int x9), (7, .int xs0), (0, .ref 535), (1, .int x1), (2, .int x2), (3, .int x3), (4, .int x4), (5, .int x5), (6, .int x6), (9, .int x9)]) dX12_had_141 (by decide) rfl ?_
    refine g_iinc (v := x6 + (1 : Int32)) (ls2 := [(6, .int (x6 + (1 : Int32))), (8, .int x9), (7, .int xs0), (0, .ref 535), (1, .int x1), (2, .int x2), (3, .int x3), (4, .int x4), (5, .int x5), (9, .int x9)]) 8 dX12_had_143 rfl rfl (by decide) rfl ?_
    refine g_iinc (v := x9 + (1 : Int32)) (ls2 := [(9, .int (x9 + (1 : Int32))), (6, .int (x6 + (1 : Int32))), (8, .int x9), (7, .int xs0), (0, .ref 535), (1, .int x1), (2, .int x2), (3, .int x3), (4, .int x4), (5, .int x5)]) 9 dX12_had_146 rfl rfl (by decide) rfl ?_
    refine g_goto 67 dX12_had_149 (by decide) ?_
    exact g_ls [4, 5, 6, 7, 8, 9, 1, 3, 2, 0] rfl (h2 q1)
theorem bX11_had_0 {X : pX} {Q : Option Value → pMem → Prop} {m : pMem} {x1 : Int32} {x2 : Int32} {x3 : Int32} {x4 : Int32} {x5 : Int32} (hW : Wf m)
    (h1 : ¬ x1 < 0 ∧ ¬ mI m 31 3 ≤ x1 ∧ ¬ (4 : Int32) ≤ x1 → x2 < 0 → Q (some (.int (-3 : Int32))) m)
    (h2 : ¬ x1 < 0 ∧ ¬ mI m 31 3 ≤ x1 ∧ ¬ (4 : Int32) ≤ x1 → ¬ (x2 < 0) → x3 ≤ x2 → Q (some (.int (-3 : Int32))) m)
    (h3 : ¬ x1 < 0 ∧ ¬ mI m 31 3 ≤ x1 ∧ ¬ (4 : Int32) ≤ x1 → ¬ (x2 < 0) → ¬ (x3 ≤ x2) → (mI m 31 2) < x3 → Q (some (.int (-3 : Int32))) m)
    (h4 : ¬ x1 < 0 ∧ ¬ mI m 31 3 ≤ x1 ∧ ¬ (4 : Int32) ≤ x1 → ¬ (x2 < 0) → ¬ (x3 ≤ x2) → ¬ ((mI m 31 2) < x3) → x4 < (1 : Int32) → Q (some (.int (-3 : Int32))) m)
    (h5 : ¬ x1 < 0 ∧ ¬ mI m 31 3 ≤ x1 ∧ ¬ (4 : Int32) ≤ x1 → ¬ (x2 < 0) → ¬ (x3 ≤ x2) → ¬ ((mI m 31 2) < x3) → ¬ (x4 < (1 : Int32)) → (100 : Int32) < x4 → Q (some (.int (-3 : Int32))) m)
    (h6 : ¬ x1 < 0 ∧ ¬ mI m 31 3 ≤ x1 ∧ ¬ (4 : Int32) ≤ x1 → ¬ (x2 < 0) → ¬ (x3 ≤ x2) → ¬ ((mI m 31 2) < x3) → ¬ (x4 < (1 : Int32)) → ¬ ((100 : Int32) < x4) → x5 < 0 → Q (some (.int (-3 : Int32))) m)
    (h7 : ¬ x1 < 0 ∧ ¬ mI m 31 3 ≤ x1 ∧ ¬ (4 : Int32) ≤ x1 → ¬ (x2 < 0) → ¬ (x3 ≤ x2) → ¬ ((mI m 31 2) < x3) → ¬ (x4 < (1 : Int32)) → ¬ ((100 : Int32) < x4) → ¬ (x5 < 0) → x5 ≤ (2 : Int32) → Cl X 2 mX3_thatTook [.ref 514, .int x1, .int x2, .int x3, .int x4, .int x5] m (fun v m2 => Go X 3 mX11_had Q 78 [(0, .ref 0), (1, .int x1), (2, .int x2), (3, .int x3), (4, .int x4), (5, .int x5)] (v.toList ++ []) m2))
    (h8 : ¬ x1 < 0 ∧ ¬ mI m 31 3 ≤ x1 ∧ ¬ (4 : Int32) ≤ x1 → ¬ (x2 < 0) → ¬ (x3 ≤ x2) → ¬ ((mI m 31 2) < x3) → ¬ (x4 < (1 : Int32)) → ¬ ((100 : Int32) < x4) → ¬ (x5 < 0) → ¬ (x5 ≤ (2 : Int32)) → Q (some (.int (-3 : Int32))) m)
    (h9 : ¬ (¬ x1 < 0 ∧ ¬ mI m 31 3 ≤ x1 ∧ ¬ (4 : Int32) ≤ x1) → Q (some (.int (-3 : Int32))) m) :
    Go X 3 mX11_had Q 0 [(0, .ref 0), (1, .int x1), (2, .int x2), (3, .int x3), (4, .int x4), (5, .int x5)] [] m := by
  refine g_aload_n 0 dX11_had_0 rfl rfl ?_
  refine g_getR dX11_had_1 fl11_42 rfl sh0 (w11_5 hW sh0) ?_
  refine g_getR dX11_had_4 fl11_56 rfl sh30 (w10_0 hW sh30) ?_
  refine g_iload_n 1 dX11_had_7 rfl rfl ?_
  refine g_callV (As := [.int x1]) (st := []) dX11_had_8 clX11_135 (s10_0 sh30) rfl rfl (Nat.le_of_ble_eq_true rfl) (rmSH (by decide) (by decide)) (s_isPerson hW (s10_0 sh30) (fun q1 => ?_) (fun q1 => ?_))
  · refine g_if_eq 61 dX11_had_11 (by decide) (fun q2 => absurd q2 (by decide)) (fun q2 => ?_)
    refine g_iload_n 2 dX11_had_14 rfl rfl ?_
    refine g_if_lt 61 dX11_had_15 (by decide) (fun q3 => ?_) (fun q3 => ?_)
    · refine g_bipush (v := -3) dX11_had_61 (by decide) ?_
      exact g_iret dX11_had_63 rfl enSH (h1 q1 q3)
    · refine g_iload_n 3 dX11_had_18 rfl rfl ?_
      refine g_iload_n 2 dX11_had_19 rfl rfl ?_
      refine g_icmp_le 61 dX11_had_20 (by decide) (fun q4 => ?_) (fun q4 => ?_)
      · refine g_bipush (v := -3) dX11_had_61 (by decide) ?_
        exact g_iret dX11_had_63 rfl enSH (h2 q1 q3 q4)
      · refine g_iload_n 3 dX11_had_23 rfl rfl ?_
        refine g_aload_n 0 dX11_had_24 rfl rfl ?_
        refine g_getR dX11_had_25 fl11_42 rfl sh0 (w11_5 hW sh0) ?_
        refine g_getR dX11_had_28 fl11_56 rfl sh30 (w10_0 hW sh30) ?_
        refine g_getI dX11_had_31 fl11_179 (s10_0 sh30) ?_
        refine g_icmp_gt 61 dX11_had_34 (by decide) (fun q5 => ?_) (fun q5 => ?_)
        · refine g_bipush (v := -3) dX11_had_61 (by decide) ?_
          exact g_iret dX11_had_63 rfl enSH (h3 q1 q3 q4 q5)
        · refine g_iload 4 dX11_had_37 rfl ?_
          refine g_iconst (v := 1) dX11_had_39 (by decide) ?_
          refine g_icmp_lt 61 dX11_had_40 (by decide) (fun q6 => ?_) (fun q6 => ?_)
          · refine g_bipush (v := -3) dX11_had_61 (by decide) ?_
            exact g_iret dX11_had_63 rfl enSH (h4 q1 q3 q4 q5 q6)
          · refine g_iload 4 dX11_had_43 rfl ?_
            refine g_bipush (v := 100) dX11_had_45 (by decide) ?_
            refine g_icmp_gt 61 dX11_had_47 (by decide) (fun q7 => ?_) (fun q7 => ?_)
            · refine g_bipush (v := -3) dX11_had_61 (by decide) ?_
              exact g_iret dX11_had_63 rfl enSH (h5 q1 q3 q4 q5 q6 q7)
            · refine g_iload 5 dX11_had_50 rfl ?_
              refine g_if_lt 61 dX11_had_52 (by decide) (fun q8 => ?_) (fun q8 => ?_)
              · refine g_bipush (v := -3) dX11_had_61 (by decide) ?_
                exact g_iret dX11_had_63 rfl enSH (h6 q1 q3 q4 q5 q6 q7 q8)
              · refine g_iload 5 dX11_had_55 rfl ?_
                refine g_iconst (v := 2) dX11_had_57 (by decide) ?_
                refine g_icmp_le 64 dX11_had_58 (by decide) (fun q9 => ?_) (fun q9 => ?_)
                · refine g_aload_n 0 dX11_had_64 rfl rfl ?_
                  refine g_getR dX11_had_65 fl11_76 rfl sh0 (w11_9 hW sh0) ?_
                  refine g_iload_n 1 dX11_had_68 rfl rfl ?_
                  refine g_iload_n 2 dX11_had_69 rfl rfl ?_
                  refine g_iload_n 3 dX11_had_70 rfl rfl ?_
                  refine g_iload 4 dX11_had_71 rfl ?_
                  refine g_iload 5 dX11_had_73 rfl ?_
                  exact g_callV (As := [.int x1, .int x2, .int x3, .int x4, .int x5]) (st := []) dX11_had_75 clX11_272 sh514 rfl rfl (Nat.le_of_ble_eq_true rfl) (rmSH (by decide) (by decide)) (h7 q1 q3 q4 q5 q6 q7 q8 q9)
                · refine g_bipush (v := -3) dX11_had_61 (by decide) ?_
                  exact g_iret dX11_had_63 rfl enSH (h8 q1 q3 q4 q5 q6 q7 q8 q9)
  · refine g_if_eq 61 dX11_had_11 (by decide) (fun q10 => ?_) (fun q10 => absurd q10 (by decide))
    refine g_bipush (v := -3) dX11_had_61 (by decide) ?_
    exact g_iret dX11_had_63 rfl enSH (h9 q1)
theorem bX11_had_78 {X : pX} {Q : Option Value → pMem → Prop} {m : pMem} {x1 : Int32} {x2 : Int32} {x3 : Int32} {x4 : Int32} {x5 : Int32} {xs0 : Int32} (hW : Wf m)
    (h1 : Q (some (.int xs0)) m) :
    Go X 3 mX11_had Q 78 [(0, .ref 0), (1, .int x1), (2, .int x2), (3, .int x3), (4, .int x4), (5, .int x5)] [.int xs0] m := by
  exact g_iret dX11_had_78 rfl enSH h1
theorem bX12_exchange_0 {X : pX} {Q : Option Value → pMem → Prop} {m : pMem} {x1 : Int32} {x2 : Int32} {x3 : Int32} (hW : Wf m)
    (h1 : vp_in (mI m 536 3) 5)
    (h2 : ((¬ x1 < 0 ∧ ¬ (mI m 536 3 - (1 : Int32)) < x1) ∧ mI m 538 x1.toNatClampNeg = 0) ∧ ((¬ x2 < 0 ∧ ¬ (mI m 536 3 - (1 : Int32)) < x2) ∧ mI m 538 x2.toNatClampNeg = 0) ∧ ¬ x1 = x2 ∧ mI m 537 x1.toNatClampNeg = mI m 537 x2.toNatClampNeg → ¬ x3 < (0 : Int32) ∧ ¬ (2 : Int32) < x3 → vp_in (mI m 536 4) 7)
    (h3 : ((¬ x1 < 0 ∧ ¬ (mI m 536 3 - (1 : Int32)) < x1) ∧ mI m 538 x1.toNatClampNeg = 0) ∧ ((¬ x2 < 0 ∧ ¬ (mI m 536 3 - (1 : Int32)) < x2) ∧ mI m 538 x2.toNatClampNeg = 0) ∧ ¬ x1 = x2 ∧ mI m 537 x1.toNatClampNeg = mI m 537 x2.toNatClampNeg → ¬ x3 < (0 : Int32) ∧ ¬ (2 : Int32) < x3 → dyOkM (mI m 541) x1 (mI m 537 x1.toNatClampNeg) (mI m 536 2))
    (h4 : ((¬ x1 < 0 ∧ ¬ (mI m 536 3 - (1 : Int32)) < x1) ∧ mI m 538 x1.toNatClampNeg = 0) ∧ ((¬ x2 < 0 ∧ ¬ (mI m 536 3 - (1 : Int32)) < x2) ∧ mI m 538 x2.toNatClampNeg = 0) ∧ ¬ x1 = x2 ∧ mI m 537 x1.toNatClampNeg = mI m 537 x2.toNatClampNeg → ¬ x3 < (0 : Int32) ∧ ¬ (2 : Int32) < x3 → dyOkM (mI m 541) x2 (mI m 537 x2.toNatClampNeg) (mI m 536 2))
    (h5 : ((¬ x1 < 0 ∧ ¬ (mI m 536 3 - (1 : Int32)) < x1) ∧ mI m 538 x1.toNatClampNeg = 0) ∧ ((¬ x2 < 0 ∧ ¬ (mI m 536 3 - (1 : Int32)) < x2) ∧ mI m 538 x2.toNatClampNeg = 0) ∧ ¬ x1 = x2 ∧ mI m 537 x1.toNatClampNeg = mI m 537 x2.toNatClampNeg → ¬ x3 < (0 : Int32) ∧ ¬ (2 : Int32) < x3 → Go X 4 mX12_exchange Q 64 [(0, .ref 535), (1, .int x1), (2, .int x2), (3, .int x3), (4, .int (tAt (mI m 539) x1 (mI m 536 4).toNatClampNeg)), (5, .int (tAt (mI m 539) x2 (mI m 536 4).toNatClampNeg)), (6, .int ((dyI (mI m 540) (mI m 541 x1.toNatClampNeg) (wSum (mI m 542) (tAt (mI m 539) x1 (mI m 536 4).toNatClampNeg) (mI m 536 4).toNatClampNeg) (mI m 537 x1.toNatClampNeg) (mI m 536 2)) + (dyI (mI m 540) (mI m 541 x2.toNatClampNeg) (wSum (mI m 542) (tAt (mI m 539) x2 (mI m 536 4).toNatClampNeg) (mI m 536 4).toNatClampNeg) (mI m 537 x2.toNatClampNeg) (mI m 536 2)))), (7, .int (-1 : Int32)), (8, .int (-1 : Int32)), (9, .int (0 : Int32))] [] m)
    (h6 : ((¬ x1 < 0 ∧ ¬ (mI m 536 3 - (1 : Int32)) < x1) ∧ mI m 538 x1.toNatClampNeg = 0) ∧ ((¬ x2 < 0 ∧ ¬ (mI m 536 3 - (1 : Int32)) < x2) ∧ mI m 538 x2.toNatClampNeg = 0) ∧ ¬ x1 = x2 ∧ mI m 537 x1.toNatClampNeg = mI m 537 x2.toNatClampNeg → ¬ (¬ x3 < (0 : Int32) ∧ ¬ (2 : Int32) < x3) → Q (some (.int (-2 : Int32))) m)
    (h7 : ¬ (((¬ x1 < 0 ∧ ¬ (mI m 536 3 - (1 : Int32)) < x1) ∧ mI m 538 x1.toNatClampNeg = 0) ∧ ((¬ x2 < 0 ∧ ¬ (mI m 536 3 - (1 : Int32)) < x2) ∧ mI m 538 x2.toNatClampNeg = 0) ∧ ¬ x1 = x2 ∧ mI m 537 x1.toNatClampNeg = mI m 537 x2.toNatClampNeg) → Q (some (.int (-2 : Int32))) m) :
    Go X 4 mX12_exchange Q 0 [(0, .ref 535), (1, .int x1), (2, .int x2), (3, .int x3)] [] m := by
  refine g_aload_n 0 dX12_exchange_0 rfl rfl ?_
  refine g_iload_n 1 dX12_exchange_1 rfl rfl ?_
  refine g_iload_n 2 dX12_exchange_2 rfl rfl ?_
  refine g_callV (As := [.int x1, .int x2]) (st := []) dX12_exchange_3 clX12_401 sh535 rfl rfl (Nat.le_of_ble_eq_true rfl) (rmSH (by decide) (by decide)) (s_mTog hW h1 (fun q1 => ?_) (fun q1 => ?_))
  · refine g_if_eq 21 dX12_exchange_6 (by decide) (fun q2 => absurd q2 (by decide)) (fun q2 => ?_)
    refine g_iload_n 3 dX12_exchange_9 rfl rfl ?_
    refine g_i2l dX12_exchange_10 ?_
    refine g_lconst (v := 0) dX12_exchange_11 (by decide) ?_
    refine g_ldc2 (v := 2) dX12_exchange_12 cjX12_350 ?_
    refine g_callS (As := [.long x3.toInt64, .long (0 : Int64), .long (2 : Int64)]) (st := []) dX12_exchange_15 clX12_128 rfl rfl (Nat.le_of_ble_eq_true rfl) (rmSH (by decide) (by decide)) (s_in (x := x3) (lo := (0 : Int32)) (hi := (2 : Int32)) hW (by first | rfl | decide) (by first | rfl | decide) (by first | rfl | decide) (fun q3 => ?_) (fun q3 => ?_))
    · refine g_if_ne 24 dX12_exchange_18 (by decide) (fun q4 => ?_) (fun q4 => absurd q4 (by decide))
      refine g_aload_n 0 dX12_exchange_24 rfl rfl ?_
      refine g_iload_n 1 dX12_exchange_25 rfl rfl ?_
      refine g_callV (As := [.int x1]) (st := []) dX12_exchange_26 clX12_338 sh535 rfl rfl (Nat.le_of_ble_eq_true rfl) (rmSH (by decide) (by decide)) (s_mThings hW (h2 q1 q3) ?_)
      show Go X 4 mX12_exchange Q 29 [(0, .ref 535), (1, .int x1), (2, .int x2), (3, .int x3)] [.int (tAt (mI m 539) x1 (mI m 536 4).toNatClampNeg)] m
      refine g_istore (ls2 := [(4, .int (tAt (mI m 539) x1 (mI m 536 4).toNatClampNeg)), (0, .ref 535), (1, .int x1), (2, .int x2), (3, .int x3)]) dX12_exchange_29 (by decide) rfl ?_
      refine g_aload_n 1 dX12_exchange_31 rfl rfl ?_
      refine g_iload_n 3 dX12_exchange_32 rfl rfl ?_
      refine g_callV (As := [.int x2]) (st := []) dX12_exchange_33 clX12_338 sh535 rfl rfl (Nat.le_of_ble_eq_true rfl) (rmSH (by decide) (by decide)) (s_mThings hW (h2 q1 q3) ?_)
      show Go X 4 mX12_exchange Q 36 [(4, .int (tAt (mI m 539) x1 (mI m 536 4).toNatClampNeg)), (0, .ref 535), (1, .int x1), (2, .int x2), (3, .int x3)] [.int (tAt (mI m 539) x2 (mI m 536 4).toNatClampNeg)] m
      refine g_istore (ls2 := [(5, .int (tAt (mI m 539) x2 (mI m 536 4).toNatClampNeg)), (4, .int (tAt (mI m 539) x1 (mI m 536 4).toNatClampNeg)), (0, .ref 535), (1, .int x1), (2, .int x2), (3, .int x3)]) dX12_exchange_36 (by decide) rfl ?_
      refine g_aload_n 2 dX12_exchange_38 rfl rfl ?_
      refine g_iload_n 3 dX12_exchange_39 rfl rfl ?_
      refine g_iload 1 dX12_exchange_40 rfl ?_
      refine g_callV (As := [.int x1, .int (tAt (mI m 539) x1 (mI m 536 4).toNatClampNeg)]) (st := []) dX12_exchange_42 clX12_428 sh535 rfl rfl (Nat.le_of_ble_eq_true rfl) (rmSH (by decide) (by decide)) (s_home hW (h2 q1 q3) (h3 q1 q3) ?_)
      show Go X 4 mX12_exchange Q 45 [(5, .int (tAt (mI m 539) x2 (mI m 536 4).toNatClampNeg)), (4, .int (tAt (mI m 539) x1 (mI m 536 4).toNatClampNeg)), (0, .ref 535), (1, .int x1), (2, .int x2), (3, .int x3)] [.int (dyI (mI m 540) (mI m 541 x1.toNatClampNeg) (wSum (mI m 542) (tAt (mI m 539) x1 (mI m 536 4).toNatClampNeg) (mI m 536 4).toNatClampNeg) (mI m 537 x1.toNatClampNeg) (mI m 536 2))] m
      refine g_aload_n 2 dX12_exchange_45 rfl rfl ?_
      refine g_iload_n 4 dX12_exchange_46 rfl rfl ?_
      refine g_iload 0 dX12_exchange_47 rfl ?_
      refine g_callV (As := [.int x2, .int (tAt (mI m 539) x2 (mI m 536 4).toNatClampNeg)]) (st := [.int (dyI (mI m 540) (mI m 541 x1.toNatClampNeg) (wSum (mI m 542) (tAt (mI m 539) x1 (mI m 536 4).toNatClampNeg) (mI m 536 4).toNatClampNeg) (mI m 537 x1.toNatClampNeg) (mI m 536 2))]) dX12_exchange_49 clX12_428 sh535 rfl rfl (Nat.le_of_ble_eq_true rfl) (rmSH (by decide) (by decide)) (s_home hW (h2 q1 q3) (h4 q1 q3) ?_)
      show Go X 4 mX12_exchange Q 52 [(5, .int (tAt (mI m 539) x2 (mI m 536 4).toNatClampNeg)), (4, .int (tAt (mI m 539) x1 (mI m 536 4).toNatClampNeg)), (0, .ref 535), (1, .int x1), (2, .int x2), (3, .int x3)] [.int (dyI (mI m 540) (mI m 541 x2.toNatClampNeg) (wSum (mI m 542) (tAt (mI m 539) x2 (mI m 536 4).toNatClampNeg) (mI m 536 4).toNatClampNeg) (mI m 537 x2.toNatClampNeg) (mI m 536 2)), .int (dyI (mI m 540) (mI m 541 x1.toNatClampNeg) (wSum (mI m 542) (tAt (mI m 539) x1 (mI m 536 4).toNatClampNeg) (mI m 536 4).toNatClampNeg) (mI m 537 x1.toNatClampNeg) (mI m 536 2))] m
      refine g_iadd dX12_exchange_52 ?_
      refine g_istore (ls2 := [(6, .int ((dyI (mI m 540) (mI m 541 x1.toNatClampNeg) (wSum (mI m 542) (tAt (mI m 539) x1 (mI m 536 4).toNatClampNeg) (mI m 536 4).toNatClampNeg) (mI m 537 x1.toNatClampNeg) (mI m 536 2)) + (dyI (mI m 540) (mI m 541 x2.toNatClampNeg) (wSum (mI m 542) (tAt (mI m 539) x2 (mI m 536 4).toNatClampNeg) (mI m 536 4).toNatClampNeg) (mI m 537 x2.toNatClampNeg) (mI m 536 2)))), (5, .int (tAt (mI m 539) x2 (mI m 536 4).toNatClampNeg)), (4, .int (tAt (mI m 539) x1 (mI m 536 4).toNatClampNeg)), (0, .ref 535), (1, .int x1), (2, .int x2), (3, .int x3)]) dX12_exchange_53 (by decide) rfl ?_
      refine g_iconst (v := -1) dX12_exchange_55 (by decide) ?_
      refine g_istore (ls2 := [(7, .int (-1 : Int32)), (6, .int ((dyI (mI m 540) (mI m 541 x1.toNatClampNeg) (wSum (mI m 542) (tAt (mI m 539) x1 (mI m 536 4).toNatClampNeg) (mI m 536 4).toNatClampNeg) (mI m 537 x1.toNatClampNeg) (mI m 536 2)) + (dyI (mI m 540) (mI m 541 x2.toNatClampNeg) (wSum (mI m 542) (tAt (mI m 539) x2 (mI m 536 4).toNatClampNeg) (mI m 536 4).toNatClampNeg) (mI m 537 x2.toNatClampNeg) (mI m 536 2)))), (5, .int (tAt (mI m 539) x2 (mI m 536 4).toNatClampNeg)), (4, .int (tAt (mI m 539) x1 (mI m 536 4).toNatClampNeg)), (0, .ref 535), (1, .int x1), (2, .int x2), (3, .int x3)]) dX12_exchange_56 (by decide) rfl ?_
      refine g_iconst (v := -1) dX12_exchange_58 (by decide) ?_
      refine g_istore (ls2 := [(8, .int (-1 : Int32)), (7, .int (-1 : Int32)), (6, .int ((dyI (mI m 540) (mI m 541 x1.toNatClampNeg) (wSum (mI m 542) (tAt (mI m 539) x1 (mI m 536 4).toNatClampNeg) (mI m 536 4).toNatClampNeg) (mI m 537 x1.toNatClampNeg) (mI m 536 2)) + (dyI (mI m 540) (mI m 541 x2.toNatClampNeg) (wSum (mI m 542) (tAt (mI m 539) x2 (mI m 536 4).toNatClampNeg) (mI m 536 4).toNatClampNeg) (mI m 537 x2.toNatClampNeg) (mI m 536 2)))), (5, .int (tAt (mI m 539) x2 (mI m 536 4).toNatClampNeg)), (4, .int (tAt (mI m 539) x1 (mI m 536 4).toNatClampNeg)), (0, .ref 535), (1, .int x1), (2, .int x2), (3, .int x3)]) dX12_exchange_59 (by decide) rfl ?_
      refine g_iconst (v := 0) dX12_exchange_61 (by decide) ?_
      refine g_istore (ls2 := [(9, .int (0 : Int32)), (8, .int (-1 : Int32)), (7, .int (-1 : Int32)), (6, .int ((dyI (mI m 540) (mI m 541 x1.toNatClampNeg) (wSum (mI m 542) (tAt (mI m 539) x1 (mI m 536 4).toNatClampNeg) (mI m 536 4).toNatClampNeg) (mI m 537 x1.toNatClampNeg) (mI m 536 2)) + (dyI (mI m 540) (mI m 541 x2.toNatClampNeg) (wSum (mI m 542) (tAt (mI m 539) x2 (mI m 536 4).toNatClampNeg) (mI m 536 4).toNatClampNeg) (mI m 537 x2.toNatClampNeg) (mI m 536 2)))), (5, .int (tAt (mI m 539) x2 (mI m 536 4).toNatClampNeg)), (4, .int (tAt (mI m 539) x1 (mI m 536 4).toNatClampNeg)), (0, .ref 535), (1, .int x1), (2, .int x2), (3, .int x3)]) dX12_exchange_62 (by decide) rfl ?_
      exact g_ls [6, 7, 8, 9, 5, 4, 3, 2, 1, 0] rfl (h5 q1 q3)
    · refine g_if_ne 24 dX12_exchange_18 (by decide) (fun q5 => absurd q5 (by decide)) (fun q5 => ?_)
      refine g_bipush (v := -2) dX12_exchange_21 (by decide) ?_
      exact g_iret dX12_exchange_23 rfl enSH (h6 q1 q3)
  · refine g_if_eq 21 dX12_exchange_6 (by decide) (fun q6 => ?_) (fun q6 => absurd q6 (by decide))
    refine g_bipush (v := -2) dX12_exchange_21 (by decide) ?_
    exact g_iret dX12_exchange_23 rfl enSH (h7 q1)
theorem bX12_exchange_64 {X : pX} {Q : Option Value → pMem → Prop} {m : pMem} {x1 : Int32} {x2 : Int32} {x3 : Int32} {x4 : Int32} {x5 : Int32} {x6 : Int32} {x7 : Int32} {x8 : Int32} {x9 : Int32} (hW : Wf m)
    (h1 : (mI m 536 4) ≤ x9 → ¬ x3 = 0 → ¬ x3 = (1 : Int32) → Q (some (.int x8)) m)
    (h2 : (mI m 536 4) ≤ x9 → ¬ x3 = 0 → x3 = (1 : Int32) → Q (some (.int x7)) m)
    (h3 : (mI m 536 4) ≤ x9 → x3 = 0 → Q (some (.int x6)) m)
    (h4 : ¬ ((mI m 536 4) ≤ x9) → Go X 4 mX12_exchange Q 78 [(0, .ref 535), (1, .int x1), (2, .int x2), (3, .int x3), (4, .int x4), (5, .int x5), (6, .int x6), (7, .int x7), (8, .int x8), (9, .int x9), (10, .int (0 : Int32))] [] m) :
    Go X 4 mX12_exchange Q 64 [(0, .ref 535), (1, .int x1), (2, .int x2), (3, .int x3), (4, .int x4), (5, .int x5), (6, .int x6), (7, .int x7), (8, .int x8), (9, .int x9)] [] m := by
  refine g_iload 9 dX12_exchange_64 rfl ?_
  refine g_aload_n 0 dX12_exchange_66 rfl rfl ?_
  refine g_getR dX12_exchange_67 fl12_9 rfl sh535 (w12_1 hW sh535) ?_
  refine g_iconst (v := 4) dX12_exchange_70 (by decide) ?_
  refine g_iald (j := 4) dX12_exchange_71 (s12_1 sh535) (by unfold vp_in; decide) (by decide) ?_
  refine g_icmp_ge 174 dX12_exchange_72 (by decide) (fun q1 => ?_) (fun q1 => ?_)
  · refine g_iload_n 3 dX12_exchange_174 rfl rfl ?_
    refine g_if_ne 183 dX12_exchange_175 (by decide) (fun q2 => ?_) (fun q2 => ?_)
    · refine g_iload_n 3 dX12_exchange_183 rfl rfl ?_
      refine g_iconst (v := 1) dX12_exchange_184 (by decide) ?_
      refine g_icmp_ne 193 dX12_exchange_185 (by decide) (fun q3 => ?_) (fun q3 => ?_)
      · refine g_iload 8 dX12_exchange_193 rfl ?_
        exact g_iret dX12_exchange_195 rfl enSH (h1 q1 q2 q3)
      · refine g_iload 7 dX12_exchange_188 rfl ?_
        refine g_goto 195 dX12_exchange_190 (by decide) ?_
        exact g_iret dX12_exchange_195 rfl enSH (h2 q1 q2 q3)
    · refine g_iload 6 dX12_exchange_178 rfl ?_
      refine g_goto 195 dX12_exchange_180 (by decide) ?_
      exact g_iret dX12_exchange_195 rfl enSH (h3 q1 q2)
  · refine g_iconst (v := 0) dX12_exchange_75 (by decide) ?_
    refine g_istore (ls2 := [(10, .int (0 : Int32)), (0, .ref 535), (1, .int x1), (2, .int x2), (3, .int x3), (4, .int x4), (5, .int x5), (6, .int x6), (7, .int x7), (8, .int x8), (9, .int x9)]) dX12_exchange_76 (by decide) rfl ?_
    exact g_ls [1, 2, 3, 4, 5, 6, 7, 8, 9, 10, 0] rfl (h4 q1)
theorem bX12_exchange_78 {X : pX} {Q : Option Value → pMem → Prop} {m : pMem} {x1 : Int32} {x2 : Int32} {x3 : Int32} {x4 : Int32} {x5 : Int32} {x6 : Int32} {x7 : Int32} {x8 : Int32} {x9 : Int32} {x10 : Int32} (hW : Wf m)
    (h1 : (mI m 536 4) ≤ x10 → Go X 4 mX12_exchange Q 64 [(0, .ref 535), (1, .int x1), (2, .int x2), (3, .int x3), (4, .int x4), (5, .int x5), (6, .int x6), (7, .int x7), (8, .int x8), (9, .int (x9 + (1 : Int32)))] [] m)
    (h2 : ¬ ((mI m 536 4) ≤ x10) → ((x4 >>> (x9 &&& 31)) &&& (1 : Int32)) = (1 : Int32) → ((x5 >>> (x10 &&& 31)) &&& (1 : Int32)) = (1 : Int32) → vp_in (mI m 536 4) 7)
    (h3 : ¬ ((mI m 536 4) ≤ x10) → ((x4 >>> (x9 &&& 31)) &&& (1 : Int32)) = (1 : Int32) → ((x5 >>> (x10 &&& 31)) &&& (1 : Int32)) = (1 : Int32) → dyOkM (mI m 541) x1 (mI m 537 x1.toNatClampNeg) (mI m 536 2))
    (h4 : ¬ ((mI m 536 4) ≤ x10) → ((x4 >>> (x9 &&& 31)) &&& (1 : Int32)) = (1 : Int32) → ((x5 >>> (x10 &&& 31)) &&& (1 : Int32)) = (1 : Int32) → dyOkM (mI m 541) x2 (mI m 537 x2.toNatClampNeg) (mI m 536 2))
    (h5 : ¬ ((mI m 536 4) ≤ x10) → ((x4 >>> (x9 &&& 31)) &&& (1 : Int32)) = (1 : Int32) → ((x5 >>> (x10 &&& 31)) &&& (1 : Int32)) = (1 : Int32) → x6 ≤ ((dyI (mI m 540) (mI m 541 x1.toNatClampNeg) (wSum (mI m 542) (x4 ^^^ (((1 : Int32) <<< (x9 &&& 31)) ||| ((1 : Int32) <<< (x10 &&& 31)))) (mI m 536 4).toNatClampNeg) (mI m 537 x1.toNatClampNeg) (mI m 536 2)) + (dyI (mI m 540) (mI m 541 x2.toNatClampNeg) (wSum (mI m 542) (x5 ^^^ (((1 : Int32) <<< (x9 &&& 31)) ||| ((1 : Int32) <<< (x10 &&& 31)))) (mI m 536 4).toNatClampNeg) (mI m 537 x2.toNatClampNeg) (mI m 536 2))) → Go X 4 mX12_exchange Q 78 [(0, .ref 535), (1, .int x1), (2, .int x2), (3, .int x3), (4, .int x4), (5, .int x5), (6, .int x6), (7, .int x7), (8, .int x8), (9, .int x9), (10, .int (x10 + (1 : Int32)))] [] m)
    (h6 : ¬ ((mI m 536 4) ≤ x10) → ((x4 >>> (x9 &&& 31)) &&& (1 : Int32)) = (1 : Int32) → ((x5 >>> (x10 &&& 31)) &&& (1 : Int32)) = (1 : Int32) → ¬ (x6 ≤ ((dyI (mI m 540) (mI m 541 x1.toNatClampNeg) (wSum (mI m 542) (x4 ^^^ (((1 : Int32) <<< (x9 &&& 31)) ||| ((1 : Int32) <<< (x10 &&& 31)))) (mI m 536 4).toNatClampNeg) (mI m 537 x1.toNatClampNeg) (mI m 536 2)) + (dyI (mI m 540) (mI m 541 x2.toNatClampNeg) (wSum (mI m 542) (x5 ^^^ (((1 : Int32) <<< (x9 &&& 31)) ||| ((1 : Int32) <<< (x10 &&& 31)))) (mI m 536 4).toNatClampNeg) (mI m 537 x2.toNatClampNeg) (mI m 536 2)))) → Go X 4 mX12_exchange Q 78 [(0, .ref 535), (1, .int x1), (2, .int x2), (3, .int x3), (4, .int x4), (5, .int x5), (6, .int ((dyI (mI m 540) (mI m 541 x1.toNatClampNeg) (wSum (mI m 542) (x4 ^^^ (((1 : Int32) <<< (x9 &&& 31)) ||| ((1 : Int32) <<< (x10 &&& 31)))) (mI m 536 4).toNatClampNeg) (mI m 537 x1.toNatClampNeg) (mI m 536 2)) + (dyI (mI m 540) (mI m 541 x2.toNatClampNeg) (wSum (mI m 542) (x5 ^^^ (((1 : Int32) <<< (x9 &&& 31)) ||| ((1 : Int32) <<< (x10 &&& 31)))) (mI m 536 4).toNatClampNeg) (mI m 537 x2.toNatClampNeg) (mI m 536 2)))), (7, .int x9), (8, .int x10), (9, .int x9), (10, .int (x10 + (1 : Int32)))] [] m)
    (h7 : ¬ ((mI m 536 4) ≤ x10) → ((x4 >>> (x9 &&& 31)) &&& (1 : Int32)) = (1 : Int32) → ¬ (((x5 >>> (x10 &&& 31)) &&& (1 : Int32)) = (1 : Int32)) → Go X 4 mX12_exchange Q 78 [(0, .ref 535), (1, .int x1), (2, .int x2), (3, .int x3), (4, .int x4), (5, .int x5), (6, .int x6), (7, .int x7), (8, .int x8), (9, .int x9), (10, .int (x10 + (1 : Int32)))] [] m)
    (h8 : ¬ ((mI m 536 4) ≤ x10) → ¬ (((x4 >>> (x9 &&& 31)) &&& (1 : Int32)) = (1 : Int32)) → Go X 4 mX12_exchange Q 78 [(0, .ref 535), (1, .int x1), (2, .int x2), (3, .int x3), (4, .int x4), (5, .int x5), (6, .int x6), (7, .int x7), (8, .int x8), (9, .int x9), (10, .int (x10 + (1 : Int32)))] [] m) :
    Go X 4 mX12_exchange Q 78 [(0, .ref 535), (1, .int x1), (2, .int x2), (3, .int x3), (4, .int x4), (5, .int x5), (6, .int x6), (7, .int x7), (8, .int x8), (9, .int x9), (10, .int x10)] [] m := by
  refine g_iload 10 dX12_exchange_78 rfl ?_
  refine g_aload_n 0 dX12_exchange_80 rfl rfl ?_
  refine g_getR dX12_exchange_81 fl12_9 rfl sh535 (w12_1 hW sh535) ?_
  refine g_iconst (v := 4) dX12_exchange_84 (by decide) ?_
  refine g_iald (j := 4) dX12_exchange_85 (s12_1 sh535) (by unfold vp_in; decide) (by decide) ?_
  refine g_icmp_ge 168 dX12_exchange_86 (by decide) (fun q1 => ?_) (fun q1 => ?_)
  · refine g_iinc (v := x9 + (1 : Int32)) (ls2 := [(9, .int (x9 + (1 : Int32))), (0, .ref 535), (1, .int x1), (2, .int x2), (3, .int x3), (4, .int x4), (5, .int x5), (6, .int x6), (7, .int x7), (8, .int x8), (10, .int x10)]) 9 dX12_exchange_168 rfl rfl (by decide) rfl ?_
    refine g_goto 64 dX12_exchange_171 (by decide) ?_
    exact g_ls [1, 2, 3, 4, 5, 6, 7, 8, 9, 0] rfl (h1 q1)
  · refine g_iload 4 dX12_exchange_89 rfl ?_
    refine g_iload 9 dX12_exchange_91 rfl ?_
    refine g_callS (As := [.int x4, .int x9]) (st := []) dX12_exchange_93 clX12_332 rfl rfl (Nat.le_of_ble_eq_true rfl) (rmSH (by decide) (by decide)) (s_has hW (fun q2 => ?_) (fun q2 => ?_))
    · refine g_if_eq 162 dX12_exchange_96 (by decide) (fun q3 => absurd q3 (by decide)) (fun q3 => ?_)
      refine g_iload 5 dX12_exchange_99 rfl ?_
      refine g_iload 10 dX12_exchange_101 rfl ?_
      refine g_callS (As := [.int x5, .int x10]) (st := []) dX12_exchange_103 clX12_332 rfl rfl (Nat.le_of_ble_eq_true rfl) (rmSH (by decide) (by decide)) (s_has hW (fun q4 => ?_) (fun q4 => ?_))
      · refine g_if_eq 162 dX12_exchange_106 (by decide) (fun q5 => absurd q5 (by decide)) (fun q5 => ?_)
        refine g_iconst (v := 1) dX12_exchange_109 (by decide) ?_
        refine g_iload 9 dX12_exchange_110 rfl ?_
        refine g_ishl dX12_exchange_112 ?_
        refine g_iconst (v := 1) dX12_exchange_113 (by decide) ?_
        refine g_iload 10 dX12_exchange_114 rfl ?_
        refine g_ishl dX12_exchange_116 ?_
        refine g_ior dX12_exchange_117 ?_
        refine g_istore (ls2 := [(11, .int (((1 : Int32) <<< (x9 &&& 31)) ||| ((1 : Int32) <<< (x10 &&& 31)))), (0, .ref 535), (1, .int x1), (2, .int x2), (3, .int x3), (4, .int x4), (5, .int x5), (6, .int x6), (7, .int x7), (8, .int x8), (9, .int x9), (10, .int x10)]) dX12_exchange_118 (by decide) rfl ?_
        refine g_aload_n 1 dX12_exchange_120 rfl rfl ?_
        refine g_iload_n 2 dX12_exchange_121 rfl rfl ?_
        refine g_iload 5 dX12_exchange_122 rfl ?_
        refine g_iload 0 dX12_exchange_124 rfl ?_
        refine g_ixor dX12_exchange_126 ?_
        refine g_callV (As := [.int x1, .int (x4 ^^^ (((1 : Int32) <<< (x9 &&& 31)) ||| ((1 : Int32) <<< (x10 &&& 31))))]) (st := []) dX12_exchange_127 clX12_428 sh535 rfl rfl (Nat.le_of_ble_eq_true rfl) (rmSH (by decide) (by decide)) (s_home hW (h2 q1 q2 q4) (h3 q1 q2 q4) ?_)
        show Go X 4 mX12_exchange Q 130 [(11, .int (((1 : Int32) <<< (x9 &&& 31)) ||| ((1 : Int32) <<< (x10 &&& 31)))), (0, .ref 535), (1, .int x1), (2, .int x2), (3, .int x3), (4, .int x4), (5, .int x5), (6, .int x6), (7, .int x7), (8, .int x8), (9, .int x9), (10, .int x10)] [.int (dyI (mI m 540) (mI m 541 x1.toNatClampNeg) (wSum (mI m 542) (x4 ^^^ (((1 : Int32) <<< (x9 &&& 31)) ||| ((1 : Int32) <<< (x10 &&& 31)))) (mI m 536 4).toNatClampNeg) (mI m 537 x1.toNatClampNeg) (mI m 536 2))] m
        refine g_aload_n 1 dX12_exchange_130 rfl rfl ?_
        refine g_iload_n 3 dX12_exchange_131 rfl rfl ?_
        refine g_iload 6 dX12_exchange_132 rfl ?_
        refine g_iload 0 dX12_exchange_134 rfl ?_
        refine g_ixor dX12_exchange_136 ?_
        refine g_callV (As := [.int x2, .int (x5 ^^^ (((1 : Int32) <<< (x9 &&& 31)) ||| ((1 : Int32) <<< (x10 &&& 31))))]) (st := [.int (dyI (mI m 540) (mI m 541 x1.toNatClampNeg) (wSum (mI m 542) (x4 ^^^ (((1 : Int32) <<< (x9 &&& 31)) ||| ((1 : Int32) <<< (x10 &&& 31)))) (mI m 536 4).toNatClampNeg) (mI m 537 x1.toNatClampNeg) (mI m 536 2))]) dX12_exchange_137 clX12_428 sh535 rfl rfl (Nat.le_of_ble_eq_true rfl) (rmSH (by decide) (by decide)) (s_home hW (h2 q1 q2 q4) (h4 q1 q2 q4) ?_)
        show Go X 4 mX12_exchange Q 140 [(11, .int (((1 : Int32) <<< (x9 &&& 31)) ||| ((1 : Int32) <<< (x10 &&& 31)))), (0, .ref 535), (1, .int x1), (2, .int x2), (3, .int x3), (4, .int x4), (5, .int x5), (6, .int x6), (7, .int x7), (8, .int x8), (9, .int x9), (10, .int x10)] [.int (dyI (mI m 540) (mI m 541 x2.toNatClampNeg) (wSum (mI m 542) (x5 ^^^ (((1 : Int32) <<< (x9 &&& 31)) ||| ((1 : Int32) <<< (x10 &&& 31)))) (mI m 536 4).toNatClampNeg) (mI m 537 x2.toNatClampNeg) (mI m 536 2)), .int (dyI (mI m 540) (mI m 541 x1.toNatClampNeg) (wSum (mI m 542) (x4 ^^^ (((1 : Int32) <<< (x9 &&& 31)) ||| ((1 : Int32) <<< (x10 &&& 31)))) (mI m 536 4).toNatClampNeg) (mI m 537 x1.toNatClampNeg) (mI m 536 2))] m
        refine g_iadd dX12_exchange_140 ?_
        refine g_istore (ls2 := [(12, .int ((dyI (mI m 540) (mI m 541 x1.toNatClampNeg) (wSum (mI m 542) (x4 ^^^ (((1 : Int32) <<< (x9 &&& 31)) ||| ((1 : Int32) <<< (x10 &&& 31)))) (mI m 536 4).toNatClampNeg) (mI m 537 x1.toNatClampNeg) (mI m 536 2)) + (dyI (mI m 540) (mI m 541 x2.toNatClampNeg) (wSum (mI m 542) (x5 ^^^ (((1 : Int32) <<< (x9 &&& 31)) ||| ((1 : Int32) <<< (x10 &&& 31)))) (mI m 536 4).toNatClampNeg) (mI m 537 x2.toNatClampNeg) (mI m 536 2)))), (11, .int (((1 : Int32) <<< (x9 &&& 31)) ||| ((1 : Int32) <<< (x10 &&& 31)))), (0, .ref 535), (1, .int x1), (2, .int x2), (3, .int x3), (4, .int x4), (5, .int x5), (6, .int x6), (7, .int x7), (8, .int x8), (9, .int x9), (10, .int x10)]) dX12_exchange_141 (by decide) rfl ?_
        refine g_iload 0 dX12_exchange_143 rfl ?_
        refine g_iload 8 dX12_exchange_145 rfl ?_
        refine g_icmp_ge 162 dX12_exchange_147 (by decide) (fun q6 => ?_) (fun q6 => ?_)
        · refine g_iinc (v := x10 + (1 : Int32)) (ls2 := [(10, .int (x10 + (1 : Int32))), (12, .int ((dyI (mI m 540) (mI m 541 x1.toNatClampNeg) (wSum (mI m 542) (x4 ^^^ (((1 : Int32) <<< (x9 &&& 31)) ||| ((1 : Int32) <<< (x10 &&& 31)))) (mI m 536 4).toNatClampNeg) (mI m 537 x1.toNatClampNeg) (mI m 536 2)) + (dyI (mI m 540) (mI m 541 x2.toNatClampNeg) (wSum (mI m 542) (x5 ^^^ (((1 : Int32) <<< (x9 &&& 31)) ||| ((1 : Int32) <<< (x10 &&& 31)))) (mI m 536 4).toNatClampNeg) (mI m 537 x2.toNatClampNeg) (mI m 536 2)))), (11, .int (((1 : Int32) <<< (x9 &&& 31)) ||| ((1 : Int32) <<< (x10 &&& 31)))), (0, .ref 535), (1, .int x1), (2, .int x2), (3, .int x3), (4, .int x4), (5, .int x5), (6, .int x6), (7, .int x7), (8, .int x8), (9, .int x9)]) 12 dX12_exchange_162 rfl rfl (by decide) rfl ?_
          refine g_goto 78 dX12_exchange_165 (by decide) ?_
          exact g_ls [3, 4, 5, 6, 7, 8, 9, 10, 11, 12, 0] rfl (h5 q1 q2 q4 q6)
        · refine g_iload 0 dX12_exchange_150 rfl ?_
          refine g_istore (ls2 := [(6, .int ((dyI (mI m 540) (mI m 541 x1.toNatClampNeg) (wSum (mI m 542) (x4 ^^^ (((1 : Int32) <<< (x9 &&& 31)) ||| ((1 : Int32) <<< (x10 &&& 31)))) (mI m 536 4).toNatClampNeg) (mI m 537 x1.toNatClampNeg) (mI m 536 2)) + (dyI (mI m 540) (mI m 541 x2.toNatClampNeg) (wSum (mI m 542) (x5 ^^^ (((1 : Int32) <<< (x9 &&& 31)) ||| ((1 : Int32) <<< (x10 &&& 31)))) (mI m 536 4).toNatClampNeg) (mI m 537 x2.toNatClampNeg) (mI m 536 2)))), (12, .int ((dyI (mI m 540) (mI m 541 x1.toNatClampNeg) (wSum (mI m 542) (x4 ^^^ (((1 : Int32) <<< (x9 &&& 31)) ||| ((1 : Int32) <<< (x10 &&& 31)))) (mI m 536 4).toNatClampNeg) (mI m 537 x1.toNatClampNeg) (mI m 536 2)) + (dyI (mI m 540) (mI m 541 x2.toNatClampNeg) (wSum (mI m 542) (x5 ^^^ (((1 : Int32) <<< (x9 &&& 31)) ||| ((1 : Int32) <<< (x10 &&& 31)))) (mI m 536 4).toNatClampNeg) (mI m 537 x2.toNatClampNeg) (mI m 536 2)))), (11, .int (((1 : Int32) <<< (x9 &&& 31)) ||| ((1 : Int32) <<< (x10 &&& 31)))), (0, .ref 535), (1, .int x1), (2, .int x2), (3, .int x3), (4, .int x4), (5, .int x5), (7, .int x7), (8, .int x8), (9, .int x9), (10, .int x10)]) dX12_exchange_152 (by decide) rfl ?_
          refine g_iload 11 dX12_exchange_154 rfl ?_
          refine g_istore (ls2 := [(7, .int x9), (6, .int ((dyI (mI m 540) (mI m 541 x1.toNatClampNeg) (wSum (mI m 542) (x4 ^^^ (((1 : Int32) <<< (x9 &&& 31)) ||| ((1 : Int32) <<< (x10 &&& 31)))) (mI m 536 4).toNatClampNeg) (mI m 537 x1.toNatClampNeg) (mI m 536 2)) + (dyI (mI m 540) (mI m 541 x2.toNatClampNeg) (wSum (mI m 542) (x5 ^^^ (((1 : Int32) <<< (x9 &&& 31)) ||| ((1 : Int32) <<< (x10 &&& 31)))) (mI m 536 4).toNatClampNeg) (mI m 537 x2.toNatClampNeg) (mI m 536 2)))), (12, .int ((dyI (mI m 540) (mI m 541 x1.toNatClampNeg) (wSum (mI m 542) (x4 ^^^ (((1 : Int32) <<< (x9 &&& 31)) ||| ((1 : Int32) <<< (x10 &&& 31)))) (mI m 536 4).toNatClampNeg) (mI m 537 x1.toNatClampNeg) (mI m 536 2)) + (dyI (mI m 540) (mI m 541 x2.toNatClampNeg) (wSum (mI m 542) (x5 ^^^ (((1 : Int32) <<< (x9 &&& 31)) ||| ((1 : Int32) <<< (x10 &&& 31)))) (mI m 536 4).toNatClampNeg) (mI m 537 x2.toNatClampNeg) (mI m 536 2)))), (11, .int (((1 : Int32) <<< (x9 &&& 31)) ||| ((1 : Int32) <<< (x10 &&& 31)))), (0, .ref 535), (1, .int x1), (2, .int x2), (3, .int x3), (4, .int x4), (5, .int x5), (8, .int x8), (9, .int x9), (10, .int x10)]) dX12_exchange_156 (by decide) rfl ?_
          refine g_iload 12 dX12_exchange_158 rfl ?_
          refine g_istore (ls2 := [(8, .int x10), (7, .int x9), (6, .int ((dyI (mI m 540) (mI m 541 x1.toNatClampNeg) (wSum (mI m 542) (x4 ^^^ (((1 : Int32) <<< (x9 &&& 31)) ||| ((1 : Int32) <<< (x10 &&& 31)))) (mI m 536 4).toNatClampNeg) (mI m 537 x1.toNatClampNeg) (mI m 536 2)) + (dyI (mI m 540) (mI m 541 x2.toNatClampNeg) (wSum (mI m 542) (x5 ^^^ (((1 : Int32) <<< (x9 &&& 31)) ||| ((1 : Int32) <<< (x10 &&& 31)))) (mI m 536 4).toNatClampNeg) (mI m 537 x2.toNatClampNeg) (mI m 536 2)))), (12, .int ((dyI (mI m 540) (mI m 541 x1.toNatClampNeg) (wSum (mI m 542) (x4 ^^^ (((1 : Int32) <<< (x9 &&& 31)) ||| ((1 : Int32) <<< (x10 &&& 31)))) (mI m 536 4).toNatClampNeg) (mI m 537 x1.toNatClampNeg) (mI m 536 2)) + (dyI (mI m 540) (mI m 541 x2.toNatClampNeg) (wSum (mI m 542) (x5 ^^^ (((1 : Int32) <<< (x9 &&& 31)) ||| ((1 : Int32) <<< (x10 &&& 31)))) (mI m 536 4).toNatClampNeg) (mI m 537 x2.toNatClampNeg) (mI m 536 2)))), (11, .int (((1 : Int32) <<< (x9 &&& 31)) ||| ((1 : Int32) <<< (x10 &&& 31)))), (0, .ref 535), (1, .int x1), (2, .int x2), (3, .int x3), (4, .int x4), (5, .int x5), (9, .int x9), (10, .int x10)]) dX12_exchange_160 (by decide) rfl ?_
          refine g_iinc (v := x10 + (1 : Int32)) (ls2 := [(10, .int (x10 + (1 : Int32))), (8, .int x10), (7, .int x9), (6, .int ((dyI (mI m 540) (mI m 541 x1.toNatClampNeg) (wSum (mI m 542) (x4 ^^^ (((1 : Int32) <<< (x9 &&& 31)) ||| ((1 : Int32) <<< (x10 &&& 31)))) (mI m 536 4).toNatClampNeg) (mI m 537 x1.toNatClampNeg) (mI m 536 2)) + (dyI (mI m 540) (mI m 541 x2.toNatClampNeg) (wSum (mI m 542) (x5 ^^^ (((1 : Int32) <<< (x9 &&& 31)) ||| ((1 : Int32) <<< (x10 &&& 31)))) (mI m 536 4).toNatClampNeg) (mI m 537 x2.toNatClampNeg) (mI m 536 2)))), (12, .int ((dyI (mI m 540) (mI m 541 x1.toNatClampNeg) (wSum (mI m 542) (x4 ^^^ (((1 : Int32) <<< (x9 &&& 31)) ||| ((1 : Int32) <<< (x10 &&& 31)))) (mI m 536 4).toNatClampNeg) (mI m 537 x1.toNatClampNeg) (mI m 536 2)) + (dyI (mI m 540) (mI m 541 x2.toNatClampNeg) (wSum (mI m 542) (x5 ^^^ (((1 : Int32) <<< (x9 &&& 31)) ||| ((1 : Int32) <<< (x10 &&& 31)))) (mI m 536 4).toNatClampNeg) (mI m 537 x2.toNatClampNeg) (mI m 536 2)))), (11, .int (((1 : Int32) <<< (x9 &&& 31)) ||| ((1 : Int32) <<< (x10 &&& 31)))), (0, .ref 535), (1, .int x1), (2, .int x2), (3, .int x3), (4, .int x4), (5, .int x5), (9, .int x9)]) 12 dX12_exchange_162 rfl rfl (by decide) rfl ?_
          refine g_goto 78 dX12_exchange_165 (by decide) ?_
          exact g_ls [6, 7, 8, 9, 10, 11, 3, 2, 1, 12, 0] rfl (h6 q1 q2 q4 q6)
      · refine g_if_eq 162 dX12_exchange_106 (by decide) (fun q7 => ?_) (fun q7 => absurd q7 (by decide))
        refine g_iinc (v := x10 + (1 : Int32)) (ls2 := [(10, .int (x10 + (1 : Int32))), (0, .ref 535), (1, .int x1), (2, .int x2), (3, .int x3), (4, .int x4), (5, .int x5), (6, .int x6), (7, .int x7), (8, .int x8), (9, .int x9)]) 10 dX12_exchange_162 rfl rfl (by decide) rfl ?_
        refine g_goto 78 dX12_exchange_165 (by decide) ?_
        exact g_ls [1, 2, 3, 4, 5, 6, 7, 8, 9, 10, 0] rfl (h7 q1 q2 q4)
    · refine g_if_eq 162 dX12_exchange_96 (by decide) (fun q8 => ?_) (fun q8 => absurd q8 (by decide))
      refine g_iinc (v := x10 + (1 : Int32)) (ls2 := [(10, .int (x10 + (1 : Int32))), (0, .ref 535), (1, .int x1), (2, .int x2), (3, .int x3), (4, .int x4), (5, .int x5), (6, .int x6), (7, .int x7), (8, .int x8), (9, .int x9)]) 10 dX12_exchange_162 rfl rfl (by decide) rfl ?_
      refine g_goto 78 dX12_exchange_165 (by decide) ?_
      exact g_ls [1, 2, 3, 4, 5, 6, 7, 8, 9, 10, 0] rfl (h8 q1 q2)
theorem bX12_pence_0 {X : pX} {Q : Option Value → pMem → Prop} {m : pMem} {x1 : Int32} {x2 : Int32} (hW : Wf m)
    (h1 : ¬ x2 < 0 ∧ ¬ (mI m 536 3 - (1 : Int32)) < x2 → ¬ x1 < (0 : Int32) ∧ ¬ (9999 : Int32) < x1 → Go X 2 mX12_pence Q 27 [(0, .ref 535), (1, .int x1), (2, .int x2), (3, .int (0 : Int32)), (4, .int (0 : Int32))] [] m)
    (h2 : ¬ x2 < 0 ∧ ¬ (mI m 536 3 - (1 : Int32)) < x2 → ¬ (¬ x1 < (0 : Int32) ∧ ¬ (9999 : Int32) < x1) → Q (some (.int (-1 : Int32))) m)
    (h3 : ¬ (¬ x2 < 0 ∧ ¬ (mI m 536 3 - (1 : Int32)) < x2) → Q (some (.int (-1 : Int32))) m) :
    Go X 2 mX12_pence Q 0 [(0, .ref 535), (1, .int x1), (2, .int x2)] [] m := by
  refine g_aload_n 0 dX12_pence_0 rfl rfl ?_
  refine g_iload_n 2 dX12_pence_1 rfl rfl ?_
  refine g_callV (As := [.int x2]) (st := []) dX12_pence_2 clX12_334 sh535 rfl rfl (Nat.le_of_ble_eq_true rfl) (rmSH (by decide) (by decide)) (s_mPerson hW (fun q1 => ?_) (fun q1 => ?_))
  · refine g_if_eq 20 dX12_pence_5 (by decide) (fun q2 => absurd q2 (by decide)) (fun q2 => ?_)
    refine g_iload_n 1 dX12_pence_8 rfl rfl ?_
    refine g_i2l dX12_pence_9 ?_
    refine g_lconst (v := 0) dX12_pence_10 (by decide) ?_
    refine g_ldc2 (v := 9999) dX12_pence_11 cjX12_461 ?_
    refine g_callS (As := [.long x1.toInt64, .long (0 : Int64), .long (9999 : Int64)]) (st := []) dX12_pence_14 clX12_128 rfl rfl (Nat.le_of_ble_eq_true rfl) (rmSH (by decide) (by decide)) (s_in (x := x1) (lo := (0 : Int32)) (hi := (9999 : Int32)) hW (by first | rfl | decide) (by first | rfl | decide) (by first | rfl | decide) (fun q3 => ?_) (fun q3 => ?_))
    · refine g_if_ne 22 dX12_pence_17 (by decide) (fun q4 => ?_) (fun q4 => absurd q4 (by decide))
      refine g_iconst (v := 0) dX12_pence_22 (by decide) ?_
      refine g_istore_n (ls2 := [(3, .int (0 : Int32)), (0, .ref 535), (1, .int x1), (2, .int x2)]) dX12_pence_23 rfl (by decide) rfl ?_
      refine g_iconst (v := 0) dX12_pence_24 (by decide) ?_
      refine g_istore (ls2 := [(4, .int (0 : Int32)), (3, .int (0 : Int32)), (0, .ref 535), (1, .int x1), (2, .int x2)]) dX12_pence_25 (by decide) rfl ?_
      exact g_ls [2, 3, 4, 1, 0] rfl (h1 q1 q3)
    · refine g_if_ne 22 dX12_pence_17 (by decide) (fun q5 => absurd q5 (by decide)) (fun q5 => ?_)
      refine g_iconst (v := -1) dX12_pence_20 (by decide) ?_
      exact g_iret dX12_pence_21 rfl enSH (h2 q1 q3)
  · refine g_if_eq 20 dX12_pence_5 (by decide) (fun q6 => ?_) (fun q6 => absurd q6 (by decide))
    refine g_iconst (v := -1) dX12_pence_20 (by decide) ?_
    exact g_iret dX12_pence_21 rfl enSH (h3 q1)
theorem bX12_pence_27 {X : pX} {Q : Option Value → pMem → Prop} {m : pMem} {x1 : Int32} {x2 : Int32} {x3 : Int32} {x4 : Int32} (hW : Wf m)
    (h1 : (mI m 536 3) ≤ x4 → ¬ x3 = 0 → vp_in (mI m 536 4) 7)
    (h2 : (mI m 536 3) ≤ x4 → ¬ x3 = 0 → Go X 2 mX12_pence Q 85 [(0, .ref 535), (1, .int x1), (2, .int x2), (3, .int x3), (4, .int x1), (5, .int (0 : Int32)), (6, .int (x1 * (wSum (mI m 543) (tAt (mI m 539) x2 (mI m 536 4).toNatClampNeg) (mI m 536 4).toNatClampNeg))), (7, .int (0 : Int32))] [] m)
    (h3 : (mI m 536 3) ≤ x4 → x3 = 0 → Q (some (.int (0 : Int32))) m)
    (h4 : ¬ ((mI m 536 3) ≤ x4) → vp_in (mI m 536 4) 7)
    (h5 : ¬ ((mI m 536 3) ≤ x4) → Go X 2 mX12_pence Q 27 [(0, .ref 535), (1, .int x1), (2, .int x2), (3, .int (x3 + (wSum (mI m 543) (tAt (mI m 539) x4 (mI m 536 4).toNatClampNeg) (mI m 536 4).toNatClampNeg))), (4, .int (x4 + (1 : Int32)))] [] m) :
    Go X 2 mX12_pence Q 27 [(0, .ref 535), (1, .int x1), (2, .int x2), (3, .int x3), (4, .int x4)] [] m := by
  refine g_iload 4 dX12_pence_27 rfl ?_
  refine g_aload_n 0 dX12_pence_29 rfl rfl ?_
  refine g_getR dX12_pence_30 fl12_9 rfl sh535 (w12_1 hW sh535) ?_
  refine g_iconst (v := 3) dX12_pence_33 (by decide) ?_
  refine g_iald (j := 3) dX12_pence_34 (s12_1 sh535) (by unfold vp_in; decide) (by decide) ?_
  refine g_icmp_ge 57 dX12_pence_35 (by decide) (fun q1 => ?_) (fun q1 => ?_)
  · refine g_iload_n 3 dX12_pence_57 rfl rfl ?_
    refine g_if_ne 63 dX12_pence_58 (by decide) (fun q2 => ?_) (fun q2 => ?_)
    · refine g_iload_n 1 dX12_pence_63 rfl rfl ?_
      refine g_istore (ls2 := [(4, .int x1), (0, .ref 535), (1, .int x1), (2, .int x2), (3, .int x3)]) dX12_pence_64 (by decide) rfl ?_
      refine g_iconst (v := 0) dX12_pence_66 (by decide) ?_
      refine g_istore (ls2 := [(5, .int (0 : Int32)), (4, .int x1), (0, .ref 535), (1, .int x1), (2, .int x2), (3, .int x3)]) dX12_pence_67 (by decide) rfl ?_
      refine g_iload_n 3 dX12_pence_69 rfl rfl ?_
      refine g_aload_n 2 dX12_pence_70 rfl rfl ?_
      refine g_aload_n 2 dX12_pence_71 rfl rfl ?_
      refine g_iload_n 4 dX12_pence_72 rfl rfl ?_
      refine g_callV (As := [.int x2]) (st := [.ref 535, .int x1]) dX12_pence_73 clX12_338 sh535 rfl rfl (Nat.le_of_ble_eq_true rfl) (rmSH (by decide) (by decide)) (s_mThings hW (h1 q1 q2) ?_)
      show Go X 2 mX12_pence Q 76 [(5, .int (0 : Int32)), (4, .int x1), (0, .ref 535), (1, .int x1), (2, .int x2), (3, .int x3)] [.int (tAt (mI m 539) x2 (mI m 536 4).toNatClampNeg), .ref 535, .int x1] m
      refine g_callV (As := [.int (tAt (mI m 539) x2 (mI m 536 4).toNatClampNeg)]) (st := [.int x1]) dX12_pence_76 clX12_344 sh535 rfl rfl (Nat.le_of_ble_eq_true rfl) (rmSH (by decide) (by decide)) (s_mWorth hW (h1 q1 q2) ?_)
      show Go X 2 mX12_pence Q 79 [(5, .int (0 : Int32)), (4, .int x1), (0, .ref 535), (1, .int x1), (2, .int x2), (3, .int x3)] [.int (wSum (mI m 543) (tAt (mI m 539) x2 (mI m 536 4).toNatClampNeg) (mI m 536 4).toNatClampNeg), .int x1] m
      refine g_imul dX12_pence_79 ?_
      refine g_istore (ls2 := [(6, .int (x1 * (wSum (mI m 543) (tAt (mI m 539) x2 (mI m 536 4).toNatClampNeg) (mI m 536 4).toNatClampNeg))), (5, .int (0 : Int32)), (4, .int x1), (0, .ref 535), (1, .int x1), (2, .int x2), (3, .int x3)]) dX12_pence_80 (by decide) rfl ?_
      refine g_iconst (v := 0) dX12_pence_82 (by decide) ?_
      refine g_istore (ls2 := [(7, .int (0 : Int32)), (6, .int (x1 * (wSum (mI m 543) (tAt (mI m 539) x2 (mI m 536 4).toNatClampNeg) (mI m 536 4).toNatClampNeg))), (5, .int (0 : Int32)), (4, .int x1), (0, .ref 535), (1, .int x1), (2, .int x2), (3, .int x3)]) dX12_pence_83 (by decide) rfl ?_
      exact g_ls [4, 5, 6, 7, 3, 2, 1, 0] rfl (h2 q1 q2)
    · refine g_iconst (v := 0) dX12_pence_61 (by decide) ?_
      exact g_iret dX12_pence_62 rfl enSH (h3 q1 q2)
  · refine g_iload_n 3 dX12_pence_38 rfl rfl ?_
    refine g_aload_n 0 dX12_pence_39 rfl rfl ?_
    refine g_aload_n 0 dX12_pence_40 rfl rfl ?_
    refine g_iload 4 dX12_pence_41 rfl ?_
    refine g_callV (As := [.int x4]) (st := [.ref 535, .int x3]) dX12_pence_43 clX12_338 sh535 rfl rfl (Nat.le_of_ble_eq_true rfl) (rmSH (by decide) (by decide)) (s_mThings hW (h4 q1) ?_)
    show Go X 2 mX12_pence Q 46 [(0, .ref 535), (1, .int x1), (2, .int x2), (3, .int x3), (4, .int x4)] [.int (tAt (mI m 539) x4 (mI m 536 4).toNatClampNeg), .ref 535, .int x3] m
    refine g_callV (As := [.int (tAt (mI m 539) x4 (mI m 536 4).toNatClampNeg)]) (st := [.int x3]) dX12_pence_46 clX12_344 sh535 rfl rfl (Nat.le_of_ble_eq_true rfl) (rmSH (by decide) (by decide)) (s_mWorth hW (h4 q1) ?_)
    show Go X 2 mX12_pence Q 49 [(0, .ref 535), (1, .int x1), (2, .int x2), (3, .int x3), (4, .int x4)] [.int (wSum (mI m 543) (tAt (mI m 539) x4 (mI m 536 4).toNatClampNeg) (mI m 536 4).toNatClampNeg), .int x3] m
    refine g_iadd dX12_pence_49 ?_
    refine g_istore_n (ls2 := [(3, .int (x3 + (wSum (mI m 543) (tAt (mI m 539) x4 (mI m 536 4).toNatClampNeg) (mI m 536 4).toNatClampNeg))), (0, .ref 535), (1, .int x1), (2, .int x2), (4, .int x4)]) dX12_pence_50 rfl (by decide) rfl ?_
    refine g_iinc (v := x4 + (1 : Int32)) (ls2 := [(4, .int (x4 + (1 : Int32))), (3, .int (x3 + (wSum (mI m 543) (tAt (mI m 539) x4 (mI m 536 4).toNatClampNeg) (mI m 536 4).toNatClampNeg))), (0, .ref 535), (1, .int x1), (2, .int x2)]) 4 dX12_pence_51 rfl rfl (by decide) rfl ?_
    refine g_goto 27 dX12_pence_54 (by decide) ?_
    exact g_ls [2, 3, 4, 1, 0] rfl (h5 q1)
theorem bX12_pence_85 {X : pX} {Q : Option Value → pMem → Prop} {m : pMem} {x1 : Int32} {x2 : Int32} {x3 : Int32} {x4 : Int32} {x5 : Int32} {x6 : Int32} {x7 : Int32} (hW : Wf m)
    (h1 : (mI m 536 3) ≤ x7 → ¬ x3 = 0)
    (h2 : (mI m 536 3) ≤ x7 → x4 ≤ x5 → Q (some (.int ((x6 / x3) + (0 : Int32)))) m)
    (h3 : (mI m 536 3) ≤ x7 → ¬ (x4 ≤ x5) → Q (some (.int ((x6 / x3) + (1 : Int32)))) m)
    (h4 : ¬ ((mI m 536 3) ≤ x7) → vp_in (mI m 536 4) 7)
    (h5 : ¬ ((mI m 536 3) ≤ x7) → ¬ x3 = 0)
    (h6 : ¬ ((mI m 536 3) ≤ x7) → 0 < (((x1 * (wSum (mI m 543) (tAt (mI m 539) x7 (mI m 536 4).toNatClampNeg) (mI m 536 4).toNatClampNeg)) - (x1 * (wSum (mI m 543) (tAt (mI m 539) x7 (mI m 536 4).toNatClampNeg) (mI m 536 4).toNatClampNeg)) / x3 * x3) - (x6 - x6 / x3 * x3)) → Go X 2 mX12_pence Q 85 [(0, .ref 535), (1, .int x1), (2, .int x2), (3, .int x3), (4, .int (x4 - ((x1 * (wSum (mI m 543) (tAt (mI m 539) x7 (mI m 536 4).toNatClampNeg) (mI m 536 4).toNatClampNeg)) / x3))), (5, .int (x5 + (1 : Int32))), (6, .int x6), (7, .int (x7 + (1 : Int32)))] [] m)
    (h7 : ¬ ((mI m 536 3) ≤ x7) → ¬ (0 < (((x1 * (wSum (mI m 543) (tAt (mI m 539) x7 (mI m 536 4).toNatClampNeg) (mI m 536 4).toNatClampNeg)) - (x1 * (wSum (mI m 543) (tAt (mI m 539) x7 (mI m 536 4).toNatClampNeg) (mI m 536 4).toNatClampNeg)) / x3 * x3) - (x6 - x6 / x3 * x3))) → ¬ (((x1 * (wSum (mI m 543) (tAt (mI m 539) x7 (mI m 536 4).toNatClampNeg) (mI m 536 4).toNatClampNeg)) - (x1 * (wSum (mI m 543) (tAt (mI m 539) x7 (mI m 536 4).toNatClampNeg) (mI m 536 4).toNatClampNeg)) / x3 * x3) - (x6 - x6 / x3 * x3)) = 0 → Go X 2 mX12_pence Q 85 [(0, .ref 535), (1, .int x1), (2, .int x2), (3, .int x3), (4, .int (x4 - ((x1 * (wSum (mI m 543) (tAt (mI m 539) x7 (mI m 536 4).toNatClampNeg) (mI m 536 4).toNatClampNeg)) / x3))), (5, .int (x5 + (0 : Int32))), (6, .int x6), (7, .int (x7 + (1 : Int32)))] [] m)
    (h8 : ¬ ((mI m 536 3) ≤ x7) → ¬ (0 < (((x1 * (wSum (mI m 543) (tAt (mI m 539) x7 (mI m 536 4).toNatClampNeg) (mI m 536 4).toNatClampNeg)) - (x1 * (wSum (mI m 543) (tAt (mI m 539) x7 (mI m 536 4).toNatClampNeg) (mI m 536 4).toNatClampNeg)) / x3 * x3) - (x6 - x6 / x3 * x3))) → (((x1 * (wSum (mI m 543) (tAt (mI m 539) x7 (mI m 536 4).toNatClampNeg) (mI m 536 4).toNatClampNeg)) - (x1 * (wSum (mI m 543) (tAt (mI m 539) x7 (mI m 536 4).toNatClampNeg) (mI m 536 4).toNatClampNeg)) / x3 * x3) - (x6 - x6 / x3 * x3)) = 0 → x2 ≤ x7 → Go X 2 mX12_pence Q 85 [(0, .ref 535), (1, .int x1), (2, .int x2), (3, .int x3), (4, .int (x4 - ((x1 * (wSum (mI m 543) (tAt (mI m 539) x7 (mI m 536 4).toNatClampNeg) (mI m 536 4).toNatClampNeg)) / x3))), (5, .int (x5 + (0 : Int32))), (6, .int x6), (7, .int (x7 + (1 : Int32)))] [] m)
    (h9 : ¬ ((mI m 536 3) ≤ x7) → ¬ (0 < (((x1 * (wSum (mI m 543) (tAt (mI m 539) x7 (mI m 536 4).toNatClampNeg) (mI m 536 4).toNatClampNeg)) - (x1 * (wSum (mI m 543) (tAt (mI m 539) x7 (mI m 536 4).toNatClampNeg) (mI m 536 4).toNatClampNeg)) / x3 * x3) - (x6 - x6 / x3 * x3))) → (((x1 * (wSum (mI m 543) (tAt (mI m 539) x7 (mI m 536 4).toNatClampNeg) (mI m 536 4).toNatClampNeg)) - (x1 * (wSum (mI m 543) (tAt (mI m 539) x7 (mI m 536 4).toNatClampNeg) (mI m 536 4).toNatClampNeg)) / x3 * x3) - (x6 - x6 / x3 * x3)) = 0 → ¬ (x2 ≤ x7) → Go X 2 mX12_pence Q 85 [(0, .ref 535), (1, .int x1), (2, .int x2), (3, .int x3), (4, .int (x4 - ((x1 * (wSum (mI m 543) (tAt (mI m 539) x7 (mI m 536 4).toNatClampNeg) (mI m 536 4).toNatClampNeg)) / x3))), (5, .int (x5 + (1 : Int32))), (6, .int x6), (7, .int (x7 + (1 : Int32)))] [] m) :
    Go X 2 mX12_pence Q 85 [(0, .ref 535), (1, .int x1), (2, .int x2), (3, .int x3), (4, .int x4), (5, .int x5), (6, .int x6), (7, .int x7)] [] m := by
  refine g_iload 7 dX12_pence_85 rfl ?_
  refine g_aload_n 0 dX12_pence_87 rfl rfl ?_
  refine g_getR dX12_pence_88 fl12_9 rfl sh535 (w12_1 hW sh535) ?_
  refine g_iconst (v := 3) dX12_pence_91 (by decide) ?_
  refine g_iald (j := 3) dX12_pence_92 (s12_1 sh535) (by unfold vp_in; decide) (by decide) ?_
  refine g_icmp_ge 162 dX12_pence_93 (by decide) (fun q1 => ?_) (fun q1 => ?_)
  · refine g_iload 6 dX12_pence_162 rfl ?_
    refine g_iload_n 3 dX12_pence_164 rfl rfl ?_
    refine g_idiv dX12_pence_165 (h1 q1) ?_
    refine g_iload 5 dX12_pence_166 rfl ?_
    refine g_iload 4 dX12_pence_168 rfl ?_
    refine g_icmp_ge 177 dX12_pence_170 (by decide) (fun q2 => ?_) (fun q2 => ?_)
    · refine g_iconst (v := 0) dX12_pence_177 (by decide) ?_
      refine g_iadd dX12_pence_178 ?_
      exact g_iret dX12_pence_179 rfl enSH (h2 q1 q2)
    · refine g_iconst (v := 1) dX12_pence_173 (by decide) ?_
      refine g_goto 178 dX12_pence_174 (by decide) ?_
      refine g_iadd dX12_pence_178 ?_
      exact g_iret dX12_pence_179 rfl enSH (h3 q1 q2)
  · refine g_iload_n 1 dX12_pence_96 rfl rfl ?_
    refine g_aload_n 0 dX12_pence_97 rfl rfl ?_
    refine g_aload_n 0 dX12_pence_98 rfl rfl ?_
    refine g_iload 7 dX12_pence_99 rfl ?_
    refine g_callV (As := [.int x7]) (st := [.ref 535, .int x1]) dX12_pence_101 clX12_338 sh535 rfl rfl (Nat.le_of_ble_eq_true rfl) (rmSH (by decide) (by decide)) (s_mThings hW (h4 q1) ?_)
    show Go X 2 mX12_pence Q 104 [(0, .ref 535), (1, .int x1), (2, .int x2), (3, .int x3), (4, .int x4), (5, .int x5), (6, .int x6), (7, .int x7)] [.int (tAt (mI m 539) x7 (mI m 536 4).toNatClampNeg), .ref 535, .int x1] m
    refine g_callV (As := [.int (tAt (mI m 539) x7 (mI m 536 4).toNatClampNeg)]) (st := [.int x1]) dX12_pence_104 clX12_344 sh535 rfl rfl (Nat.le_of_ble_eq_true rfl) (rmSH (by decide) (by decide)) (s_mWorth hW (h4 q1) ?_)
    show Go X 2 mX12_pence Q 107 [(0, .ref 535), (1, .int x1), (2, .int x2), (3, .int x3), (4, .int x4), (5, .int x5), (6, .int x6), (7, .int x7)] [.int (wSum (mI m 543) (tAt (mI m 539) x7 (mI m 536 4).toNatClampNeg) (mI m 536 4).toNatClampNeg), .int x1] m
    refine g_imul dX12_pence_107 ?_
    refine g_istore (ls2 := [(8, .int (x1 * (wSum (mI m 543) (tAt (mI m 539) x7 (mI m 536 4).toNatClampNeg) (mI m 536 4).toNatClampNeg))), (0, .ref 535), (1, .int x1), (2, .int x2), (3, .int x3), (4, .int x4), (5, .int x5), (6, .int x6), (7, .int x7)]) dX12_pence_108 (by decide) rfl ?_
    refine g_iload 5 dX12_pence_110 rfl ?_
    refine g_iload 0 dX12_pence_112 rfl ?_
    refine g_iload_n 4 dX12_pence_114 rfl rfl ?_
    refine g_idiv dX12_pence_115 (h5 q1) ?_
    refine g_isub dX12_pence_116 ?_
    refine g_istore (ls2 := [(4, .int (x4 - ((x1 * (wSum (mI m 543) (tAt (mI m 539) x7 (mI m 536 4).toNatClampNeg) (mI m 536 4).toNatClampNeg)) / x3))), (8, .int (x1 * (wSum (mI m 543) (tAt (mI m 539) x7 (mI m 536 4).toNatClampNeg) (mI m 536 4).toNatClampNeg))), (0, .ref 535), (1, .int x1), (2, .int x2), (3, .int x3), (5, .int x5), (6, .int x6), (7, .int x7)]) dX12_pence_117 (by decide) rfl ?_
    refine g_iload 1 dX12_pence_119 rfl ?_
    refine g_iload_n 5 dX12_pence_121 rfl rfl ?_
    refine g_irem dX12_pence_122 (h5 q1) ?_
    refine g_iload 7 dX12_pence_123 rfl ?_
    refine g_iload_n 5 dX12_pence_125 rfl rfl ?_
    refine g_irem dX12_pence_126 (h5 q1) ?_
    refine g_isub dX12_pence_127 ?_
    refine g_istore (ls2 := [(9, .int (((x1 * (wSum (mI m 543) (tAt (mI m 539) x7 (mI m 536 4).toNatClampNeg) (mI m 536 4).toNatClampNeg)) - (x1 * (wSum (mI m 543) (tAt (mI m 539) x7 (mI m 536 4).toNatClampNeg) (mI m 536 4).toNatClampNeg)) / x3 * x3) - (x6 - x6 / x3 * x3))), (4, .int (x4 - ((x1 * (wSum (mI m 543) (tAt (mI m 539) x7 (mI m 536 4).toNatClampNeg) (mI m 536 4).toNatClampNeg)) / x3))), (8, .int (x1 * (wSum (mI m 543) (tAt (mI m 539) x7 (mI m 536 4).toNatClampNeg) (mI m 536 4).toNatClampNeg))), (0, .ref 535), (1, .int x1), (2, .int x2), (3, .int x3), (5, .int x5), (6, .int x6), (7, .int x7)]) dX12_pence_128 (by decide) rfl ?_
    refine g_iload 7 dX12_pence_130 rfl ?_
    refine g_iload 0 dX12_pence_132 rfl ?_
    refine g_if_gt 148 dX12_pence_134 (by decide) (fun q3 => ?_) (fun q3 => ?_)
    · refine g_iconst (v := 1) dX12_pence_148 (by decide) ?_
      refine g_goto 153 dX12_pence_149 (by decide) ?_
      refine g_iadd dX12_pence_153 ?_
      refine g_istore (ls2 := [(5, .int (x5 + (1 : Int32))), (9, .int (((x1 * (wSum (mI m 543) (tAt (mI m 539) x7 (mI m 536 4).toNatClampNeg) (mI m 536 4).toNatClampNeg)) - (x1 * (wSum (mI m 543) (tAt (mI m 539) x7 (mI m 536 4).toNatClampNeg) (mI m 536 4).toNatClampNeg)) / x3 * x3) - (x6 - x6 / x3 * x3))), (4, .int (x4 - ((x1 * (wSum (mI m 543) (tAt (mI m 539) x7 (mI m 536 4).toNatClampNeg) (mI m 536 4).toNatClampNeg)) / x3))), (8, .int (x1 * (wSum (mI m 543) (tAt (mI m 539) x7 (mI m 536 4).toNatClampNeg) (mI m 536 4).toNatClampNeg))), (0, .ref 535), (1, .int x1), (2, .int x2), (3, .int x3), (6, .int x6), (7, .int x7)]) dX12_pence_154 (by decide) rfl ?_
      refine g_iinc (v := x7 + (1 : Int32)) (ls2 := [(7, .int (x7 + (1 : Int32))), (5, .int (x5 + (1 : Int32))), (9, .int (((x1 * (wSum (mI m 543) (tAt (mI m 539) x7 (mI m 536 4).toNatClampNeg) (mI m 536 4).toNatClampNeg)) - (x1 * (wSum (mI m 543) (tAt (mI m 539) x7 (mI m 536 4).toNatClampNeg) (mI m 536 4).toNatClampNeg)) / x3 * x3) - (x6 - x6 / x3 * x3))), (4, .int (x4 - ((x1 * (wSum (mI m 543) (tAt (mI m 539) x7 (mI m 536 4).toNatClampNeg) (mI m 536 4).toNatClampNeg)) / x3))), (8, .int (x1 * (wSum (mI m 543) (tAt (mI m 539) x7 (mI m 536 4).toNatClampNeg) (mI m 536 4).toNatClampNeg))), (0, .ref 535), (1, .int x1), (2, .int x2), (3, .int x3), (6, .int x6)]) 9 dX12_pence_156 rfl rfl (by decide) rfl ?_
      refine g_goto 85 dX12_pence_159 (by decide) ?_
      exact g_ls [5, 6, 7, 8, 3, 1, 9, 0] rfl (h6 q1 q3)
    · refine g_iload 0 dX12_pence_137 rfl ?_
      refine g_if_ne 152 dX12_pence_139 (by decide) (fun q4 => ?_) (fun q4 => ?_)
      · refine g_iconst (v := 0) dX12_pence_152 (by decide) ?_
        refine g_iadd dX12_pence_153 ?_
        refine g_istore (ls2 := [(5, .int (x5 + (0 : Int32))), (9, .int (((x1 * (wSum (mI m 543) (tAt (mI m 539) x7 (mI m 536 4).toNatClampNeg) (mI m 536 4).toNatClampNeg)) - (x1 * (wSum (mI m 543) (tAt (mI m 539) x7 (mI m 536 4).toNatClampNeg) (mI m 536 4).toNatClampNeg)) / x3 * x3) - (x6 - x6 / x3 * x3))), (4, .int (x4 - ((x1 * (wSum (mI m 543) (tAt (mI m 539) x7 (mI m 536 4).toNatClampNeg) (mI m 536 4).toNatClampNeg)) / x3))), (8, .int (x1 * (wSum (mI m 543) (tAt (mI m 539) x7 (mI m 536 4).toNatClampNeg) (mI m 536 4).toNatClampNeg))), (0, .ref 535), (1, .int x1), (2, .int x2), (3, .int x3), (6, .int x6), (7, .int x7)]) dX12_pence_154 (by decide) rfl ?_
        refine g_iinc (v := x7 + (1 : Int32)) (ls2 := [(7, .int (x7 + (1 : Int32))), (5, .int (x5 + (0 : Int32))), (9, .int (((x1 * (wSum (mI m 543) (tAt (mI m 539) x7 (mI m 536 4).toNatClampNeg) (mI m 536 4).toNatClampNeg)) - (x1 * (wSum (mI m 543) (tAt (mI m 539) x7 (mI m 536 4).toNatClampNeg) (mI m 536 4).toNatClampNeg)) / x3 * x3) - (x6 - x6 / x3 * x3))), (4, .int (x4 - ((x1 * (wSum (mI m 543) (tAt (mI m 539) x7 (mI m 536 4).toNatClampNeg) (mI m 536 4).toNatClampNeg)) / x3))), (8, .int (x1 * (wSum (mI m 543) (tAt (mI m 539) x7 (mI m 536 4).toNatClampNeg) (mI m 536 4).toNatClampNeg))), (0, .ref 535), (1, .int x1), (2, .int x2), (3, .int x3), (6, .int x6)]) 9 dX12_pence_156 rfl rfl (by decide) rfl ?_
        refine g_goto 85 dX12_pence_159 (by decide) ?_
        exact g_ls [5, 6, 7, 8, 3, 1, 9, 0] rfl (h7 q1 q3 q4)
      · refine g_iload 9 dX12_pence_142 rfl ?_
        refine g_iload_n 5 dX12_pence_144 rfl rfl ?_
        refine g_icmp_ge 152 dX12_pence_145 (by decide) (fun q5 => ?_) (fun q5 => ?_)
        · refine g_iconst (v := 0) dX12_pence_152 (by decide) ?_
          refine g_iadd dX12_pence_153 ?_
          refine g_istore (ls2 := [(5, .int (x5 + (0 : Int32))), (9, .int (((x1 * (wSum (mI m 543) (tAt (mI m 539) x7 (mI m 536 4).toNatClampNeg) (mI m 536 4).toNatClampNeg)) - (x1 * (wSum (mI m 543) (tAt (mI m 539) x7 (mI m 536 4).toNatClampNeg) (mI m 536 4).toNatClampNeg)) / x3 * x3) - (x6 - x6 / x3 * x3))), (4, .int (x4 - ((x1 * (wSum (mI m 543) (tAt (mI m 539) x7 (mI m 536 4).toNatClampNeg) (mI m 536 4).toNatClampNeg)) / x3))), (8, .int (x1 * (wSum (mI m 543) (tAt (mI m 539) x7 (mI m 536 4).toNatClampNeg) (mI m 536 4).toNatClampNeg))), (0, .ref 535), (1, .int x1), (2, .int x2), (3, .int x3), (6, .int x6), (7, .int x7)]) dX12_pence_154 (by decide) rfl ?_
          refine g_iinc (v := x7 + (1 : Int32)) (ls2 := [(7, .int (x7 + (1 : Int32))), (5, .int (x5 + (0 : Int32))), (9, .int (((x1 * (wSum (mI m 543) (tAt (mI m 539) x7 (mI m 536 4).toNatClampNeg) (mI m 536 4).toNatClampNeg)) - (x1 * (wSum (mI m 543) (tAt (mI m 539) x7 (mI m 536 4).toNatClampNeg) (mI m 536 4).toNatClampNeg)) / x3 * x3) - (x6 - x6 / x3 * x3))), (4, .int (x4 - ((x1 * (wSum (mI m 543) (tAt (mI m 539) x7 (mI m 536 4).toNatClampNeg) (mI m 536 4).toNatClampNeg)) / x3))), (8, .int (x1 * (wSum (mI m 543) (tAt (mI m 539) x7 (mI m 536 4).toNatClampNeg) (mI m 536 4).toNatClampNeg))), (0, .ref 535), (1, .int x1), (2, .int x2), (3, .int x3), (6, .int x6)]) 9 dX12_pence_156 rfl rfl (by decide) rfl ?_
          refine g_goto 85 dX12_pence_159 (by decide) ?_
          exact g_ls [5, 6, 7, 8, 3, 1, 9, 0] rfl (h8 q1 q3 q4 q5)
        · refine g_iconst (v := 1) dX12_pence_148 (by decide) ?_
          refine g_goto 153 dX12_pence_149 (by decide) ?_
          refine g_iadd dX12_pence_153 ?_
          refine g_istore (ls2 := [(5, .int (x5 + (1 : Int32))), (9, .int (((x1 * (wSum (mI m 543) (tAt (mI m 539) x7 (mI m 536 4).toNatClampNeg) (mI m 536 4).toNatClampNeg)) - (x1 * (wSum (mI m 543) (tAt (mI m 539) x7 (mI m 536 4).toNatClampNeg) (mI m 536 4).toNatClampNeg)) / x3 * x3) - (x6 - x6 / x3 * x3))), (4, .int (x4 - ((x1 * (wSum (mI m 543) (tAt (mI m 539) x7 (mI m 536 4).toNatClampNeg) (mI m 536 4).toNatClampNeg)) / x3))), (8, .int (x1 * (wSum (mI m 543) (tAt (mI m 539) x7 (mI m 536 4).toNatClampNeg) (mI m 536 4).toNatClampNeg))), (0, .ref 535), (1, .int x1), (2, .int x2), (3, .int x3), (6, .int x6), (7, .int x7)]) dX12_pence_154 (by decide) rfl ?_
          refine g_iinc (v := x7 + (1 : Int32)) (ls2 := [(7, .int (x7 + (1 : Int32))), (5, .int (x5 + (1 : Int32))), (9, .int (((x1 * (wSum (mI m 543) (tAt (mI m 539) x7 (mI m 536 4).toNatClampNeg) (mI m 536 4).toNatClampNeg)) - (x1 * (wSum (mI m 543) (tAt (mI m 539) x7 (mI m 536 4).toNatClampNeg) (mI m 536 4).toNatClampNeg)) / x3 * x3) - (x6 - x6 / x3 * x3))), (4, .int (x4 - ((x1 * (wSum (mI m 543) (tAt (mI m 539) x7 (mI m 536 4).toNatClampNeg) (mI m 536 4).toNatClampNeg)) / x3))), (8, .int (x1 * (wSum (mI m 543) (tAt (mI m 539) x7 (mI m 536 4).toNatClampNeg) (mI m 536 4).toNatClampNeg))), (0, .ref 535), (1, .int x1), (2, .int x2), (3, .int x3), (6, .int x6)]) 9 dX12_pence_156 rfl rfl (by decide) rfl ?_
          refine g_goto 85 dX12_pence_159 (by decide) ?_
          exact g_ls [5, 6, 7, 8, 3, 1, 9, 0] rfl (h9 q1 q3 q4 q5)
