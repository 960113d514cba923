theorem bX12_bestIn_0 {X : pX} {Q : Option Value → pMem → Prop} {m : pMem} {a0 : Nat} {x1 : Int32} {x2 : Int32} {x3 : Int32} (hW : Wf m) (c0 : SH[a0]? = some (.inl 12))
    (h1 : ¬ x3 = (1 : Int32) → vp_in ((((4 : Int32) * x1) + ((2 : Int32) * ((2 : Int32) - x2))) + (1 : Int32)) 2916)
    (h2 : ¬ x3 = (1 : Int32) → Cl X 1 mX12_takenBy [.ref a0, .int x1, .int x2] m (fun v m2 => Go X 4 mX12_bestIn Q 45 [(0, .ref a0), (1, .int x1), (2, .int x2), (3, .int x3), (4, .int (mI m (a0 + 31) (((((4 : Int32) * x1) + ((2 : Int32) * ((2 : Int32) - x2))) + (1 : Int32)).toNatClampNeg)))] (v.toList ++ []) m2))
    (h3 : x3 = (1 : Int32) → Cl X 3 mX12_worthIn [.ref a0, .int x1, .int (1 : Int32)] m (fun v m2 => Go X 4 mX12_bestIn Q 11 [(0, .ref a0), (1, .int x1), (2, .int x2), (3, .int x3)] (v.toList ++ []) m2)) :
    Go X 4 mX12_bestIn Q 0 [(0, .ref a0), (1, .int x1), (2, .int x2), (3, .int x3)] [] m := by
  refine g_iload_n 3 dX12_bestIn_0 rfl rfl ?_
  refine g_iconst (v := 1) dX12_bestIn_1 (by decide) ?_
  refine g_icmp_ne 21 dX12_bestIn_2 (by decide) (fun q1 => ?_) (fun q1 => ?_)
  · refine g_aload_n 0 dX12_bestIn_21 rfl rfl ?_
    refine g_getR dX12_bestIn_22 fl12_106 rfl c0 (w12_44 hW c0) ?_
    refine g_iconst (v := 4) dX12_bestIn_25 (by decide) ?_
    refine g_iload_n 1 dX12_bestIn_26 rfl rfl ?_
    refine g_imul dX12_bestIn_27 ?_
    refine g_iconst (v := 2) dX12_bestIn_28 (by decide) ?_
    refine g_iconst (v := 2) dX12_bestIn_29 (by decide) ?_
    refine g_iload_n 2 dX12_bestIn_30 rfl rfl ?_
    refine g_isub dX12_bestIn_31 ?_
    refine g_imul dX12_bestIn_32 ?_
    refine g_iadd dX12_bestIn_33 ?_
    refine g_iconst (v := 1) dX12_bestIn_34 (by decide) ?_
    refine g_iadd dX12_bestIn_35 ?_
    refine g_iald (j := ((((4 : Int32) * x1) + ((2 : Int32) * ((2 : Int32) - x2))) + (1 : Int32)).toNatClampNeg) dX12_bestIn_36 (s12_44 c0) (h1 q1) rfl ?_
    refine g_istore (ls2 := [(4, .int (mI m (a0 + 31) (((((4 : Int32) * x1) + ((2 : Int32) * ((2 : Int32) - x2))) + (1 : Int32)).toNatClampNeg))), (0, .ref a0), (1, .int x1), (2, .int x2), (3, .int x3)]) dX12_bestIn_37 (by decide) rfl ?_
    refine g_aload_n 1 dX12_bestIn_39 rfl rfl ?_
    refine g_iload_n 2 dX12_bestIn_40 rfl rfl ?_
    refine g_iload_n 3 dX12_bestIn_41 rfl rfl ?_
    refine g_ls [1, 2, 3, 4, 0] (ls2 := [(0, .ref a0), (1, .int x1), (2, .int x2), (3, .int x3), (4, .int (mI m (a0 + 31) (((((4 : Int32) * x1) + ((2 : Int32) * ((2 : Int32) - x2))) + (1 : Int32)).toNatClampNeg)))]) rfl ?_
    exact g_callV (As := [.int x1, .int x2]) (st := []) dX12_bestIn_42 clX12_439 c0 rfl rfl (Nat.le_of_ble_eq_true rfl) (rmSH (by decide) (by decide)) (h2 q1)
  · refine g_aload_n 0 dX12_bestIn_5 rfl rfl ?_
    refine g_iload_n 1 dX12_bestIn_6 rfl rfl ?_
    refine g_iconst (v := 1) dX12_bestIn_7 (by decide) ?_
    exact g_callV (As := [.int x1, .int (1 : Int32)]) (st := []) dX12_bestIn_8 clX12_442 c0 rfl rfl (Nat.le_of_ble_eq_true rfl) (rmSH (by decide) (by decide)) (h3 q1)
theorem bX12_bestIn_45 {X : pX} {Q : Option Value → pMem → Prop} {m : pMem} {a0 : Nat} {x1 : Int32} {x2 : Int32} {x3 : Int32} {x4 : Int32} {xs0 : Int32} (hW : Wf m) (c0 : SH[a0]? = some (.inl 12))
    (h1 : Cl X 0 mX12_bits [.int xs0] m (fun v m2 => Go X 4 mX12_bestIn Q 48 [(0, .ref a0), (1, .int x1), (2, .int x2), (3, .int x3), (4, .int x4)] (v.toList ++ []) m2)) :
    Go X 4 mX12_bestIn Q 45 [(0, .ref a0), (1, .int x1), (2, .int x2), (3, .int x3), (4, .int x4)] [.int xs0] m := by
  exact g_callS (As := [.int xs0]) (st := []) dX12_bestIn_45 clX12_355 rfl rfl (Nat.le_of_ble_eq_true rfl) (rmSH (by decide) (by decide)) h1
theorem bX12_bestIn_11 {X : pX} {Q : Option Value → pMem → Prop} {m : pMem} {a0 : Nat} {x1 : Int32} {x2 : Int32} {x3 : Int32} {xs0 : Int32} (hW : Wf m) (c0 : SH[a0]? = some (.inl 12))
    (h1 : Cl X 3 mX12_worthIn [.ref a0, .int x1, .int (2 : Int32)] m (fun v m2 => Go X 4 mX12_bestIn Q 17 [(0, .ref a0), (1, .int x1), (2, .int x2), (3, .int x3)] (v.toList ++ [.int xs0]) m2)) :
    Go X 4 mX12_bestIn Q 11 [(0, .ref a0), (1, .int x1), (2, .int x2), (3, .int x3)] [.int xs0] m := by
  refine g_aload_n 0 dX12_bestIn_11 rfl rfl ?_
  refine g_iload_n 1 dX12_bestIn_12 rfl rfl ?_
  refine g_iconst (v := 2) dX12_bestIn_13 (by decide) ?_
  exact g_callV (As := [.int x1, .int (2 : Int32)]) (st := [.int xs0]) dX12_bestIn_14 clX12_442 c0 rfl rfl (Nat.le_of_ble_eq_true rfl) (rmSH (by decide) (by decide)) h1
theorem bX12_bestIn_48 {X : pX} {Q : Option Value → pMem → Prop} {m : pMem} {a0 : Nat} {x1 : Int32} {x2 : Int32} {x3 : Int32} {x4 : Int32} {xs0 : Int32} (hW : Wf m) (c0 : SH[a0]? = some (.inl 12))
    (h1 : (mI m (a0 + 1) 1) ≤ xs0 → Go X 4 mX12_bestIn Q 72 [(0, .ref a0), (1, .int x1), (2, .int x2), (4, .int x4), (5, .int (0 : Int32)), (6, .int (0 : Int32))] [] (uI m a0 49 (-1 : Int32)))
    (h2 : ¬ ((mI m (a0 + 1) 1) ≤ xs0) → Go X 4 mX12_bestIn Q 72 [(0, .ref a0), (1, .int x1), (2, .int x2), (4, .int x4), (5, .int (1 : Int32)), (6, .int (0 : Int32))] [] (uI m a0 49 (-1 : Int32))) :
    Go X 4 mX12_bestIn Q 48 [(0, .ref a0), (1, .int x1), (2, .int x2), (3, .int x3), (4, .int x4)] [.int xs0] m := by
  refine g_aload_n 0 dX12_bestIn_48 rfl rfl ?_
  refine g_getR dX12_bestIn_49 fl12_9 rfl c0 (w12_1 hW c0) ?_
  refine g_iconst (v := 1) dX12_bestIn_52 (by decide) ?_
  refine g_iald (j := 1) dX12_bestIn_53 (s12_1 c0) (by unfold vp_in; decide) (by decide) ?_
  refine g_icmp_ge 61 dX12_bestIn_54 (by decide) (fun q1 => ?_) (fun q1 => ?_)
  · refine g_iconst (v := 0) dX12_bestIn_61 (by decide) ?_
    refine g_istore (ls2 := [(5, .int (0 : Int32)), (0, .ref a0), (1, .int x1), (2, .int x2), (3, .int x3), (4, .int x4)]) dX12_bestIn_62 (by decide) rfl ?_
    refine g_aload_n 1 dX12_bestIn_64 rfl rfl ?_
    refine g_iconst (v := -1) dX12_bestIn_65 (by decide) ?_
    refine g_putI dX12_bestIn_66 fl12_445 (fun h => by cases h) c0 ?_
    refine g_iconst (v := 0) dX12_bestIn_69 (by decide) ?_
    refine g_istore (ls2 := [(6, .int (0 : Int32)), (5, .int (0 : Int32)), (0, .ref a0), (1, .int x1), (2, .int x2), (3, .int x3), (4, .int x4)]) dX12_bestIn_70 (by decide) rfl ?_
    exact g_ls [2, 3, 4, 6, 1, 0] rfl (h1 q1)
  · refine g_iconst (v := 1) dX12_bestIn_57 (by decide) ?_
    refine g_goto 62 dX12_bestIn_58 (by decide) ?_
    refine g_istore (ls2 := [(5, .int (1 : Int32)), (0, .ref a0), (1, .int x1), (2, .int x2), (3, .int x3), (4, .int x4)]) dX12_bestIn_62 (by decide) rfl ?_
    refine g_aload_n 1 dX12_bestIn_64 rfl rfl ?_
    refine g_iconst (v := -1) dX12_bestIn_65 (by decide) ?_
    refine g_putI dX12_bestIn_66 fl12_445 (fun h => by cases h) c0 ?_
    refine g_iconst (v := 0) dX12_bestIn_69 (by decide) ?_
    refine g_istore (ls2 := [(6, .int (0 : Int32)), (5, .int (1 : Int32)), (0, .ref a0), (1, .int x1), (2, .int x2), (3, .int x3), (4, .int x4)]) dX12_bestIn_70 (by decide) rfl ?_
    exact g_ls [2, 3, 4, 6, 1, 0] rfl (h2 q1)
theorem bX12_bestIn_17 {X : pX} {Q : Option Value → pMem → Prop} {m : pMem} {a0 : Nat} {x1 : Int32} {x2 : Int32} {x3 : Int32} {xs0 : Int32} {xs1 : Int32} (hW : Wf m) (c0 : SH[a0]? = some (.inl 12))
    (h1 : Cl X 1 mX12_takenBy [.ref a0, .int x1, .int x2] m (fun v m2 => Go X 4 mX12_bestIn Q 45 [(0, .ref a0), (1, .int x1), (2, .int x2), (3, .int x3), (4, .int (xs1 - xs0))] (v.toList ++ []) m2)) :
    Go X 4 mX12_bestIn Q 17 [(0, .ref a0), (1, .int x1), (2, .int x2), (3, .int x3)] [.int xs0, .int xs1] m := by
  refine g_isub dX12_bestIn_17 ?_
  refine g_goto 37 dX12_bestIn_18 (by decide) ?_
  refine g_istore (ls2 := [(4, .int (xs1 - xs0)), (0, .ref a0), (1, .int x1), (2, .int x2), (3, .int x3)]) dX12_bestIn_37 (by decide) rfl ?_
  refine g_aload_n 1 dX12_bestIn_39 rfl rfl ?_
  refine g_iload_n 2 dX12_bestIn_40 rfl rfl ?_
  refine g_iload_n 3 dX12_bestIn_41 rfl rfl ?_
  refine g_ls [1, 2, 3, 4, 0] (ls2 := [(0, .ref a0), (1, .int x1), (2, .int x2), (3, .int x3), (4, .int (xs1 - xs0))]) rfl ?_
  exact g_callV (As := [.int x1, .int x2]) (st := []) dX12_bestIn_42 clX12_439 c0 rfl rfl (Nat.le_of_ble_eq_true rfl) (rmSH (by decide) (by decide)) h1
theorem bX12_bestIn_72 {X : pX} {Q : Option Value → pMem → Prop} {m : pMem} {a0 : Nat} {x1 : Int32} {x2 : Int32} {x4 : Int32} {x5 : Int32} {x6 : Int32} (hW : Wf m) (c0 : SH[a0]? = some (.inl 12))
    (h1 : (mI m (a0 + 1) 4) ≤ x6 → Q (some (.int x4)) m)
    (h2 : ¬ ((mI m (a0 + 1) 4) ≤ x6) → x5 = 0 → Q (some (.int x4)) m)
    (h3 : ¬ ((mI m (a0 + 1) 4) ≤ x6) → ¬ (x5 = 0) → Cl X 0 mX12_has [.int (mI m a0 48), .int x6] m (fun v m2 => Go X 4 mX12_bestIn Q 97 [(0, .ref a0), (1, .int x1), (2, .int x2), (4, .int x4), (5, .int x5), (6, .int x6)] (v.toList ++ []) m2)) :
    Go X 4 mX12_bestIn Q 72 [(0, .ref a0), (1, .int x1), (2, .int x2), (4, .int x4), (5, .int x5), (6, .int x6)] [] m := by
  refine g_iload 5 dX12_bestIn_72 rfl ?_
  refine g_aload_n 0 dX12_bestIn_74 rfl rfl ?_
  refine g_getR dX12_bestIn_75 fl12_9 rfl c0 (w12_1 hW c0) ?_
  refine g_iconst (v := 4) dX12_bestIn_78 (by decide) ?_
  refine g_iald (j := 4) dX12_bestIn_79 (s12_1 c0) (by unfold vp_in; decide) (by decide) ?_
  refine g_icmp_ge 178 dX12_bestIn_80 (by decide) (fun q1 => ?_) (fun q1 => ?_)
  · refine g_iload 3 dX12_bestIn_178 rfl ?_
    exact g_iret dX12_bestIn_180 rfl enSH (h1 q1)
  · refine g_iload 4 dX12_bestIn_83 rfl ?_
    refine g_if_eq 178 dX12_bestIn_85 (by decide) (fun q2 => ?_) (fun q2 => ?_)
    · refine g_iload 3 dX12_bestIn_178 rfl ?_
      exact g_iret dX12_bestIn_180 rfl enSH (h2 q1 q2)
    · refine g_aload_n 0 dX12_bestIn_88 rfl rfl ?_
      refine g_getI dX12_bestIn_89 fl12_448 c0 ?_
      refine g_iload 5 dX12_bestIn_92 rfl ?_
      exact g_callS (As := [.int (mI m a0 48), .int x6]) (st := []) dX12_bestIn_94 clX12_332 rfl rfl (Nat.le_of_ble_eq_true rfl) (rmSH (by decide) (by decide)) (h3 q1 q2)
theorem bX12_bestIn_97 {X : pX} {Q : Option Value → pMem → Prop} {m : pMem} {a0 : Nat} {x1 : Int32} {x2 : Int32} {x4 : Int32} {x5 : Int32} {x6 : Int32} {xs0 : Int32} (hW : Wf m) (c0 : SH[a0]? = some (.inl 12))
    (h1 : xs0 = 0 → Go X 4 mX12_bestIn Q 72 [(0, .ref a0), (1, .int x1), (2, .int x2), (4, .int x4), (5, .int x5), (6, .int (x6 + (1 : Int32)))] [] m)
    (h2 : ¬ (xs0 = 0) → vp_in x6 6)
    (h3 : ¬ (xs0 = 0) → ¬ (mI m (a0 + 32) x6.toNatClampNeg) = 0)
    (h4 : ¬ (xs0 = 0) → ¬ ((x1 / (mI m (a0 + 32) x6.toNatClampNeg)) - (x1 / (mI m (a0 + 32) x6.toNatClampNeg)) / (3 : Int32) * (3 : Int32)) = 0 → Go X 4 mX12_bestIn Q 72 [(0, .ref a0), (1, .int x1), (2, .int x2), (4, .int x4), (5, .int x5), (6, .int (x6 + (1 : Int32)))] [] m)
    (h5 : ¬ (xs0 = 0) → ((x1 / (mI m (a0 + 32) x6.toNatClampNeg)) - (x1 / (mI m (a0 + 32) x6.toNatClampNeg)) / (3 : Int32) * (3 : Int32)) = 0 → vp_in x6 6)
    (h6 : ¬ (xs0 = 0) → ((x1 / (mI m (a0 + 32) x6.toNatClampNeg)) - (x1 / (mI m (a0 + 32) x6.toNatClampNeg)) / (3 : Int32) * (3 : Int32)) = 0 → vp_in (((4 : Int32) * (x1 + (x2 * (mI m (a0 + 32) x6.toNatClampNeg)))) + ((2 : Int32) * ((2 : Int32) - x2))) 2916)
    (h7 : ¬ (xs0 = 0) → ((x1 / (mI m (a0 + 32) x6.toNatClampNeg)) - (x1 / (mI m (a0 + 32) x6.toNatClampNeg)) / (3 : Int32) * (3 : Int32)) = 0 → ¬ x2 = (1 : Int32) → x4 ≤ (mI m (a0 + 31) ((((4 : Int32) * (x1 + (x2 * (mI m (a0 + 32) x6.toNatClampNeg)))) + ((2 : Int32) * ((2 : Int32) - x2))).toNatClampNeg)) → Go X 4 mX12_bestIn Q 72 [(0, .ref a0), (1, .int x1), (2, .int x2), (4, .int x4), (5, .int x5), (6, .int (x6 + (1 : Int32)))] [] m)
    (h8 : ¬ (xs0 = 0) → ((x1 / (mI m (a0 + 32) x6.toNatClampNeg)) - (x1 / (mI m (a0 + 32) x6.toNatClampNeg)) / (3 : Int32) * (3 : Int32)) = 0 → ¬ x2 = (1 : Int32) → ¬ (x4 ≤ (mI m (a0 + 31) ((((4 : Int32) * (x1 + (x2 * (mI m (a0 + 32) x6.toNatClampNeg)))) + ((2 : Int32) * ((2 : Int32) - x2))).toNatClampNeg))) → Go X 4 mX12_bestIn Q 72 [(0, .ref a0), (1, .int x1), (2, .int x2), (4, .int (mI m (a0 + 31) ((((4 : Int32) * (x1 + (x2 * (mI m (a0 + 32) x6.toNatClampNeg)))) + ((2 : Int32) * ((2 : Int32) - x2))).toNatClampNeg))), (5, .int x5), (6, .int (x6 + (1 : Int32)))] [] (uI m a0 49 x6))
    (h9 : ¬ (xs0 = 0) → ((x1 / (mI m (a0 + 32) x6.toNatClampNeg)) - (x1 / (mI m (a0 + 32) x6.toNatClampNeg)) / (3 : Int32) * (3 : Int32)) = 0 → x2 = (1 : Int32) → (mI m (a0 + 31) ((((4 : Int32) * (x1 + (x2 * (mI m (a0 + 32) x6.toNatClampNeg)))) + ((2 : Int32) * ((2 : Int32) - x2))).toNatClampNeg)) ≤ x4 → Go X 4 mX12_bestIn Q 72 [(0, .ref a0), (1, .int x1), (2, .int x2), (4, .int x4), (5, .int x5), (6, .int (x6 + (1 : Int32)))] [] m)
    (h10 : ¬ (xs0 = 0) → ((x1 / (mI m (a0 + 32) x6.toNatClampNeg)) - (x1 / (mI m (a0 + 32) x6.toNatClampNeg)) / (3 : Int32) * (3 : Int32)) = 0 → x2 = (1 : Int32) → ¬ ((mI m (a0 + 31) ((((4 : Int32) * (x1 + (x2 * (mI m (a0 + 32) x6.toNatClampNeg)))) + ((2 : Int32) * ((2 : Int32) - x2))).toNatClampNeg)) ≤ x4) → Go X 4 mX12_bestIn Q 72 [(0, .ref a0), (1, .int x1), (2, .int x2), (4, .int (mI m (a0 + 31) ((((4 : Int32) * (x1 + (x2 * (mI m (a0 + 32) x6.toNatClampNeg)))) + ((2 : Int32) * ((2 : Int32) - x2))).toNatClampNeg))), (5, .int x5), (6, .int (x6 + (1 : Int32)))] [] (uI m a0 49 x6)) :
    Go X 4 mX12_bestIn Q 97 [(0, .ref a0), (1, .int x1), (2, .int x2), (4, .int x4), (5, .int x5), (6, .int x6)] [.int xs0] m := by
  refine g_if_eq 172 dX12_bestIn_97 (by decide) (fun q1 => ?_) (fun q1 => ?_)
  · refine g_iinc (v := x6 + (1 : Int32)) (ls2 := [(6, .int (x6 + (1 : Int32))), (0, .ref a0), (1, .int x1), (2, .int x2), (4, .int x4), (5, .int x5)]) 5 dX12_bestIn_172 rfl rfl (by decide) rfl ?_
    refine g_goto 72 dX12_bestIn_175 (by decide) ?_
    exact g_ls [1, 2, 3, 4, 5, 0] rfl (h1 q1)
  · refine g_iload_n 1 dX12_bestIn_100 rfl rfl ?_
    refine g_aload_n 0 dX12_bestIn_101 rfl rfl ?_
    refine g_getR dX12_bestIn_102 fl12_109 rfl c0 (w12_45 hW c0) ?_
    refine g_iload 5 dX12_bestIn_105 rfl ?_
    refine g_iald (j := x6.toNatClampNeg) dX12_bestIn_107 (s12_45 c0) (h2 q1) rfl ?_
    refine g_idiv dX12_bestIn_108 (h3 q1) ?_
    refine g_iconst (v := 3) dX12_bestIn_109 (by decide) ?_
    refine g_irem dX12_bestIn_110 (by decide) ?_
    refine g_if_ne 172 dX12_bestIn_111 (by decide) (fun q2 => ?_) (fun q2 => ?_)
    · refine g_iinc (v := x6 + (1 : Int32)) (ls2 := [(6, .int (x6 + (1 : Int32))), (0, .ref a0), (1, .int x1), (2, .int x2), (4, .int x4), (5, .int x5)]) 5 dX12_bestIn_172 rfl rfl (by decide) rfl ?_
      refine g_goto 72 dX12_bestIn_175 (by decide) ?_
      exact g_ls [1, 2, 3, 4, 5, 0] rfl (h4 q1 q2)
    · refine g_aload_n 0 dX12_bestIn_114 rfl rfl ?_
      refine g_getR dX12_bestIn_115 fl12_106 rfl c0 (w12_44 hW c0) ?_
      refine g_iconst (v := 4) dX12_bestIn_118 (by decide) ?_
      refine g_iload_n 1 dX12_bestIn_119 rfl rfl ?_
      refine g_iload_n 2 dX12_bestIn_120 rfl rfl ?_
      refine g_aload_n 0 dX12_bestIn_121 rfl rfl ?_
      refine g_getR dX12_bestIn_122 fl12_109 rfl c0 (w12_45 hW c0) ?_
      refine g_iload 5 dX12_bestIn_125 rfl ?_
      refine g_iald (j := x6.toNatClampNeg) dX12_bestIn_127 (s12_45 c0) (h5 q1 q2) rfl ?_
      refine g_imul dX12_bestIn_128 ?_
      refine g_iadd dX12_bestIn_129 ?_
      refine g_imul dX12_bestIn_130 ?_
      refine g_iconst (v := 2) dX12_bestIn_131 (by decide) ?_
      refine g_iconst (v := 2) dX12_bestIn_132 (by decide) ?_
      refine g_iload_n 2 dX12_bestIn_133 rfl rfl ?_
      refine g_isub dX12_bestIn_134 ?_
      refine g_imul dX12_bestIn_135 ?_
      refine g_iadd dX12_bestIn_136 ?_
      refine g_iald (j := (((4 : Int32) * (x1 + (x2 * (mI m (a0 + 32) x6.toNatClampNeg)))) + ((2 : Int32) * ((2 : Int32) - x2))).toNatClampNeg) dX12_bestIn_137 (s12_44 c0) (h6 q1 q2) rfl ?_
      refine g_istore (ls2 := [(7, .int (mI m (a0 + 31) ((((4 : Int32) * (x1 + (x2 * (mI m (a0 + 32) x6.toNatClampNeg)))) + ((2 : Int32) * ((2 : Int32) - x2))).toNatClampNeg))), (0, .ref a0), (1, .int x1), (2, .int x2), (4, .int x4), (5, .int x5), (6, .int x6)]) dX12_bestIn_138 (by decide) rfl ?_
      refine g_iload_n 3 dX12_bestIn_140 rfl rfl ?_
      refine g_iconst (v := 1) dX12_bestIn_141 (by decide) ?_
      refine g_icmp_ne 155 dX12_bestIn_142 (by decide) (fun q3 => ?_) (fun q3 => ?_)
      · refine g_iload 0 dX12_bestIn_155 rfl ?_
        refine g_iload 4 dX12_bestIn_157 rfl ?_
        refine g_icmp_ge 172 dX12_bestIn_159 (by decide) (fun q4 => ?_) (fun q4 => ?_)
        · refine g_iinc (v := x6 + (1 : Int32)) (ls2 := [(6, .int (x6 + (1 : Int32))), (7, .int (mI m (a0 + 31) ((((4 : Int32) * (x1 + (x2 * (mI m (a0 + 32) x6.toNatClampNeg)))) + ((2 : Int32) * ((2 : Int32) - x2))).toNatClampNeg))), (0, .ref a0), (1, .int x1), (2, .int x2), (4, .int x4), (5, .int x5)]) 6 dX12_bestIn_172 rfl rfl (by decide) rfl ?_
          refine g_goto 72 dX12_bestIn_175 (by decide) ?_
          exact g_ls [2, 3, 4, 5, 6, 0] rfl (h7 q1 q2 q3 q4)
        · refine g_iload 0 dX12_bestIn_162 rfl ?_
          refine g_istore (ls2 := [(4, .int (mI m (a0 + 31) ((((4 : Int32) * (x1 + (x2 * (mI m (a0 + 32) x6.toNatClampNeg)))) + ((2 : Int32) * ((2 : Int32) - x2))).toNatClampNeg))), (7, .int (mI m (a0 + 31) ((((4 : Int32) * (x1 + (x2 * (mI m (a0 + 32) x6.toNatClampNeg)))) + ((2 : Int32) * ((2 : Int32) - x2))).toNatClampNeg))), (0, .ref a0), (1, .int x1), (2, .int x2), (5, .int x5), (6, .int x6)]) dX12_bestIn_164 (by decide) rfl ?_
          refine g_aload_n 2 dX12_bestIn_166 rfl rfl ?_
          refine g_iload 6 dX12_bestIn_167 rfl ?_
          refine g_putI dX12_bestIn_169 fl12_445 (fun h => by cases h) c0 ?_
          refine g_iinc (v := x6 + (1 : Int32)) (ls2 := [(6, .int (x6 + (1 : Int32))), (4, .int (mI m (a0 + 31) ((((4 : Int32) * (x1 + (x2 * (mI m (a0 + 32) x6.toNatClampNeg)))) + ((2 : Int32) * ((2 : Int32) - x2))).toNatClampNeg))), (7, .int (mI m (a0 + 31) ((((4 : Int32) * (x1 + (x2 * (mI m (a0 + 32) x6.toNatClampNeg)))) + ((2 : Int32) * ((2 : Int32) - x2))).toNatClampNeg))), (0, .ref a0), (1, .int x1), (2, .int x2), (5, .int x5)]) 6 dX12_bestIn_172 rfl rfl (by decide) rfl ?_
          refine g_goto 72 dX12_bestIn_175 (by decide) ?_
          exact g_ls [3, 4, 5, 1, 6, 0] rfl (h8 q1 q2 q3 q4)
      · refine g_iload 0 dX12_bestIn_145 rfl ?_
        refine g_iload 4 dX12_bestIn_147 rfl ?_
        refine g_icmp_le 172 dX12_bestIn_149 (by decide) (fun q5 => ?_) (fun q5 => ?_)
        · refine g_iinc (v := x6 + (1 : Int32)) (ls2 := [(6, .int (x6 + (1 : Int32))), (7, .int (mI m (a0 + 31) ((((4 : Int32) * (x1 + (x2 * (mI m (a0 + 32) x6.toNatClampNeg)))) + ((2 : Int32) * ((2 : Int32) - x2))).toNatClampNeg))), (0, .ref a0), (1, .int x1), (2, .int x2), (4, .int x4), (5, .int x5)]) 6 dX12_bestIn_172 rfl rfl (by decide) rfl ?_
          refine g_goto 72 dX12_bestIn_175 (by decide) ?_
          exact g_ls [2, 3, 4, 5, 6, 0] rfl (h9 q1 q2 q3 q5)
        · refine g_goto 162 dX12_bestIn_152 (by decide) ?_
          refine g_iload 0 dX12_bestIn_162 rfl ?_
          refine g_istore (ls2 := [(4, .int (mI m (a0 + 31) ((((4 : Int32) * (x1 + (x2 * (mI m (a0 + 32) x6.toNatClampNeg)))) + ((2 : Int32) * ((2 : Int32) - x2))).toNatClampNeg))), (7, .int (mI m (a0 + 31) ((((4 : Int32) * (x1 + (x2 * (mI m (a0 + 32) x6.toNatClampNeg)))) + ((2 : Int32) * ((2 : Int32) - x2))).toNatClampNeg))), (0, .ref a0), (1, .int x1), (2, .int x2), (5, .int x5), (6, .int x6)]) dX12_bestIn_164 (by decide) rfl ?_
          refine g_aload_n 2 dX12_bestIn_166 rfl rfl ?_
          refine g_iload 6 dX12_bestIn_167 rfl ?_
          refine g_putI dX12_bestIn_169 fl12_445 (fun h => by cases h) c0 ?_
          refine g_iinc (v := x6 + (1 : Int32)) (ls2 := [(6, .int (x6 + (1 : Int32))), (4, .int (mI m (a0 + 31) ((((4 : Int32) * (x1 + (x2 * (mI m (a0 + 32) x6.toNatClampNeg)))) + ((2 : Int32) * ((2 : Int32) - x2))).toNatClampNeg))), (7, .int (mI m (a0 + 31) ((((4 : Int32) * (x1 + (x2 * (mI m (a0 + 32) x6.toNatClampNeg)))) + ((2 : Int32) * ((2 : Int32) - x2))).toNatClampNeg))), (0, .ref a0), (1, .int x1), (2, .int x2), (5, .int x5)]) 6 dX12_bestIn_172 rfl rfl (by decide) rfl ?_
          refine g_goto 72 dX12_bestIn_175 (by decide) ?_
          exact g_ls [3, 4, 5, 1, 6, 0] rfl (h10 q1 q2 q3 q5)
theorem bX12_isLaid_0 {X : pX} {Q : Option Value → pMem → Prop} {m : pMem} {a0 : Nat} {x1 : Int32} (hW : Wf m) (c0 : SH[a0]? = some (.inl 12))
    (h1 : Go X 1 mX12_isLaid Q 2 [(0, .ref a0), (1, .int x1), (2, .int (0 : Int32))] [] m) :
    Go X 1 mX12_isLaid Q 0 [(0, .ref a0), (1, .int x1)] [] m := by
  refine g_iconst (v := 0) dX12_isLaid_0 (by decide) ?_
  refine g_istore_n (ls2 := [(2, .int (0 : Int32)), (0, .ref a0), (1, .int x1)]) dX12_isLaid_1 rfl (by decide) rfl ?_
  exact g_ls [1, 2, 0] rfl h1
theorem bX12_isLaid_2 {X : pX} {Q : Option Value → pMem → Prop} {m : pMem} {a0 : Nat} {x1 : Int32} {x2 : Int32} (hW : Wf m) (c0 : SH[a0]? = some (.inl 12))
    (h1 : (6 : Int32) ≤ x2 → Q (some (.int (1 : Int32))) m)
    (h2 : ¬ ((6 : Int32) ≤ x2) → vp_in x2 6)
    (h3 : ¬ ((6 : Int32) ≤ x2) → ¬ (mI m (a0 + 32) x2.toNatClampNeg) = 0)
    (h4 : ¬ ((6 : Int32) ≤ x2) → ((x1 / (mI m (a0 + 32) x2.toNatClampNeg)) - (x1 / (mI m (a0 + 32) x2.toNatClampNeg)) / (3 : Int32) * (3 : Int32)) ≤ 0 → Go X 1 mX12_isLaid Q 2 [(0, .ref a0), (1, .int x1), (2, .int (x2 + (1 : Int32)))] [] m)
    (h5 : ¬ ((6 : Int32) ≤ x2) → ¬ (((x1 / (mI m (a0 + 32) x2.toNatClampNeg)) - (x1 / (mI m (a0 + 32) x2.toNatClampNeg)) / (3 : Int32) * (3 : Int32)) ≤ 0) → Cl X 0 mX12_has [.int (mI m a0 48), .int x2] m (fun v m2 => Go X 1 mX12_isLaid Q 29 [(0, .ref a0), (1, .int x1), (2, .int x2)] (v.toList ++ []) m2)) :
    Go X 1 mX12_isLaid Q 2 [(0, .ref a0), (1, .int x1), (2, .int x2)] [] m := by
  refine g_iload_n 2 dX12_isLaid_2 rfl rfl ?_
  refine g_bipush (v := 6) dX12_isLaid_3 (by decide) ?_
  refine g_icmp_ge 50 dX12_isLaid_5 (by decide) (fun q1 => ?_) (fun q1 => ?_)
  · refine g_iconst (v := 1) dX12_isLaid_50 (by decide) ?_
    exact g_bret dX12_isLaid_51 rfl (Or.inr rfl) enSH (h1 q1)
  · refine g_iload_n 1 dX12_isLaid_8 rfl rfl ?_
    refine g_aload_n 0 dX12_isLaid_9 rfl rfl ?_
    refine g_getR dX12_isLaid_10 fl12_109 rfl c0 (w12_45 hW c0) ?_
    refine g_iload_n 2 dX12_isLaid_13 rfl rfl ?_
    refine g_iald (j := x2.toNatClampNeg) dX12_isLaid_14 (s12_45 c0) (h2 q1) rfl ?_
    refine g_idiv dX12_isLaid_15 (h3 q1) ?_
    refine g_iconst (v := 3) dX12_isLaid_16 (by decide) ?_
    refine g_irem dX12_isLaid_17 (by decide) ?_
    refine g_if_le 44 dX12_isLaid_18 (by decide) (fun q2 => ?_) (fun q2 => ?_)
    · refine g_iinc (v := x2 + (1 : Int32)) (ls2 := [(2, .int (x2 + (1 : Int32))), (0, .ref a0), (1, .int x1)]) 2 dX12_isLaid_44 rfl rfl (by decide) rfl ?_
      refine g_goto 2 dX12_isLaid_47 (by decide) ?_
      exact g_ls [1, 2, 0] rfl (h4 q1 q2)
    · refine g_aload_n 0 dX12_isLaid_21 rfl rfl ?_
      refine g_getI dX12_isLaid_22 fl12_448 c0 ?_
      refine g_iload_n 2 dX12_isLaid_25 rfl rfl ?_
      exact g_callS (As := [.int (mI m a0 48), .int x2]) (st := []) dX12_isLaid_26 clX12_332 rfl rfl (Nat.le_of_ble_eq_true rfl) (rmSH (by decide) (by decide)) (h5 q1 q2)
theorem bX12_isLaid_29 {X : pX} {Q : Option Value → pMem → Prop} {m : pMem} {a0 : Nat} {x1 : Int32} {x2 : Int32} {xs0 : Int32} (hW : Wf m) (c0 : SH[a0]? = some (.inl 12))
    (h1 : xs0 = 0 → Q (some (.int (0 : Int32))) m)
    (h2 : ¬ (xs0 = 0) → x2 < (mI m (a0 + 1) 4) → Go X 1 mX12_isLaid Q 2 [(0, .ref a0), (1, .int x1), (2, .int (x2 + (1 : Int32)))] [] m)
    (h3 : ¬ (xs0 = 0) → ¬ (x2 < (mI m (a0 + 1) 4)) → Q (some (.int (0 : Int32))) m) :
    Go X 1 mX12_isLaid Q 29 [(0, .ref a0), (1, .int x1), (2, .int x2)] [.int xs0] m := by
  refine g_if_eq 42 dX12_isLaid_29 (by decide) (fun q1 => ?_) (fun q1 => ?_)
  · refine g_iconst (v := 0) dX12_isLaid_42 (by decide) ?_
    exact g_bret dX12_isLaid_43 rfl (Or.inl rfl) enSH (h1 q1)
  · refine g_iload_n 2 dX12_isLaid_32 rfl rfl ?_
    refine g_aload_n 0 dX12_isLaid_33 rfl rfl ?_
    refine g_getR dX12_isLaid_34 fl12_9 rfl c0 (w12_1 hW c0) ?_
    refine g_iconst (v := 4) dX12_isLaid_37 (by decide) ?_
    refine g_iald (j := 4) dX12_isLaid_38 (s12_1 c0) (by unfold vp_in; decide) (by decide) ?_
    refine g_icmp_lt 44 dX12_isLaid_39 (by decide) (fun q2 => ?_) (fun q2 => ?_)
    · refine g_iinc (v := x2 + (1 : Int32)) (ls2 := [(2, .int (x2 + (1 : Int32))), (0, .ref a0), (1, .int x1)]) 2 dX12_isLaid_44 rfl rfl (by decide) rfl ?_
      refine g_goto 2 dX12_isLaid_47 (by decide) ?_
      exact g_ls [1, 2, 0] rfl (h2 q1 q2)
    · refine g_iconst (v := 0) dX12_isLaid_42 (by decide) ?_
      exact g_bret dX12_isLaid_43 rfl (Or.inl rfl) enSH (h3 q1 q2)
theorem bX12_game_0 {X : pX} {Q : Option Value → pMem → Prop} {m : pMem} {a0 : Nat} {x1 : Int32} {x2 : Int32} {x3 : Int32} (hW : Wf m) (c0 : SH[a0]? = some (.inl 12))
    (h1 : Cl X 3 mX12_areTogether [.ref a0, .int x1, .int x2] m (fun v m2 => Go X 5 mX12_game Q 6 [(0, .ref a0), (1, .int x1), (2, .int x2), (3, .int x3)] (v.toList ++ []) m2)) :
    Go X 5 mX12_game Q 0 [(0, .ref a0), (1, .int x1), (2, .int x2), (3, .int x3)] [] m := by
  refine g_aload_n 0 dX12_game_0 rfl rfl ?_
  refine g_iload_n 1 dX12_game_1 rfl rfl ?_
  refine g_iload_n 2 dX12_game_2 rfl rfl ?_
  exact g_callV (As := [.int x1, .int x2]) (st := []) dX12_game_3 clX12_401 c0 rfl rfl (Nat.le_of_ble_eq_true rfl) (rmSH (by decide) (by decide)) h1
theorem bX12_game_6 {X : pX} {Q : Option Value → pMem → Prop} {m : pMem} {a0 : Nat} {x1 : Int32} {x2 : Int32} {x3 : Int32} {xs0 : Int32} (hW : Wf m) (c0 : SH[a0]? = some (.inl 12))
    (h1 : xs0 = 0 → Q (some (.int (-10000 : Int32))) m)
    (h2 : ¬ (xs0 = 0) → Cl X 0 mX12_in [.long x3.toInt64, .long (0 : Int64), .long (1 : Int64)] m (fun v m2 => Go X 5 mX12_game Q 16 [(0, .ref a0), (1, .int x1), (2, .int x2), (3, .int x3)] (v.toList ++ []) m2)) :
    Go X 5 mX12_game Q 6 [(0, .ref a0), (1, .int x1), (2, .int x2), (3, .int x3)] [.int xs0] m := by
  refine g_if_eq 19 dX12_game_6 (by decide) (fun q1 => ?_) (fun q1 => ?_)
  · refine g_sipush (v := -10000) dX12_game_19 (by decide) ?_
    exact g_iret dX12_game_22 rfl enSH (h1 q1)
  · refine g_iload_n 3 dX12_game_9 rfl rfl ?_
    refine g_i2l dX12_game_10 ?_
    refine g_lconst (v := 0) dX12_game_11 (by decide) ?_
    refine g_lconst (v := 1) dX12_game_12 (by decide) ?_
    exact g_callS (As := [.long x3.toInt64, .long (0 : Int64), .long (1 : Int64)]) (st := []) dX12_game_13 clX12_128 rfl rfl (Nat.le_of_ble_eq_true rfl) (rmSH (by decide) (by decide)) (h2 q1)
theorem bX12_game_16 {X : pX} {Q : Option Value → pMem → Prop} {m : pMem} {a0 : Nat} {x1 : Int32} {x2 : Int32} {x3 : Int32} {xs0 : Int32} (hW : Wf m) (c0 : SH[a0]? = some (.inl 12))
    (h1 : ¬ xs0 = 0 → vp_in x1 4)
    (h2 : ¬ xs0 = 0 → Cl X 0 mX12_thingsOf [.ref a0, .int ((10 : Int32) + (mI (uI (uI m a0 46 x1) a0 47 x2) (a0 + 2) x1.toNatClampNeg))] (uI (uI m a0 46 x1) a0 47 x2) (fun v m2 => Go X 5 mX12_game Q 47 [(0, .ref a0), (1, .int x1), (2, .int x2), (3, .int x3)] (v.toList ++ [.ref a0]) m2))
    (h3 : xs0 = 0 → Q (some (.int (-10000 : Int32))) m) :
    Go X 5 mX12_game Q 16 [(0, .ref a0), (1, .int x1), (2, .int x2), (3, .int x3)] [.int xs0] m := by
  refine g_if_ne 23 dX12_game_16 (by decide) (fun q1 => ?_) (fun q1 => ?_)
  · refine g_aload_n 0 dX12_game_23 rfl rfl ?_
    refine g_iload_n 1 dX12_game_24 rfl rfl ?_
    refine g_putI dX12_game_25 fl12_433 (fun h => by cases h) c0 ?_
    refine g_aload_n 0 dX12_game_28 rfl rfl ?_
    refine g_iload_n 2 dX12_game_29 rfl rfl ?_
    refine g_putI dX12_game_30 fl12_436 (fun h => by cases h) c0 ?_
    refine g_aload_n 0 dX12_game_33 rfl rfl ?_
    refine g_aload_n 0 dX12_game_34 rfl rfl ?_
    refine g_bipush (v := 10) dX12_game_35 (by decide) ?_
    refine g_aload_n 0 dX12_game_37 rfl rfl ?_
    refine g_getR dX12_game_38 fl12_13 rfl c0 (w12_2 hW c0) ?_
    refine g_iload_n 1 dX12_game_41 rfl rfl ?_
    refine g_iald (j := x1.toNatClampNeg) dX12_game_42 (s12_2 c0) (h1 q1) rfl ?_
    refine g_iadd dX12_game_43 ?_
    exact g_callV (As := [.int ((10 : Int32) + (mI (uI (uI m a0 46 x1) a0 47 x2) (a0 + 2) x1.toNatClampNeg))]) (st := [.ref a0]) dX12_game_44 clX12_338 c0 rfl rfl (Nat.le_of_ble_eq_true rfl) (rmSH (by decide) (by decide)) (h2 q1)
  · refine g_sipush (v := -10000) dX12_game_19 (by decide) ?_
    exact g_iret dX12_game_22 rfl enSH (h3 q1)
theorem bX12_game_47 {X : pX} {Q : Option Value → pMem → Prop} {m : pMem} {a0 : Nat} {x1 : Int32} {x2 : Int32} {x3 : Int32} {xs0 : Int32} {as1 : Nat} (hW : Wf m) (c0 : SH[a0]? = some (.inl 12)) (cs1 : SH[as1]? = some (.inl 12))
    (h1 : Go X 5 mX12_game Q 54 [(0, .ref a0), (3, .int x3), (4, .int (6 : Int32))] [] (uI m as1 48 xs0)) :
    Go X 5 mX12_game Q 47 [(0, .ref a0), (1, .int x1), (2, .int x2), (3, .int x3)] [.int xs0, .ref as1] m := by
  refine g_putI dX12_game_47 fl12_448 (fun h => by cases h) cs1 ?_
  refine g_bipush (v := 6) dX12_game_50 (by decide) ?_
  refine g_istore (ls2 := [(4, .int (6 : Int32)), (0, .ref a0), (1, .int x1), (2, .int x2), (3, .int x3)]) dX12_game_52 (by decide) rfl ?_
  exact g_ls [1, 4, 0] rfl h1
theorem bX12_game_54 {X : pX} {Q : Option Value → pMem → Prop} {m : pMem} {a0 : Nat} {x3 : Int32} {x4 : Int32} (hW : Wf m) (c0 : SH[a0]? = some (.inl 12))
    (h1 : x4 < 0 → Cl X 4 mX12_bestIn [.ref a0, .int (0 : Int32), .int (1 : Int32), .int (0 : Int32)] m (fun v m2 => Go X 5 mX12_game Q 183 [(0, .ref a0), (3, .int x3), (4, .int x4)] (v.toList ++ []) m2))
    (h2 : ¬ (x4 < 0) → Go X 5 mX12_game Q 62 [(0, .ref a0), (3, .int x3), (4, .int x4), (5, .int (0 : Int32))] [] m) :
    Go X 5 mX12_game Q 54 [(0, .ref a0), (3, .int x3), (4, .int x4)] [] m := by
  refine g_iload 2 dX12_game_54 rfl ?_
  refine g_if_lt 176 dX12_game_56 (by decide) (fun q1 => ?_) (fun q1 => ?_)
  · refine g_aload_n 0 dX12_game_176 rfl rfl ?_
    refine g_iconst (v := 0) dX12_game_177 (by decide) ?_
    refine g_iconst (v := 1) dX12_game_178 (by decide) ?_
    refine g_iconst (v := 0) dX12_game_179 (by decide) ?_
    exact g_callV (As := [.int (0 : Int32), .int (1 : Int32), .int (0 : Int32)]) (st := []) dX12_game_180 clX12_457 c0 rfl rfl (Nat.le_of_ble_eq_true rfl) (rmSH (by decide) (by decide)) (h1 q1)
  · refine g_iconst (v := 0) dX12_game_59 (by decide) ?_
    refine g_istore (ls2 := [(5, .int (0 : Int32)), (0, .ref a0), (3, .int x3), (4, .int x4)]) dX12_game_60 (by decide) rfl ?_
    exact g_ls [1, 2, 3, 0] rfl (h2 q1)
theorem bX12_game_183 {X : pX} {Q : Option Value → pMem → Prop} {m : pMem} {a0 : Nat} {x3 : Int32} {x4 : Int32} {xs0 : Int32} (hW : Wf m) (c0 : SH[a0]? = some (.inl 12))
    (h1 : ¬ x3 = 0 → Q (some (.int (mI m a0 49))) m)
    (h2 : x3 = 0 → Q (some (.int xs0)) m) :
    Go X 5 mX12_game Q 183 [(0, .ref a0), (3, .int x3), (4, .int x4)] [.int xs0] m := by
  refine g_istore (ls2 := [(4, .int xs0), (0, .ref a0), (3, .int x3)]) dX12_game_183 (by decide) rfl ?_
  refine g_iload_n 2 dX12_game_185 rfl rfl ?_
  refine g_if_ne 194 dX12_game_186 (by decide) (fun q1 => ?_) (fun q1 => ?_)
  · refine g_aload_n 1 dX12_game_194 rfl rfl ?_
    refine g_getI dX12_game_195 fl12_445 c0 ?_
    exact g_iret dX12_game_198 rfl enSH (h1 q1)
  · refine g_iload 0 dX12_game_189 rfl ?_
    refine g_goto 198 dX12_game_191 (by decide) ?_
    exact g_iret dX12_game_198 rfl enSH (h2 q1)
theorem bX12_game_62 {X : pX} {Q : Option Value → pMem → Prop} {m : pMem} {a0 : Nat} {x3 : Int32} {x4 : Int32} {x5 : Int32} (hW : Wf m) (c0 : SH[a0]? = some (.inl 12))
    (h1 : (729 : Int32) ≤ x5 → Go X 5 mX12_game Q 54 [(0, .ref a0), (3, .int x3), (4, .int (x4 + (-1 : Int32)))] [] m)
    (h2 : ¬ ((729 : Int32) ≤ x5) → Cl X 0 mX12_howManyTaken [.ref a0, .int x5] m (fun v m2 => Go X 5 mX12_game Q 76 [(0, .ref a0), (3, .int x3), (4, .int x4), (5, .int x5)] (v.toList ++ []) m2)) :
    Go X 5 mX12_game Q 62 [(0, .ref a0), (3, .int x3), (4, .int x4), (5, .int x5)] [] m := by
  refine g_iload 3 dX12_game_62 rfl ?_
  refine g_sipush (v := 729) dX12_game_64 (by decide) ?_
  refine g_icmp_ge 170 dX12_game_67 (by decide) (fun q1 => ?_) (fun q1 => ?_)
  · refine g_iinc (v := x4 + (-1 : Int32)) (ls2 := [(4, .int (x4 + (-1 : Int32))), (0, .ref a0), (3, .int x3), (5, .int x5)]) 2 dX12_game_170 rfl rfl (by decide) rfl ?_
    refine g_goto 54 dX12_game_173 (by decide) ?_
    exact g_ls [1, 2, 0] rfl (h1 q1)
  · refine g_aload_n 0 dX12_game_70 rfl rfl ?_
    refine g_iload 3 dX12_game_71 rfl ?_
    exact g_callV (As := [.int x5]) (st := []) dX12_game_73 clX12_451 c0 rfl rfl (Nat.le_of_ble_eq_true rfl) (rmSH (by decide) (by decide)) (h2 q1)
theorem bX12_game_76 {X : pX} {Q : Option Value → pMem → Prop} {m : pMem} {a0 : Nat} {x3 : Int32} {x4 : Int32} {x5 : Int32} {xs0 : Int32} (hW : Wf m) (c0 : SH[a0]? = some (.inl 12))
    (h1 : ¬ xs0 = x4 → Go X 5 mX12_game Q 62 [(0, .ref a0), (3, .int x3), (4, .int x4), (5, .int (x5 + (1 : Int32)))] [] m)
    (h2 : xs0 = x4 → Cl X 1 mX12_isLaid [.ref a0, .int x5] m (fun v m2 => Go X 5 mX12_game Q 87 [(0, .ref a0), (3, .int x3), (4, .int x4), (5, .int x5)] (v.toList ++ []) m2)) :
    Go X 5 mX12_game Q 76 [(0, .ref a0), (3, .int x3), (4, .int x4), (5, .int x5)] [.int xs0] m := by
  refine g_iload 2 dX12_game_76 rfl ?_
  refine g_icmp_ne 164 dX12_game_78 (by decide) (fun q1 => ?_) (fun q1 => ?_)
  · refine g_iinc (v := x5 + (1 : Int32)) (ls2 := [(5, .int (x5 + (1 : Int32))), (0, .ref a0), (3, .int x3), (4, .int x4)]) 3 dX12_game_164 rfl rfl (by decide) rfl ?_
    refine g_goto 62 dX12_game_167 (by decide) ?_
    exact g_ls [1, 2, 3, 0] rfl (h1 q1)
  · refine g_aload_n 0 dX12_game_81 rfl rfl ?_
    refine g_iload 3 dX12_game_82 rfl ?_
    exact g_callV (As := [.int x5]) (st := []) dX12_game_84 clX12_454 c0 rfl rfl (Nat.le_of_ble_eq_true rfl) (rmSH (by decide) (by decide)) (h2 q1)
theorem bX12_game_87 {X : pX} {Q : Option Value → pMem → Prop} {m : pMem} {a0 : Nat} {x3 : Int32} {x4 : Int32} {x5 : Int32} {xs0 : Int32} (hW : Wf m) (c0 : SH[a0]? = some (.inl 12))
    (h1 : xs0 = 0 → Go X 5 mX12_game Q 62 [(0, .ref a0), (3, .int x3), (4, .int x4), (5, .int (x5 + (1 : Int32)))] [] m)
    (h2 : ¬ (xs0 = 0) → Cl X 4 mX12_bestIn [.ref a0, .int x5, .int (1 : Int32), .int (1 : Int32)] m (fun v m2 => Go X 5 mX12_game Q 108 [(0, .ref a0), (3, .int x3), (4, .int x4), (5, .int x5)] (v.toList ++ [.int (((4 : Int32) * x5) + (1 : Int32)), .ref (a0 + 31)]) m2)) :
    Go X 5 mX12_game Q 87 [(0, .ref a0), (3, .int x3), (4, .int x4), (5, .int x5)] [.int xs0] m := by
  refine g_if_eq 164 dX12_game_87 (by decide) (fun q1 => ?_) (fun q1 => ?_)
  · refine g_iinc (v := x5 + (1 : Int32)) (ls2 := [(5, .int (x5 + (1 : Int32))), (0, .ref a0), (3, .int x3), (4, .int x4)]) 3 dX12_game_164 rfl rfl (by decide) rfl ?_
    refine g_goto 62 dX12_game_167 (by decide) ?_
    exact g_ls [1, 2, 3, 0] rfl (h1 q1)
  · refine g_aload_n 0 dX12_game_90 rfl rfl ?_
    refine g_getR dX12_game_91 fl12_106 rfl c0 (w12_44 hW c0) ?_
    refine g_iconst (v := 4) dX12_game_94 (by decide) ?_
    refine g_iload 3 dX12_game_95 rfl ?_
    refine g_imul dX12_game_97 ?_
    refine g_iconst (v := 1) dX12_game_98 (by decide) ?_
    refine g_iadd dX12_game_99 ?_
    refine g_aload_n 0 dX12_game_100 rfl rfl ?_
    refine g_iload 3 dX12_game_101 rfl ?_
    refine g_iconst (v := 1) dX12_game_103 (by decide) ?_
    refine g_iconst (v := 1) dX12_game_104 (by decide) ?_
    exact g_callV (As := [.int x5, .int (1 : Int32), .int (1 : Int32)]) (st := [.int (((4 : Int32) * x5) + (1 : Int32)), .ref (a0 + 31)]) dX12_game_105 clX12_457 c0 rfl rfl (Nat.le_of_ble_eq_true rfl) (rmSH (by decide) (by decide)) (h2 q1)
theorem bX12_game_108 {X : pX} {Q : Option Value → pMem → Prop} {m : pMem} {a0 : Nat} {x3 : Int32} {x4 : Int32} {x5 : Int32} {xs0 : Int32} {xs1 : Int32} {as2 : Nat} (hW : Wf m) (c0 : SH[a0]? = some (.inl 12)) (cs2 : SH[as2]? = some (.inr (.int, 2916)))
    (h1 : vp_in xs1 2916)
    (h2 : Cl X 4 mX12_bestIn [.ref a0, .int x5, .int (2 : Int32), .int (1 : Int32)] (uI m as2 xs1.toNatClampNeg xs0) (fun v m2 => Go X 5 mX12_game Q 127 [(0, .ref a0), (3, .int x3), (4, .int x4), (5, .int x5)] (v.toList ++ [.int (((4 : Int32) * x5) + (3 : Int32)), .ref (a0 + 31)]) m2)) :
    Go X 5 mX12_game Q 108 [(0, .ref a0), (3, .int x3), (4, .int x4), (5, .int x5)] [.int xs0, .int xs1, .ref as2] m := by
  refine g_iast (j := xs1.toNatClampNeg) dX12_game_108 cs2 h1 rfl ?_
  refine g_aload_n 0 dX12_game_109 rfl rfl ?_
  refine g_getR dX12_game_110 fl12_106 rfl c0 (w12_44 hW c0) ?_
  refine g_iconst (v := 4) dX12_game_113 (by decide) ?_
  refine g_iload 3 dX12_game_114 rfl ?_
  refine g_imul dX12_game_116 ?_
  refine g_iconst (v := 3) dX12_game_117 (by decide) ?_
  refine g_iadd dX12_game_118 ?_
  refine g_aload_n 0 dX12_game_119 rfl rfl ?_
  refine g_iload 3 dX12_game_120 rfl ?_
  refine g_iconst (v := 2) dX12_game_122 (by decide) ?_
  refine g_iconst (v := 1) dX12_game_123 (by decide) ?_
  exact g_callV (As := [.int x5, .int (2 : Int32), .int (1 : Int32)]) (st := [.int (((4 : Int32) * x5) + (3 : Int32)), .ref (a0 + 31)]) dX12_game_124 clX12_457 c0 rfl rfl (Nat.le_of_ble_eq_true rfl) (rmSH (by decide) (by decide)) h2
theorem bX12_game_127 {X : pX} {Q : Option Value → pMem → Prop} {m : pMem} {a0 : Nat} {x3 : Int32} {x4 : Int32} {x5 : Int32} {xs0 : Int32} {xs1 : Int32} {as2 : Nat} (hW : Wf m) (c0 : SH[a0]? = some (.inl 12)) (cs2 : SH[as2]? = some (.inr (.int, 2916)))
    (h1 : vp_in xs1 2916)
    (h2 : Cl X 4 mX12_bestIn [.ref a0, .int x5, .int (1 : Int32), .int (0 : Int32)] (uI m as2 xs1.toNatClampNeg xs0) (fun v m2 => Go X 5 mX12_game Q 144 [(0, .ref a0), (3, .int x3), (4, .int x4), (5, .int x5)] (v.toList ++ [.int ((4 : Int32) * x5), .ref (a0 + 31)]) m2)) :
    Go X 5 mX12_game Q 127 [(0, .ref a0), (3, .int x3), (4, .int x4), (5, .int x5)] [.int xs0, .int xs1, .ref as2] m := by
  refine g_iast (j := xs1.toNatClampNeg) dX12_game_127 cs2 h1 rfl ?_
  refine g_aload_n 0 dX12_game_128 rfl rfl ?_
  refine g_getR dX12_game_129 fl12_106 rfl c0 (w12_44 hW c0) ?_
  refine g_iconst (v := 4) dX12_game_132 (by decide) ?_
  refine g_iload 3 dX12_game_133 rfl ?_
  refine g_imul dX12_game_135 ?_
  refine g_aload_n 0 dX12_game_136 rfl rfl ?_
  refine g_iload 3 dX12_game_137 rfl ?_
  refine g_iconst (v := 1) dX12_game_139 (by decide) ?_
  refine g_iconst (v := 0) dX12_game_140 (by decide) ?_
  exact g_callV (As := [.int x5, .int (1 : Int32), .int (0 : Int32)]) (st := [.int ((4 : Int32) * x5), .ref (a0 + 31)]) dX12_game_141 clX12_457 c0 rfl rfl (Nat.le_of_ble_eq_true rfl) (rmSH (by decide) (by decide)) h2
theorem bX12_game_144 {X : pX} {Q : Option Value → pMem → Prop} {m : pMem} {a0 : Nat} {x3 : Int32} {x4 : Int32} {x5 : Int32} {xs0 : Int32} {xs1 : Int32} {as2 : Nat} (hW : Wf m) (c0 : SH[a0]? = some (.inl 12)) (cs2 : SH[as2]? = some (.inr (.int, 2916)))
    (h1 : vp_in xs1 2916)
    (h2 : Cl X 4 mX12_bestIn [.ref a0, .int x5, .int (2 : Int32), .int (0 : Int32)] (uI m as2 xs1.toNatClampNeg xs0) (fun v m2 => Go X 5 mX12_game Q 163 [(0, .ref a0), (3, .int x3), (4, .int x4), (5, .int x5)] (v.toList ++ [.int (((4 : Int32) * x5) + (2 : Int32)), .ref (a0 + 31)]) m2)) :
    Go X 5 mX12_game Q 144 [(0, .ref a0), (3, .int x3), (4, .int x4), (5, .int x5)] [.int xs0, .int xs1, .ref as2] m := by
  refine g_iast (j := xs1.toNatClampNeg) dX12_game_144 cs2 h1 rfl ?_
  refine g_aload_n 0 dX12_game_145 rfl rfl ?_
  refine g_getR dX12_game_146 fl12_106 rfl c0 (w12_44 hW c0) ?_
  refine g_iconst (v := 4) dX12_game_149 (by decide) ?_
  refine g_iload 3 dX12_game_150 rfl ?_
  refine g_imul dX12_game_152 ?_
  refine g_iconst (v := 2) dX12_game_153 (by decide) ?_
  refine g_iadd dX12_game_154 ?_
  refine g_aload_n 0 dX12_game_155 rfl rfl ?_
  refine g_iload 3 dX12_game_156 rfl ?_
  refine g_iconst (v := 2) dX12_game_158 (by decide) ?_
  refine g_iconst (v := 0) dX12_game_159 (by decide) ?_
  exact g_callV (As := [.int x5, .int (2 : Int32), .int (0 : Int32)]) (st := [.int (((4 : Int32) * x5) + (2 : Int32)), .ref (a0 + 31)]) dX12_game_160 clX12_457 c0 rfl rfl (Nat.le_of_ble_eq_true rfl) (rmSH (by decide) (by decide)) h2
theorem bX12_game_163 {X : pX} {Q : Option Value → pMem → Prop} {m : pMem} {a0 : Nat} {x3 : Int32} {x4 : Int32} {x5 : Int32} {xs0 : Int32} {xs1 : Int32} {as2 : Nat} (hW : Wf m) (c0 : SH[a0]? = some (.inl 12)) (cs2 : SH[as2]? = some (.inr (.int, 2916)))
    (h1 : vp_in xs1 2916)
    (h2 : Go X 5 mX12_game Q 62 [(0, .ref a0), (3, .int x3), (4, .int x4), (5, .int (x5 + (1 : Int32)))] [] (uI m as2 xs1.toNatClampNeg xs0)) :
    Go X 5 mX12_game Q 163 [(0, .ref a0), (3, .int x3), (4, .int x4), (5, .int x5)] [.int xs0, .int xs1, .ref as2] m := by
  refine g_iast (j := xs1.toNatClampNeg) dX12_game_163 cs2 h1 rfl ?_
  refine g_iinc (v := x5 + (1 : Int32)) (ls2 := [(5, .int (x5 + (1 : Int32))), (0, .ref a0), (3, .int x3), (4, .int x4)]) 3 dX12_game_164 rfl rfl (by decide) rfl ?_
  refine g_goto 62 dX12_game_167 (by decide) ?_
  exact g_ls [1, 2, 3, 0] rfl h2
theorem bX12_pence_0 {X : pX} {Q : Option Value → pMem → Prop} {m : pMem} {a0 : Nat} {x1 : Int32} {x2 : Int32} (hW : Wf m) (c0 : SH[a0]? = some (.inl 12))
    (h1 : Cl X 1 mX12_isPerson [.ref a0, .int x2] m (fun v m2 => Go X 2 mX12_pence Q 5 [(0, .ref a0), (1, .int x1), (2, .int x2)] (v.toList ++ []) m2)) :
    Go X 2 mX12_pence Q 0 [(0, .ref a0), (1, .int x1), (2, .int x2)] [] m := by
  refine g_aload_n 0 dX12_pence_0 rfl rfl ?_
  refine g_iload_n 2 dX12_pence_1 rfl rfl ?_
  exact g_callV (As := [.int x2]) (st := []) dX12_pence_2 clX12_334 c0 rfl rfl (Nat.le_of_ble_eq_true rfl) (rmSH (by decide) (by decide)) h1
theorem bX12_pence_5 {X : pX} {Q : Option Value → pMem → Prop} {m : pMem} {a0 : Nat} {x1 : Int32} {x2 : Int32} {xs0 : Int32} (hW : Wf m) (c0 : SH[a0]? = some (.inl 12))
    (h1 : xs0 = 0 → Q (some (.int (-1 : Int32))) m)
    (h2 : ¬ (xs0 = 0) → Cl X 0 mX12_in [.long x1.toInt64, .long (0 : Int64), .long (9999 : Int64)] m (fun v m2 => Go X 2 mX12_pence Q 17 [(0, .ref a0), (1, .int x1), (2, .int x2)] (v.toList ++ []) m2)) :
    Go X 2 mX12_pence Q 5 [(0, .ref a0), (1, .int x1), (2, .int x2)] [.int xs0] m := by
  refine g_if_eq 20 dX12_pence_5 (by decide) (fun q1 => ?_) (fun q1 => ?_)
  · refine g_iconst (v := -1) dX12_pence_20 (by decide) ?_
    exact g_iret dX12_pence_21 rfl enSH (h1 q1)
  · refine g_iload_n 1 dX12_pence_8 rfl rfl ?_
    refine g_i2l dX12_pence_9 ?_
    refine g_lconst (v := 0) dX12_pence_10 (by decide) ?_
    refine g_ldc2 (v := 9999) dX12_pence_11 cjX12_461 ?_
    exact g_callS (As := [.long x1.toInt64, .long (0 : Int64), .long (9999 : Int64)]) (st := []) dX12_pence_14 clX12_128 rfl rfl (Nat.le_of_ble_eq_true rfl) (rmSH (by decide) (by decide)) (h2 q1)
theorem bX12_pence_17 {X : pX} {Q : Option Value → pMem → Prop} {m : pMem} {a0 : Nat} {x1 : Int32} {x2 : Int32} {xs0 : Int32} (hW : Wf m) (c0 : SH[a0]? = some (.inl 12))
    (h1 : ¬ xs0 = 0 → Go X 2 mX12_pence Q 27 [(0, .ref a0), (1, .int x1), (2, .int x2), (3, .int (0 : Int32)), (4, .int (0 : Int32))] [] m)
    (h2 : xs0 = 0 → Q (some (.int (-1 : Int32))) m) :
    Go X 2 mX12_pence Q 17 [(0, .ref a0), (1, .int x1), (2, .int x2)] [.int xs0] m := by
  refine g_if_ne 22 dX12_pence_17 (by decide) (fun q1 => ?_) (fun q1 => ?_)
  · refine g_iconst (v := 0) dX12_pence_22 (by decide) ?_
    refine g_istore_n (ls2 := [(3, .int (0 : Int32)), (0, .ref a0), (1, .int x1), (2, .int x2)]) dX12_pence_23 rfl (by decide) rfl ?_
    refine g_iconst (v := 0) dX12_pence_24 (by decide) ?_
    refine g_istore (ls2 := [(4, .int (0 : Int32)), (3, .int (0 : Int32)), (0, .ref a0), (1, .int x1), (2, .int x2)]) dX12_pence_25 (by decide) rfl ?_
    exact g_ls [2, 3, 4, 1, 0] rfl (h1 q1)
  · refine g_iconst (v := -1) dX12_pence_20 (by decide) ?_
    exact g_iret dX12_pence_21 rfl enSH (h2 q1)
theorem bX12_pence_27 {X : pX} {Q : Option Value → pMem → Prop} {m : pMem} {a0 : Nat} {x1 : Int32} {x2 : Int32} {x3 : Int32} {x4 : Int32} (hW : Wf m) (c0 : SH[a0]? = some (.inl 12))
    (h1 : (mI m (a0 + 1) 3) ≤ x4 → ¬ x3 = 0 → Cl X 0 mX12_thingsOf [.ref a0, .int x2] m (fun v m2 => Go X 2 mX12_pence Q 76 [(0, .ref a0), (1, .int x1), (2, .int x2), (3, .int x3), (4, .int x1), (5, .int (0 : Int32))] (v.toList ++ [.ref a0, .int x1]) m2))
    (h2 : (mI m (a0 + 1) 3) ≤ x4 → x3 = 0 → Q (some (.int (0 : Int32))) m)
    (h3 : ¬ ((mI m (a0 + 1) 3) ≤ x4) → Cl X 0 mX12_thingsOf [.ref a0, .int x4] m (fun v m2 => Go X 2 mX12_pence Q 46 [(0, .ref a0), (1, .int x1), (2, .int x2), (3, .int x3), (4, .int x4)] (v.toList ++ [.ref a0, .int x3]) m2)) :
    Go X 2 mX12_pence Q 27 [(0, .ref a0), (1, .int x1), (2, .int x2), (3, .int x3), (4, .int x4)] [] m := by
  refine g_iload 4 dX12_pence_27 rfl ?_
  refine g_aload_n 0 dX12_pence_29 rfl rfl ?_
  refine g_getR dX12_pence_30 fl12_9 rfl c0 (w12_1 hW c0) ?_
  refine g_iconst (v := 3) dX12_pence_33 (by decide) ?_
  refine g_iald (j := 3) dX12_pence_34 (s12_1 c0) (by unfold vp_in; decide) (by decide) ?_
  refine g_icmp_ge 57 dX12_pence_35 (by decide) (fun q1 => ?_) (fun q1 => ?_)
  · refine g_iload_n 3 dX12_pence_57 rfl rfl ?_
    refine g_if_ne 63 dX12_pence_58 (by decide) (fun q2 => ?_) (fun q2 => ?_)
    · refine g_iload_n 1 dX12_pence_63 rfl rfl ?_
      refine g_istore (ls2 := [(4, .int x1), (0, .ref a0), (1, .int x1), (2, .int x2), (3, .int x3)]) dX12_pence_64 (by decide) rfl ?_
      refine g_iconst (v := 0) dX12_pence_66 (by decide) ?_
      refine g_istore (ls2 := [(5, .int (0 : Int32)), (4, .int x1), (0, .ref a0), (1, .int x1), (2, .int x2), (3, .int x3)]) dX12_pence_67 (by decide) rfl ?_
      refine g_iload_n 3 dX12_pence_69 rfl rfl ?_
      refine g_aload_n 2 dX12_pence_70 rfl rfl ?_
      refine g_aload_n 2 dX12_pence_71 rfl rfl ?_
      refine g_iload_n 4 dX12_pence_72 rfl rfl ?_
      refine g_ls [2, 3, 4, 5, 1, 0] (ls2 := [(0, .ref a0), (1, .int x1), (2, .int x2), (3, .int x3), (4, .int x1), (5, .int (0 : Int32))]) rfl ?_
      exact g_callV (As := [.int x2]) (st := [.ref a0, .int x1]) dX12_pence_73 clX12_338 c0 rfl rfl (Nat.le_of_ble_eq_true rfl) (rmSH (by decide) (by decide)) (h1 q1 q2)
    · refine g_iconst (v := 0) dX12_pence_61 (by decide) ?_
      exact g_iret dX12_pence_62 rfl enSH (h2 q1 q2)
  · refine g_iload_n 3 dX12_pence_38 rfl rfl ?_
    refine g_aload_n 0 dX12_pence_39 rfl rfl ?_
    refine g_aload_n 0 dX12_pence_40 rfl rfl ?_
    refine g_iload 4 dX12_pence_41 rfl ?_
    exact g_callV (As := [.int x4]) (st := [.ref a0, .int x3]) dX12_pence_43 clX12_338 c0 rfl rfl (Nat.le_of_ble_eq_true rfl) (rmSH (by decide) (by decide)) (h3 q1)
theorem bX12_pence_76 {X : pX} {Q : Option Value → pMem → Prop} {m : pMem} {a0 : Nat} {x1 : Int32} {x2 : Int32} {x3 : Int32} {x4 : Int32} {x5 : Int32} {xs0 : Int32} {as1 : Nat} {xs2 : Int32} (hW : Wf m) (c0 : SH[a0]? = some (.inl 12)) (cs1 : SH[as1]? = some (.inl 12))
    (h1 : Cl X 1 mX12_worthOf [.ref as1, .int xs0] m (fun v m2 => Go X 2 mX12_pence Q 79 [(0, .ref a0), (1, .int x1), (2, .int x2), (3, .int x3), (4, .int x4), (5, .int x5)] (v.toList ++ [.int xs2]) m2)) :
    Go X 2 mX12_pence Q 76 [(0, .ref a0), (1, .int x1), (2, .int x2), (3, .int x3), (4, .int x4), (5, .int x5)] [.int xs0, .ref as1, .int xs2] m := by
  exact g_callV (As := [.int xs0]) (st := [.int xs2]) dX12_pence_76 clX12_344 cs1 rfl rfl (Nat.le_of_ble_eq_true rfl) (rmSH (by decide) (by decide)) h1
theorem bX12_pence_46 {X : pX} {Q : Option Value → pMem → Prop} {m : pMem} {a0 : Nat} {x1 : Int32} {x2 : Int32} {x3 : Int32} {x4 : Int32} {xs0 : Int32} {as1 : Nat} {xs2 : Int32} (hW : Wf m) (c0 : SH[a0]? = some (.inl 12)) (cs1 : SH[as1]? = some (.inl 12))
    (h1 : Cl X 1 mX12_worthOf [.ref as1, .int xs0] m (fun v m2 => Go X 2 mX12_pence Q 49 [(0, .ref a0), (1, .int x1), (2, .int x2), (3, .int x3), (4, .int x4)] (v.toList ++ [.int xs2]) m2)) :
    Go X 2 mX12_pence Q 46 [(0, .ref a0), (1, .int x1), (2, .int x2), (3, .int x3), (4, .int x4)] [.int xs0, .ref as1, .int xs2] m := by
  exact g_callV (As := [.int xs0]) (st := [.int xs2]) dX12_pence_46 clX12_344 cs1 rfl rfl (Nat.le_of_ble_eq_true rfl) (rmSH (by decide) (by decide)) h1
theorem bX12_pence_79 {X : pX} {Q : Option Value → pMem → Prop} {m : pMem} {a0 : Nat} {x1 : Int32} {x2 : Int32} {x3 : Int32} {x4 : Int32} {x5 : Int32} {xs0 : Int32} {xs1 : Int32} (hW : Wf m) (c0 : SH[a0]? = some (.inl 12))
    (h1 : Go X 2 mX12_pence Q 85 [(0, .ref a0), (1, .int x1), (2, .int x2), (3, .int x3), (4, .int x4), (5, .int x5), (6, .int (xs1 * xs0)), (7, .int (0 : Int32))] [] m) :
    Go X 2 mX12_pence Q 79 [(0, .ref a0), (1, .int x1), (2, .int x2), (3, .int x3), (4, .int x4), (5, .int x5)] [.int xs0, .int xs1] m := by
  refine g_imul dX12_pence_79 ?_
  refine g_istore (ls2 := [(6, .int (xs1 * xs0)), (0, .ref a0), (1, .int x1), (2, .int x2), (3, .int x3), (4, .int x4), (5, .int x5)]) dX12_pence_80 (by decide) rfl ?_
  refine g_iconst (v := 0) dX12_pence_82 (by decide) ?_
  refine g_istore (ls2 := [(7, .int (0 : Int32)), (6, .int (xs1 * xs0)), (0, .ref a0), (1, .int x1), (2, .int x2), (3, .int x3), (4, .int x4), (5, .int x5)]) dX12_pence_83 (by decide) rfl ?_
  exact g_ls [2, 3, 4, 5, 6, 7, 1, 0] rfl h1
theorem bX12_pence_49 {X : pX} {Q : Option Value → pMem → Prop} {m : pMem} {a0 : Nat} {x1 : Int32} {x2 : Int32} {x3 : Int32} {x4 : Int32} {xs0 : Int32} {xs1 : Int32} (hW : Wf m) (c0 : SH[a0]? = some (.inl 12))
    (h1 : Go X 2 mX12_pence Q 27 [(0, .ref a0), (1, .int x1), (2, .int x2), (3, .int (xs1 + xs0)), (4, .int (x4 + (1 : Int32)))] [] m) :
    Go X 2 mX12_pence Q 49 [(0, .ref a0), (1, .int x1), (2, .int x2), (3, .int x3), (4, .int x4)] [.int xs0, .int xs1] m := by
  refine g_iadd dX12_pence_49 ?_
  refine g_istore_n (ls2 := [(3, .int (xs1 + xs0)), (0, .ref a0), (1, .int x1), (2, .int x2), (4, .int x4)]) dX12_pence_50 rfl (by decide) rfl ?_
  refine g_iinc (v := x4 + (1 : Int32)) (ls2 := [(4, .int (x4 + (1 : Int32))), (3, .int (xs1 + xs0)), (0, .ref a0), (1, .int x1), (2, .int x2)]) 4 dX12_pence_51 rfl rfl (by decide) rfl ?_
  refine g_goto 27 dX12_pence_54 (by decide) ?_
  exact g_ls [2, 3, 4, 1, 0] rfl h1
theorem bX12_pence_85 {X : pX} {Q : Option Value → pMem → Prop} {m : pMem} {a0 : Nat} {x1 : Int32} {x2 : Int32} {x3 : Int32} {x4 : Int32} {x5 : Int32} {x6 : Int32} {x7 : Int32} (hW : Wf m) (c0 : SH[a0]? = some (.inl 12))
    (h1 : (mI m (a0 + 1) 3) ≤ x7 → ¬ x3 = 0)
    (h2 : (mI m (a0 + 1) 3) ≤ x7 → x4 ≤ x5 → Q (some (.int ((x6 / x3) + (0 : Int32)))) m)
    (h3 : (mI m (a0 + 1) 3) ≤ x7 → ¬ (x4 ≤ x5) → Q (some (.int ((x6 / x3) + (1 : Int32)))) m)
    (h4 : ¬ ((mI m (a0 + 1) 3) ≤ x7) → Cl X 0 mX12_thingsOf [.ref a0, .int x7] m (fun v m2 => Go X 2 mX12_pence Q 104 [(0, .ref a0), (1, .int x1), (2, .int x2), (3, .int x3), (4, .int x4), (5, .int x5), (6, .int x6), (7, .int x7)] (v.toList ++ [.ref a0, .int x1]) m2)) :
    Go X 2 mX12_pence Q 85 [(0, .ref a0), (1, .int x1), (2, .int x2), (3, .int x3), (4, .int x4), (5, .int x5), (6, .int x6), (7, .int x7)] [] m := by
  refine g_iload 7 dX12_pence_85 rfl ?_
  refine g_aload_n 0 dX12_pence_87 rfl rfl ?_
  refine g_getR dX12_pence_88 fl12_9 rfl c0 (w12_1 hW c0) ?_
  refine g_iconst (v := 3) dX12_pence_91 (by decide) ?_
  refine g_iald (j := 3) dX12_pence_92 (s12_1 c0) (by unfold vp_in; decide) (by decide) ?_
  refine g_icmp_ge 162 dX12_pence_93 (by decide) (fun q1 => ?_) (fun q1 => ?_)
  · refine g_iload 6 dX12_pence_162 rfl ?_
    refine g_iload_n 3 dX12_pence_164 rfl rfl ?_
    refine g_idiv dX12_pence_165 (h1 q1) ?_
    refine g_iload 5 dX12_pence_166 rfl ?_
    refine g_iload 4 dX12_pence_168 rfl ?_
    refine g_icmp_ge 177 dX12_pence_170 (by decide) (fun q2 => ?_) (fun q2 => ?_)
    · refine g_iconst (v := 0) dX12_pence_177 (by decide) ?_
      refine g_iadd dX12_pence_178 ?_
      exact g_iret dX12_pence_179 rfl enSH (h2 q1 q2)
    · refine g_iconst (v := 1) dX12_pence_173 (by decide) ?_
      refine g_goto 178 dX12_pence_174 (by decide) ?_
      refine g_iadd dX12_pence_178 ?_
      exact g_iret dX12_pence_179 rfl enSH (h3 q1 q2)
  · refine g_iload_n 1 dX12_pence_96 rfl rfl ?_
    refine g_aload_n 0 dX12_pence_97 rfl rfl ?_
    refine g_aload_n 0 dX12_pence_98 rfl rfl ?_
    refine g_iload 7 dX12_pence_99 rfl ?_
    exact g_callV (As := [.int x7]) (st := [.ref a0, .int x1]) dX12_pence_101 clX12_338 c0 rfl rfl (Nat.le_of_ble_eq_true rfl) (rmSH (by decide) (by decide)) (h4 q1)
theorem bX12_pence_104 {X : pX} {Q : Option Value → pMem → Prop} {m : pMem} {a0 : Nat} {x1 : Int32} {x2 : Int32} {x3 : Int32} {x4 : Int32} {x5 : Int32} {x6 : Int32} {x7 : Int32} {xs0 : Int32} {as1 : Nat} {xs2 : Int32} (hW : Wf m) (c0 : SH[a0]? = some (.inl 12)) (cs1 : SH[as1]? = some (.inl 12))
    (h1 : Cl X 1 mX12_worthOf [.ref as1, .int xs0] m (fun v m2 => Go X 2 mX12_pence Q 107 [(0, .ref a0), (1, .int x1), (2, .int x2), (3, .int x3), (4, .int x4), (5, .int x5), (6, .int x6), (7, .int x7)] (v.toList ++ [.int xs2]) m2)) :
    Go X 2 mX12_pence Q 104 [(0, .ref a0), (1, .int x1), (2, .int x2), (3, .int x3), (4, .int x4), (5, .int x5), (6, .int x6), (7, .int x7)] [.int xs0, .ref as1, .int xs2] m := by
  exact g_callV (As := [.int xs0]) (st := [.int xs2]) dX12_pence_104 clX12_344 cs1 rfl rfl (Nat.le_of_ble_eq_true rfl) (rmSH (by decide) (by decide)) h1
theorem bX12_pence_107 {X : pX} {Q : Option Value → pMem → Prop} {m : pMem} {a0 : Nat} {x1 : Int32} {x2 : Int32} {x3 : Int32} {x4 : Int32} {x5 : Int32} {x6 : Int32} {x7 : Int32} {xs0 : Int32} {xs1 : Int32} (hW : Wf m) (c0 : SH[a0]? = some (.inl 12))
    (h1 : ¬ x3 = 0)
    (h2 : ¬ x3 = 0)
    (h3 : ¬ x3 = 0)
    (h4 : 0 < (((xs1 * xs0) - (xs1 * xs0) / x3 * x3) - (x6 - x6 / x3 * x3)) → Go X 2 mX12_pence Q 85 [(0, .ref a0), (1, .int x1), (2, .int x2), (3, .int x3), (4, .int (x4 - ((xs1 * xs0) / x3))), (5, .int (x5 + (1 : Int32))), (6, .int x6), (7, .int (x7 + (1 : Int32)))] [] m)
    (h5 : ¬ (0 < (((xs1 * xs0) - (xs1 * xs0) / x3 * x3) - (x6 - x6 / x3 * x3))) → ¬ (((xs1 * xs0) - (xs1 * xs0) / x3 * x3) - (x6 - x6 / x3 * x3)) = 0 → Go X 2 mX12_pence Q 85 [(0, .ref a0), (1, .int x1), (2, .int x2), (3, .int x3), (4, .int (x4 - ((xs1 * xs0) / x3))), (5, .int (x5 + (0 : Int32))), (6, .int x6), (7, .int (x7 + (1 : Int32)))] [] m)
    (h6 : ¬ (0 < (((xs1 * xs0) - (xs1 * xs0) / x3 * x3) - (x6 - x6 / x3 * x3))) → (((xs1 * xs0) - (xs1 * xs0) / x3 * x3) - (x6 - x6 / x3 * x3)) = 0 → x2 ≤ x7 → Go X 2 mX12_pence Q 85 [(0, .ref a0), (1, .int x1), (2, .int x2), (3, .int x3), (4, .int (x4 - ((xs1 * xs0) / x3))), (5, .int (x5 + (0 : Int32))), (6, .int x6), (7, .int (x7 + (1 : Int32)))] [] m)
    (h7 : ¬ (0 < (((xs1 * xs0) - (xs1 * xs0) / x3 * x3) - (x6 - x6 / x3 * x3))) → (((xs1 * xs0) - (xs1 * xs0) / x3 * x3) - (x6 - x6 / x3 * x3)) = 0 → ¬ (x2 ≤ x7) → Go X 2 mX12_pence Q 85 [(0, .ref a0), (1, .int x1), (2, .int x2), (3, .int x3), (4, .int (x4 - ((xs1 * xs0) / x3))), (5, .int (x5 + (1 : Int32))), (6, .int x6), (7, .int (x7 + (1 : Int32)))] [] m) :
    Go X 2 mX12_pence Q 107 [(0, .ref a0), (1, .int x1), (2, .int x2), (3, .int x3), (4, .int x4), (5, .int x5), (6, .int x6), (7, .int x7)] [.int xs0, .int xs1] m := by
  refine g_imul dX12_pence_107 ?_
  refine g_istore (ls2 := [(8, .int (xs1 * xs0)), (0, .ref a0), (1, .int x1), (2, .int x2), (3, .int x3), (4, .int x4), (5, .int x5), (6, .int x6), (7, .int x7)]) dX12_pence_108 (by decide) rfl ?_
  refine g_iload 5 dX12_pence_110 rfl ?_
  refine g_iload 0 dX12_pence_112 rfl ?_
  refine g_iload_n 4 dX12_pence_114 rfl rfl ?_
  refine g_idiv dX12_pence_115 h1 ?_
  refine g_isub dX12_pence_116 ?_
  refine g_istore (ls2 := [(4, .int (x4 - ((xs1 * xs0) / x3))), (8, .int (xs1 * xs0)), (0, .ref a0), (1, .int x1), (2, .int x2), (3, .int x3), (5, .int x5), (6, .int x6), (7, .int x7)]) dX12_pence_117 (by decide) rfl ?_
  refine g_iload 1 dX12_pence_119 rfl ?_
  refine g_iload_n 5 dX12_pence_121 rfl rfl ?_
  refine g_irem dX12_pence_122 h2 ?_
  refine g_iload 7 dX12_pence_123 rfl ?_
  refine g_iload_n 5 dX12_pence_125 rfl rfl ?_
  refine g_irem dX12_pence_126 h3 ?_
  refine g_isub dX12_pence_127 ?_
  refine g_istore (ls2 := [(9, .int (((xs1 * xs0) - (xs1 * xs0) / x3 * x3) - (x6 - x6 / x3 * x3))), (4, .int (x4 - ((xs1 * xs0) / x3))), (8, .int (xs1 * xs0)), (0, .ref a0), (1, .int x1), (2, .int x2), (3, .int x3), (5, .int x5), (6, .int x6), (7, .int x7)]) dX12_pence_128 (by decide) rfl ?_
  refine g_iload 7 dX12_pence_130 rfl ?_
  refine g_iload 0 dX12_pence_132 rfl ?_
  refine g_if_gt 148 dX12_pence_134 (by decide) (fun q1 => ?_) (fun q1 => ?_)
  · refine g_iconst (v := 1) dX12_pence_148 (by decide) ?_
    refine g_goto 153 dX12_pence_149 (by decide) ?_
    refine g_iadd dX12_pence_153 ?_
    refine g_istore (ls2 := [(5, .int (x5 + (1 : Int32))), (9, .int (((xs1 * xs0) - (xs1 * xs0) / x3 * x3) - (x6 - x6 / x3 * x3))), (4, .int (x4 - ((xs1 * xs0) / x3))), (8, .int (xs1 * xs0)), (0, .ref a0), (1, .int x1), (2, .int x2), (3, .int x3), (6, .int x6), (7, .int x7)]) dX12_pence_154 (by decide) rfl ?_
    refine g_iinc (v := x7 + (1 : Int32)) (ls2 := [(7, .int (x7 + (1 : Int32))), (5, .int (x5 + (1 : Int32))), (9, .int (((xs1 * xs0) - (xs1 * xs0) / x3 * x3) - (x6 - x6 / x3 * x3))), (4, .int (x4 - ((xs1 * xs0) / x3))), (8, .int (xs1 * xs0)), (0, .ref a0), (1, .int x1), (2, .int x2), (3, .int x3), (6, .int x6)]) 9 dX12_pence_156 rfl rfl (by decide) rfl ?_
    refine g_goto 85 dX12_pence_159 (by decide) ?_
    exact g_ls [5, 6, 7, 8, 3, 1, 9, 0] rfl (h4 q1)
  · refine g_iload 0 dX12_pence_137 rfl ?_
    refine g_if_ne 152 dX12_pence_139 (by decide) (fun q2 => ?_) (fun q2 => ?_)
    · refine g_iconst (v := 0) dX12_pence_152 (by decide) ?_
      refine g_iadd dX12_pence_153 ?_
      refine g_istore (ls2 := [(5, .int (x5 + (0 : Int32))), (9, .int (((xs1 * xs0) - (xs1 * xs0) / x3 * x3) - (x6 - x6 / x3 * x3))), (4, .int (x4 - ((xs1 * xs0) / x3))), (8, .int (xs1 * xs0)), (0, .ref a0), (1, .int x1), (2, .int x2), (3, .int x3), (6, .int x6), (7, .int x7)]) dX12_pence_154 (by decide) rfl ?_
      refine g_iinc (v := x7 + (1 : Int32)) (ls2 := [(7, .int (x7 + (1 : Int32))), (5, .int (x5 + (0 : Int32))), (9, .int (((xs1 * xs0) - (xs1 * xs0) / x3 * x3) - (x6 - x6 / x3 * x3))), (4, .int (x4 - ((xs1 * xs0) / x3))), (8, .int (xs1 * xs0)), (0, .ref a0), (1, .int x1), (2, .int x2), (3, .int x3), (6, .int x6)]) 9 dX12_pence_156 rfl rfl (by decide) rfl ?_
      refine g_goto 85 dX12_pence_159 (by decide) ?_
      exact g_ls [5, 6, 7, 8, 3, 1, 9, 0] rfl (h5 q1 q2)
    · refine g_iload 9 dX12_pence_142 rfl ?_
      refine g_iload_n 5 dX12_pence_144 rfl rfl ?_
      refine g_icmp_ge 152 dX12_pence_145 (by decide) (fun q3 => ?_) (fun q3 => ?_)
      · refine g_iconst (v := 0) dX12_pence_152 (by decide) ?_
        refine g_iadd dX12_pence_153 ?_
        refine g_istore (ls2 := [(5, .int (x5 + (0 : Int32))), (9, .int (((xs1 * xs0) - (xs1 * xs0) / x3 * x3) - (x6 - x6 / x3 * x3))), (4, .int (x4 - ((xs1 * xs0) / x3))), (8, .int (xs1 * xs0)), (0, .ref a0), (1, .int x1), (2, .int x2), (3, .int x3), (6, .int x6), (7, .int x7)]) dX12_pence_154 (by decide) rfl ?_
        refine g_iinc (v := x7 + (1 : Int32)) (ls2 := [(7, .int (x7 + (1 : Int32))), (5, .int (x5 + (0 : Int32))), (9, .int (((xs1 * xs0) - (xs1 * xs0) / x3 * x3) - (x6 - x6 / x3 * x3))), (4, .int (x4 - ((xs1 * xs0) / x3))), (8, .int (xs1 * xs0)), (0, .ref a0), (1, .int x1), (2, .int x2), (3, .int x3), (6, .int x6)]) 9 dX12_pence_156 rfl rfl (by decide) rfl ?_
        refine g_goto 85 dX12_pence_159 (by decide) ?_
        exact g_ls [5, 6, 7, 8, 3, 1, 9, 0] rfl (h6 q1 q2 q3)
      · refine g_iconst (v := 1) dX12_pence_148 (by decide) ?_
        refine g_goto 153 dX12_pence_149 (by decide) ?_
        refine g_iadd dX12_pence_153 ?_
        refine g_istore (ls2 := [(5, .int (x5 + (1 : Int32))), (9, .int (((xs1 * xs0) - (xs1 * xs0) / x3 * x3) - (x6 - x6 / x3 * x3))), (4, .int (x4 - ((xs1 * xs0) / x3))), (8, .int (xs1 * xs0)), (0, .ref a0), (1, .int x1), (2, .int x2), (3, .int x3), (6, .int x6), (7, .int x7)]) dX12_pence_154 (by decide) rfl ?_
        refine g_iinc (v := x7 + (1 : Int32)) (ls2 := [(7, .int (x7 + (1 : Int32))), (5, .int (x5 + (1 : Int32))), (9, .int (((xs1 * xs0) - (xs1 * xs0) / x3 * x3) - (x6 - x6 / x3 * x3))), (4, .int (x4 - ((xs1 * xs0) / x3))), (8, .int (xs1 * xs0)), (0, .ref a0), (1, .int x1), (2, .int x2), (3, .int x3), (6, .int x6)]) 9 dX12_pence_156 rfl rfl (by decide) rfl ?_
        refine g_goto 85 dX12_pence_159 (by decide) ?_
        exact g_ls [5, 6, 7, 8, 3, 1, 9, 0] rfl (h7 q1 q2 q3)
theorem bX12_note_0 {X : pX} {Q : Option Value → pMem → Prop} {m : pMem} {a0 : Nat} {x1 : Int32} {x2 : Int32} {x3 : Int32} (hW : Wf m) (c0 : SH[a0]? = some (.inl 12))
    (h1 : ¬ x1 = (-1 : Int32) → Cl X 0 mX12_in [.long x1.toInt64, .long (0 : Int64), .long (60 : Int64)] m (fun v m2 => Go X 2 mX12_note Q 33 [(0, .ref a0), (1, .int x1), (2, .int x2), (3, .int x3), (4, .int (mI m (a0 + 1) 6))] (v.toList ++ []) m2))
    (h2 : x1 = (-1 : Int32) → Q (some (.int (0 : Int32))) (uI m (a0 + 1) 6 (0 : Int32))) :
    Go X 2 mX12_note Q 0 [(0, .ref a0), (1, .int x1), (2, .int x2), (3, .int x3)] [] m := by
  refine g_iload_n 1 dX12_note_0 rfl rfl ?_
  refine g_iconst (v := -1) dX12_note_1 (by decide) ?_
  refine g_icmp_ne 15 dX12_note_2 (by decide) (fun q1 => ?_) (fun q1 => ?_)
  · refine g_aload_n 0 dX12_note_15 rfl rfl ?_
    refine g_getR dX12_note_16 fl12_9 rfl c0 (w12_1 hW c0) ?_
    refine g_bipush (v := 6) dX12_note_19 (by decide) ?_
    refine g_iald (j := 6) dX12_note_21 (s12_1 c0) (by unfold vp_in; decide) (by decide) ?_
    refine g_istore (ls2 := [(4, .int (mI m (a0 + 1) 6)), (0, .ref a0), (1, .int x1), (2, .int x2), (3, .int x3)]) dX12_note_22 (by decide) rfl ?_
    refine g_iload_n 2 dX12_note_24 rfl rfl ?_
    refine g_i2l dX12_note_25 ?_
    refine g_lconst (v := 0) dX12_note_26 (by decide) ?_
    refine g_ldc2 (v := 60) dX12_note_27 cjX12_431 ?_
    refine g_ls [1, 2, 3, 4, 0] (ls2 := [(0, .ref a0), (1, .int x1), (2, .int x2), (3, .int x3), (4, .int (mI m (a0 + 1) 6))]) rfl ?_
    exact g_callS (As := [.long x1.toInt64, .long (0 : Int64), .long (60 : Int64)]) (st := []) dX12_note_30 clX12_128 rfl rfl (Nat.le_of_ble_eq_true rfl) (rmSH (by decide) (by decide)) (h1 q1)
  · refine g_aload_n 0 dX12_note_5 rfl rfl ?_
    refine g_getR dX12_note_6 fl12_9 rfl c0 (w12_1 hW c0) ?_
    refine g_bipush (v := 6) dX12_note_9 (by decide) ?_
    refine g_iconst (v := 0) dX12_note_11 (by decide) ?_
    refine g_iast (j := 6) dX12_note_12 (s12_1 c0) (by unfold vp_in; decide) (by decide) ?_
    refine g_iconst (v := 0) dX12_note_13 (by decide) ?_
    exact g_iret dX12_note_14 rfl enSH (h2 q1)
theorem bX12_note_33 {X : pX} {Q : Option Value → pMem → Prop} {m : pMem} {a0 : Nat} {x1 : Int32} {x2 : Int32} {x3 : Int32} {x4 : Int32} {xs0 : Int32} (hW : Wf m) (c0 : SH[a0]? = some (.inl 12))
    (h1 : xs0 = 0 → Q (some (.int (-2 : Int32))) m)
    (h2 : ¬ (xs0 = 0) → Cl X 1 mX12_isPerson [.ref a0, .int x2] m (fun v m2 => Go X 2 mX12_note Q 41 [(0, .ref a0), (1, .int x1), (2, .int x2), (3, .int x3), (4, .int x4)] (v.toList ++ []) m2)) :
    Go X 2 mX12_note Q 33 [(0, .ref a0), (1, .int x1), (2, .int x2), (3, .int x3), (4, .int x4)] [.int xs0] m := by
  refine g_if_eq 65 dX12_note_33 (by decide) (fun q1 => ?_) (fun q1 => ?_)
  · refine g_bipush (v := -2) dX12_note_65 (by decide) ?_
    exact g_iret dX12_note_67 rfl enSH (h1 q1)
  · refine g_aload_n 0 dX12_note_36 rfl rfl ?_
    refine g_iload_n 2 dX12_note_37 rfl rfl ?_
    exact g_callV (As := [.int x2]) (st := []) dX12_note_38 clX12_334 c0 rfl rfl (Nat.le_of_ble_eq_true rfl) (rmSH (by decide) (by decide)) (h2 q1)
theorem bX12_note_41 {X : pX} {Q : Option Value → pMem → Prop} {m : pMem} {a0 : Nat} {x1 : Int32} {x2 : Int32} {x3 : Int32} {x4 : Int32} {xs0 : Int32} (hW : Wf m) (c0 : SH[a0]? = some (.inl 12))
    (h1 : xs0 = 0 → Q (some (.int (-2 : Int32))) m)
    (h2 : ¬ (xs0 = 0) → Cl X 0 mX12_town [.ref a0] m (fun v m2 => Go X 2 mX12_note Q 51 [(0, .ref a0), (1, .int x1), (2, .int x2), (3, .int x3), (4, .int x4)] (v.toList ++ [.long (0 : Int64), .long x3.toInt64]) m2)) :
    Go X 2 mX12_note Q 41 [(0, .ref a0), (1, .int x1), (2, .int x2), (3, .int x3), (4, .int x4)] [.int xs0] m := by
  refine g_if_eq 65 dX12_note_41 (by decide) (fun q1 => ?_) (fun q1 => ?_)
  · refine g_bipush (v := -2) dX12_note_65 (by decide) ?_
    exact g_iret dX12_note_67 rfl enSH (h1 q1)
  · refine g_iload_n 3 dX12_note_44 rfl rfl ?_
    refine g_i2l dX12_note_45 ?_
    refine g_lconst (v := 0) dX12_note_46 (by decide) ?_
    refine g_aload_n 0 dX12_note_47 rfl rfl ?_
    exact g_callV (As := []) (st := [.long (0 : Int64), .long x3.toInt64]) dX12_note_48 clX12_352 c0 rfl rfl (Nat.le_of_ble_eq_true rfl) (rmSH (by decide) (by decide)) (h2 q1)
theorem bX12_note_51 {X : pX} {Q : Option Value → pMem → Prop} {m : pMem} {a0 : Nat} {x1 : Int32} {x2 : Int32} {x3 : Int32} {x4 : Int32} {xs0 : Int32} {ys1 : Int64} {ys2 : Int64} (hW : Wf m) (c0 : SH[a0]? = some (.inl 12))
    (h1 : Cl X 0 mX12_in [.long ys2, .long ys1, .long xs0.toInt64] m (fun v m2 => Go X 2 mX12_note Q 55 [(0, .ref a0), (1, .int x1), (2, .int x2), (3, .int x3), (4, .int x4)] (v.toList ++ []) m2)) :
    Go X 2 mX12_note Q 51 [(0, .ref a0), (1, .int x1), (2, .int x2), (3, .int x3), (4, .int x4)] [.int xs0, .long ys1, .long ys2] m := by
  refine g_i2l dX12_note_51 ?_
  exact g_callS (As := [.long ys2, .long ys1, .long xs0.toInt64]) (st := []) dX12_note_52 clX12_128 rfl rfl (Nat.le_of_ble_eq_true rfl) (rmSH (by decide) (by decide)) h1
theorem bX12_note_55 {X : pX} {Q : Option Value → pMem → Prop} {m : pMem} {a0 : Nat} {x1 : Int32} {x2 : Int32} {x3 : Int32} {x4 : Int32} {xs0 : Int32} (hW : Wf m) (c0 : SH[a0]? = some (.inl 12))
    (h1 : xs0 = 0 → Q (some (.int (-2 : Int32))) m)
    (h2 : ¬ (xs0 = 0) → ¬ x4 = (10 : Int32) → vp_in x4 10)
    (h3 : ¬ (xs0 = 0) → ¬ x4 = (10 : Int32) → vp_in x4 10)
    (h4 : ¬ (xs0 = 0) → ¬ x4 = (10 : Int32) → vp_in x4 10)
    (h5 : ¬ (xs0 = 0) → ¬ x4 = (10 : Int32) → Q (some (.int (x4 + (1 : Int32)))) (uI (uI (uI (uI m (a0 + 9) x4.toNatClampNeg x1) (a0 + 10) x4.toNatClampNeg x2) (a0 + 11) x4.toNatClampNeg x3) (a0 + 1) 6 ((mI (uI (uI (uI m (a0 + 9) x4.toNatClampNeg x1) (a0 + 10) x4.toNatClampNeg x2) (a0 + 11) x4.toNatClampNeg x3) (a0 + 1) 6) + (1 : Int32))))
    (h6 : ¬ (xs0 = 0) → x4 = (10 : Int32) → Q (some (.int (-2 : Int32))) m) :
    Go X 2 mX12_note Q 55 [(0, .ref a0), (1, .int x1), (2, .int x2), (3, .int x3), (4, .int x4)] [.int xs0] m := by
  refine g_if_eq 65 dX12_note_55 (by decide) (fun q1 => ?_) (fun q1 => ?_)
  · refine g_bipush (v := -2) dX12_note_65 (by decide) ?_
    exact g_iret dX12_note_67 rfl enSH (h1 q1)
  · refine g_iload 4 dX12_note_58 rfl ?_
    refine g_bipush (v := 10) dX12_note_60 (by decide) ?_
    refine g_icmp_ne 68 dX12_note_62 (by decide) (fun q2 => ?_) (fun q2 => ?_)
    · refine g_aload_n 0 dX12_note_68 rfl rfl ?_
      refine g_getR dX12_note_69 fl12_34 rfl c0 (w12_9 hW c0) ?_
      refine g_iload 4 dX12_note_72 rfl ?_
      refine g_iload_n 1 dX12_note_74 rfl rfl ?_
      refine g_iast (j := x4.toNatClampNeg) dX12_note_75 (s12_9 c0) (h2 q1 q2) rfl ?_
      refine g_aload_n 0 dX12_note_76 rfl rfl ?_
      refine g_getR dX12_note_77 fl12_37 rfl c0 (w12_10 hW c0) ?_
      refine g_iload 4 dX12_note_80 rfl ?_
      refine g_iload_n 2 dX12_note_82 rfl rfl ?_
      refine g_iast (j := x4.toNatClampNeg) dX12_note_83 (s12_10 c0) (h3 q1 q2) rfl ?_
      refine g_aload_n 0 dX12_note_84 rfl rfl ?_
      refine g_getR dX12_note_85 fl12_40 rfl c0 (w12_11 hW c0) ?_
      refine g_iload 4 dX12_note_88 rfl ?_
      refine g_iload_n 3 dX12_note_90 rfl rfl ?_
      refine g_iast (j := x4.toNatClampNeg) dX12_note_91 (s12_11 c0) (h4 q1 q2) rfl ?_
      refine g_aload_n 0 dX12_note_92 rfl rfl ?_
      refine g_getR dX12_note_93 fl12_9 rfl c0 (w12_1 hW c0) ?_
      refine g_bipush (v := 6) dX12_note_96 (by decide) ?_
      refine g_dup2 dX12_note_98 rfl rfl ?_
      refine g_iald (j := 6) dX12_note_99 (s12_1 c0) (by unfold vp_in; decide) (by decide) ?_
      refine g_iconst (v := 1) dX12_note_100 (by decide) ?_
      refine g_iadd dX12_note_101 ?_
      refine g_iast (j := 6) dX12_note_102 (s12_1 c0) (by unfold vp_in; decide) (by decide) ?_
      refine g_iload 4 dX12_note_103 rfl ?_
      refine g_iconst (v := 1) dX12_note_105 (by decide) ?_
      refine g_iadd dX12_note_106 ?_
      exact g_iret dX12_note_107 rfl enSH (h5 q1 q2)
    · refine g_bipush (v := -2) dX12_note_65 (by decide) ?_
      exact g_iret dX12_note_67 rfl enSH (h6 q1 q2)
theorem bX12_couldRule_0 {X : pX} {Q : Option Value → pMem → Prop} {m : pMem} {a0 : Nat} {x1 : Int32} (hW : Wf m) (c0 : SH[a0]? = some (.inl 12))
    (h1 : Cl X 1 mX12_begins [.ref a0] (uI m (a0 + 1) 8 x1) (fun v m2 => Go X 7 mX12_couldRule Q 12 [(0, .ref a0), (1, .int x1)] (v.toList ++ []) m2)) :
    Go X 7 mX12_couldRule Q 0 [(0, .ref a0), (1, .int x1)] [] m := by
  refine g_aload_n 0 dX12_couldRule_0 rfl rfl ?_
  refine g_getR dX12_couldRule_1 fl12_9 rfl c0 (w12_1 hW c0) ?_
  refine g_bipush (v := 8) dX12_couldRule_4 (by decide) ?_
  refine g_iload_n 1 dX12_couldRule_6 rfl rfl ?_
  refine g_iast (j := 8) dX12_couldRule_7 (s12_1 c0) (by unfold vp_in; decide) (by decide) ?_
  refine g_aload_n 0 dX12_couldRule_8 rfl rfl ?_
  exact g_callV (As := []) (st := []) dX12_couldRule_9 clX12_296 c0 rfl rfl (Nat.le_of_ble_eq_true rfl) (rmSH (by decide) (by decide)) h1
theorem bX12_couldRule_12 {X : pX} {Q : Option Value → pMem → Prop} {m : pMem} {a0 : Nat} {x1 : Int32} (hW : Wf m) (c0 : SH[a0]? = some (.inl 12))
    (h1 : Go X 7 mX12_couldRule Q 14 [(0, .ref a0), (2, .int (0 : Int32))] [] m) :
    Go X 7 mX12_couldRule Q 12 [(0, .ref a0), (1, .int x1)] [] m := by
  refine g_iconst (v := 0) dX12_couldRule_12 (by decide) ?_
  refine g_istore_n (ls2 := [(2, .int (0 : Int32)), (0, .ref a0), (1, .int x1)]) dX12_couldRule_13 rfl (by decide) rfl ?_
  exact g_ls [1, 0] rfl h1
theorem bX12_couldRule_14 {X : pX} {Q : Option Value → pMem → Prop} {m : pMem} {a0 : Nat} {x2 : Int32} (hW : Wf m) (c0 : SH[a0]? = some (.inl 12))
    (h1 : (60 : Int32) < x2 → Cl X 2 mX12_laysBack [.ref a0] m (fun v m2 => Go X 7 mX12_couldRule Q 64 [(0, .ref a0), (2, .int x2)] (v.toList ++ []) m2))
    (h2 : ¬ ((60 : Int32) < x2) → Go X 7 mX12_couldRule Q 22 [(0, .ref a0), (2, .int x2), (3, .int (0 : Int32))] [] m) :
    Go X 7 mX12_couldRule Q 14 [(0, .ref a0), (2, .int x2)] [] m := by
  refine g_iload_n 1 dX12_couldRule_14 rfl rfl ?_
  refine g_bipush (v := 60) dX12_couldRule_15 (by decide) ?_
  refine g_icmp_gt 60 dX12_couldRule_17 (by decide) (fun q1 => ?_) (fun q1 => ?_)
  · refine g_aload_n 0 dX12_couldRule_60 rfl rfl ?_
    exact g_callV (As := []) (st := []) dX12_couldRule_61 clX12_415 c0 rfl rfl (Nat.le_of_ble_eq_true rfl) (rmSH (by decide) (by decide)) (h1 q1)
  · refine g_iconst (v := 0) dX12_couldRule_20 (by decide) ?_
    refine g_istore_n (ls2 := [(3, .int (0 : Int32)), (0, .ref a0), (2, .int x2)]) dX12_couldRule_21 rfl (by decide) rfl ?_
    exact g_ls [1, 2, 0] rfl (h2 q1)
theorem bX12_couldRule_64 {X : pX} {Q : Option Value → pMem → Prop} {m : pMem} {a0 : Nat} {x2 : Int32} (hW : Wf m) (c0 : SH[a0]? = some (.inl 12))
    (h1 : Go X 7 mX12_couldRule Q 66 [(0, .ref a0), (2, .int (0 : Int32))] [] m) :
    Go X 7 mX12_couldRule Q 64 [(0, .ref a0), (2, .int x2)] [] m := by
  refine g_iconst (v := 0) dX12_couldRule_64 (by decide) ?_
  refine g_istore_n (ls2 := [(2, .int (0 : Int32)), (0, .ref a0)]) dX12_couldRule_65 rfl (by decide) rfl ?_
  exact g_ls [1, 0] rfl h1
theorem bX12_couldRule_22 {X : pX} {Q : Option Value → pMem → Prop} {m : pMem} {a0 : Nat} {x2 : Int32} {x3 : Int32} (hW : Wf m) (c0 : SH[a0]? = some (.inl 12))
    (h1 : (4 : Int32) ≤ x3 → Cl X 6 mX12_goes [.ref a0] m (fun v m2 => Go X 7 mX12_couldRule Q 53 [(0, .ref a0), (2, .int x2), (3, .int x3)] (v.toList ++ []) m2))
    (h2 : ¬ ((4 : Int32) ≤ x3) → vp_in x3 4)
    (h3 : ¬ ((4 : Int32) ≤ x3) → vp_in (((4 : Int32) * x2) + x3) 244)
    (h4 : ¬ ((4 : Int32) ≤ x3) → Go X 7 mX12_couldRule Q 22 [(0, .ref a0), (2, .int x2), (3, .int (x3 + (1 : Int32)))] [] (uI m (a0 + 33) ((((4 : Int32) * x2) + x3).toNatClampNeg) (mI m (a0 + 2) x3.toNatClampNeg))) :
    Go X 7 mX12_couldRule Q 22 [(0, .ref a0), (2, .int x2), (3, .int x3)] [] m := by
  refine g_iload_n 2 dX12_couldRule_22 rfl rfl ?_
  refine g_iconst (v := 4) dX12_couldRule_23 (by decide) ?_
  refine g_icmp_ge 49 dX12_couldRule_24 (by decide) (fun q1 => ?_) (fun q1 => ?_)
  · refine g_aload_n 0 dX12_couldRule_49 rfl rfl ?_
    exact g_callV (As := []) (st := []) dX12_couldRule_50 clX12_368 c0 rfl rfl (Nat.le_of_ble_eq_true rfl) (rmSH (by decide) (by decide)) (h1 q1)
  · refine g_aload_n 0 dX12_couldRule_27 rfl rfl ?_
    refine g_getR dX12_couldRule_28 fl12_112 rfl c0 (w12_50 hW c0) ?_
    refine g_iconst (v := 4) dX12_couldRule_31 (by decide) ?_
    refine g_iload_n 1 dX12_couldRule_32 rfl rfl ?_
    refine g_imul dX12_couldRule_33 ?_
    refine g_iload_n 2 dX12_couldRule_34 rfl rfl ?_
    refine g_iadd dX12_couldRule_35 ?_
    refine g_aload_n 0 dX12_couldRule_36 rfl rfl ?_
    refine g_getR dX12_couldRule_37 fl12_13 rfl c0 (w12_2 hW c0) ?_
    refine g_iload_n 2 dX12_couldRule_40 rfl rfl ?_
    refine g_iald (j := x3.toNatClampNeg) dX12_couldRule_41 (s12_2 c0) (h2 q1) rfl ?_
    refine g_iast (j := (((4 : Int32) * x2) + x3).toNatClampNeg) dX12_couldRule_42 (s12_50 c0) (h3 q1) rfl ?_
    refine g_iinc (v := x3 + (1 : Int32)) (ls2 := [(3, .int (x3 + (1 : Int32))), (0, .ref a0), (2, .int x2)]) 2 dX12_couldRule_43 rfl rfl (by decide) rfl ?_
    refine g_goto 22 dX12_couldRule_46 (by decide) ?_
    exact g_ls [1, 2, 0] rfl (h4 q1)
theorem bX12_couldRule_66 {X : pX} {Q : Option Value → pMem → Prop} {m : pMem} {a0 : Nat} {x2 : Int32} (hW : Wf m) (c0 : SH[a0]? = some (.inl 12))
    (h1 : (mI m (a0 + 1) 6) ≤ x2 → Q (some (.int (1 : Int32))) m)
    (h2 : ¬ ((mI m (a0 + 1) 6) ≤ x2) → vp_in x2 10)
    (h3 : ¬ ((mI m (a0 + 1) 6) ≤ x2) → vp_in x2 10)
    (h4 : ¬ ((mI m (a0 + 1) 6) ≤ x2) → vp_in (((4 : Int32) * (mI m (a0 + 9) x2.toNatClampNeg)) + (mI m (a0 + 10) x2.toNatClampNeg)) 244)
    (h5 : ¬ ((mI m (a0 + 1) 6) ≤ x2) → vp_in x2 10)
    (h6 : ¬ ((mI m (a0 + 1) 6) ≤ x2) → (mI m (a0 + 33) ((((4 : Int32) * (mI m (a0 + 9) x2.toNatClampNeg)) + (mI m (a0 + 10) x2.toNatClampNeg)).toNatClampNeg)) = (mI m (a0 + 11) x2.toNatClampNeg) → Go X 7 mX12_couldRule Q 66 [(0, .ref a0), (2, .int (x2 + (1 : Int32)))] [] m)
    (h7 : ¬ ((mI m (a0 + 1) 6) ≤ x2) → ¬ ((mI m (a0 + 33) ((((4 : Int32) * (mI m (a0 + 9) x2.toNatClampNeg)) + (mI m (a0 + 10) x2.toNatClampNeg)).toNatClampNeg)) = (mI m (a0 + 11) x2.toNatClampNeg)) → Q (some (.int (0 : Int32))) m) :
    Go X 7 mX12_couldRule Q 66 [(0, .ref a0), (2, .int x2)] [] m := by
  refine g_iload_n 1 dX12_couldRule_66 rfl rfl ?_
  refine g_aload_n 0 dX12_couldRule_67 rfl rfl ?_
  refine g_getR dX12_couldRule_68 fl12_9 rfl c0 (w12_1 hW c0) ?_
  refine g_bipush (v := 6) dX12_couldRule_71 (by decide) ?_
  refine g_iald (j := 6) dX12_couldRule_73 (s12_1 c0) (by unfold vp_in; decide) (by decide) ?_
  refine g_icmp_ge 114 dX12_couldRule_74 (by decide) (fun q1 => ?_) (fun q1 => ?_)
  · refine g_iconst (v := 1) dX12_couldRule_114 (by decide) ?_
    exact g_bret dX12_couldRule_115 rfl (Or.inr rfl) enSH (h1 q1)
  · refine g_aload_n 0 dX12_couldRule_77 rfl rfl ?_
    refine g_getR dX12_couldRule_78 fl12_112 rfl c0 (w12_50 hW c0) ?_
    refine g_iconst (v := 4) dX12_couldRule_81 (by decide) ?_
    refine g_aload_n 0 dX12_couldRule_82 rfl rfl ?_
    refine g_getR dX12_couldRule_83 fl12_34 rfl c0 (w12_9 hW c0) ?_
    refine g_iload_n 1 dX12_couldRule_86 rfl rfl ?_
    refine g_iald (j := x2.toNatClampNeg) dX12_couldRule_87 (s12_9 c0) (h2 q1) rfl ?_
    refine g_imul dX12_couldRule_88 ?_
    refine g_aload_n 0 dX12_couldRule_89 rfl rfl ?_
    refine g_getR dX12_couldRule_90 fl12_37 rfl c0 (w12_10 hW c0) ?_
    refine g_iload_n 1 dX12_couldRule_93 rfl rfl ?_
    refine g_iald (j := x2.toNatClampNeg) dX12_couldRule_94 (s12_10 c0) (h3 q1) rfl ?_
    refine g_iadd dX12_couldRule_95 ?_
    refine g_iald (j := (((4 : Int32) * (mI m (a0 + 9) x2.toNatClampNeg)) + (mI m (a0 + 10) x2.toNatClampNeg)).toNatClampNeg) dX12_couldRule_96 (s12_50 c0) (h4 q1) rfl ?_
    refine g_aload_n 0 dX12_couldRule_97 rfl rfl ?_
    refine g_getR dX12_couldRule_98 fl12_40 rfl c0 (w12_11 hW c0) ?_
    refine g_iload_n 1 dX12_couldRule_101 rfl rfl ?_
    refine g_iald (j := x2.toNatClampNeg) dX12_couldRule_102 (s12_11 c0) (h5 q1) rfl ?_
    refine g_icmp_eq 108 dX12_couldRule_103 (by decide) (fun q2 => ?_) (fun q2 => ?_)
    · refine g_iinc (v := x2 + (1 : Int32)) (ls2 := [(2, .int (x2 + (1 : Int32))), (0, .ref a0)]) 1 dX12_couldRule_108 rfl rfl (by decide) rfl ?_
      refine g_goto 66 dX12_couldRule_111 (by decide) ?_
      exact g_ls [1, 0] rfl (h6 q1 q2)
    · refine g_iconst (v := 0) dX12_couldRule_106 (by decide) ?_
      exact g_bret dX12_couldRule_107 rfl (Or.inl rfl) enSH (h7 q1 q2)
theorem bX12_couldRule_53 {X : pX} {Q : Option Value → pMem → Prop} {m : pMem} {a0 : Nat} {x2 : Int32} {x3 : Int32} {xs0 : Int32} (hW : Wf m) (c0 : SH[a0]? = some (.inl 12))
    (h1 : Go X 7 mX12_couldRule Q 14 [(0, .ref a0), (2, .int (x2 + (1 : Int32)))] [] m) :
    Go X 7 mX12_couldRule Q 53 [(0, .ref a0), (2, .int x2), (3, .int x3)] [.int xs0] m := by
  refine g_pop dX12_couldRule_53 rfl ?_
  refine g_iinc (v := x2 + (1 : Int32)) (ls2 := [(2, .int (x2 + (1 : Int32))), (0, .ref a0), (3, .int x3)]) 1 dX12_couldRule_54 rfl rfl (by decide) rfl ?_
  refine g_goto 14 dX12_couldRule_57 (by decide) ?_
  exact g_ls [1, 0] rfl h1
theorem bX12_ruled_0 {X : pX} {Q : Option Value → pMem → Prop} {m : pMem} {a0 : Nat} {x1 : Int32} (hW : Wf m) (c0 : SH[a0]? = some (.inl 12))
    (h1 : Cl X 0 mX12_isRoad [.ref a0] m (fun v m2 => Go X 8 mX12_ruled Q 4 [(0, .ref a0), (1, .int x1)] (v.toList ++ []) m2)) :
    Go X 8 mX12_ruled Q 0 [(0, .ref a0), (1, .int x1)] [] m := by
  refine g_aload_n 0 dX12_ruled_0 rfl rfl ?_
  exact g_callV (As := []) (st := []) dX12_ruled_1 clX12_389 c0 rfl rfl (Nat.le_of_ble_eq_true rfl) (rmSH (by decide) (by decide)) h1
theorem bX12_ruled_4 {X : pX} {Q : Option Value → pMem → Prop} {m : pMem} {a0 : Nat} {x1 : Int32} {xs0 : Int32} (hW : Wf m) (c0 : SH[a0]? = some (.inl 12))
    (h1 : xs0 = 0 → Q (some (.int (-3 : Int32))) m)
    (h2 : ¬ (xs0 = 0) → Cl X 0 mX12_in [.long x1.toInt64, .long (0 : Int64), .long (1 : Int64)] m (fun v m2 => Go X 8 mX12_ruled Q 14 [(0, .ref a0), (1, .int x1)] (v.toList ++ []) m2)) :
    Go X 8 mX12_ruled Q 4 [(0, .ref a0), (1, .int x1)] [.int xs0] m := by
  refine g_if_eq 17 dX12_ruled_4 (by decide) (fun q1 => ?_) (fun q1 => ?_)
  · refine g_bipush (v := -3) dX12_ruled_17 (by decide) ?_
    exact g_iret dX12_ruled_19 rfl enSH (h1 q1)
  · refine g_iload_n 1 dX12_ruled_7 rfl rfl ?_
    refine g_i2l dX12_ruled_8 ?_
    refine g_lconst (v := 0) dX12_ruled_9 (by decide) ?_
    refine g_lconst (v := 1) dX12_ruled_10 (by decide) ?_
    exact g_callS (As := [.long x1.toInt64, .long (0 : Int64), .long (1 : Int64)]) (st := []) dX12_ruled_11 clX12_128 rfl rfl (Nat.le_of_ble_eq_true rfl) (rmSH (by decide) (by decide)) (h2 q1)
theorem bX12_ruled_14 {X : pX} {Q : Option Value → pMem → Prop} {m : pMem} {a0 : Nat} {x1 : Int32} {xs0 : Int32} (hW : Wf m) (c0 : SH[a0]? = some (.inl 12))
    (h1 : ¬ xs0 = 0 → Cl X 2 mX12_keepsAll [.ref a0] m (fun v m2 => Go X 8 mX12_ruled Q 24 [(0, .ref a0), (1, .int x1)] (v.toList ++ []) m2))
    (h2 : xs0 = 0 → Q (some (.int (-3 : Int32))) m) :
    Go X 8 mX12_ruled Q 14 [(0, .ref a0), (1, .int x1)] [.int xs0] m := by
  refine g_if_ne 20 dX12_ruled_14 (by decide) (fun q1 => ?_) (fun q1 => ?_)
  · refine g_aload_n 0 dX12_ruled_20 rfl rfl ?_
    exact g_callV (As := []) (st := []) dX12_ruled_21 clX12_409 c0 rfl rfl (Nat.le_of_ble_eq_true rfl) (rmSH (by decide) (by decide)) (h1 q1)
  · refine g_bipush (v := -3) dX12_ruled_17 (by decide) ?_
    exact g_iret dX12_ruled_19 rfl enSH (h2 q1)
theorem bX12_ruled_24 {X : pX} {Q : Option Value → pMem → Prop} {m : pMem} {a0 : Nat} {x1 : Int32} (hW : Wf m) (c0 : SH[a0]? = some (.inl 12))
    (h1 : Go X 8 mX12_ruled Q 32 [(0, .ref a0), (1, .int x1), (2, .int (0 : Int32)), (3, .int (-2 : Int32)), (4, .int (-1 : Int32))] [] m) :
    Go X 8 mX12_ruled Q 24 [(0, .ref a0), (1, .int x1)] [] m := by
  refine g_iconst (v := 0) dX12_ruled_24 (by decide) ?_
  refine g_istore_n (ls2 := [(2, .int (0 : Int32)), (0, .ref a0), (1, .int x1)]) dX12_ruled_25 rfl (by decide) rfl ?_
  refine g_bipush (v := -2) dX12_ruled_26 (by decide) ?_
  refine g_istore_n (ls2 := [(3, .int (-2 : Int32)), (2, .int (0 : Int32)), (0, .ref a0), (1, .int x1)]) dX12_ruled_28 rfl (by decide) rfl ?_
  refine g_iconst (v := -1) dX12_ruled_29 (by decide) ?_
  refine g_istore (ls2 := [(4, .int (-1 : Int32)), (3, .int (-2 : Int32)), (2, .int (0 : Int32)), (0, .ref a0), (1, .int x1)]) dX12_ruled_30 (by decide) rfl ?_
  exact g_ls [3, 4, 2, 1, 0] rfl h1
theorem bX12_ruled_32 {X : pX} {Q : Option Value → pMem → Prop} {m : pMem} {a0 : Nat} {x1 : Int32} {x2 : Int32} {x3 : Int32} {x4 : Int32} (hW : Wf m) (c0 : SH[a0]? = some (.inl 12))
    (h1 : (mI m a0 23) ≤ x4 → ¬ x1 = 0 → Q (some (.int x3)) m)
    (h2 : (mI m a0 23) ≤ x4 → x1 = 0 → Q (some (.int x2)) m)
    (h3 : ¬ ((mI m a0 23) ≤ x4) → Cl X 7 mX12_couldRule [.ref a0, .int x4] m (fun v m2 => Go X 8 mX12_ruled Q 47 [(0, .ref a0), (1, .int x1), (2, .int x2), (3, .int x3), (4, .int x4)] (v.toList ++ []) m2)) :
    Go X 8 mX12_ruled Q 32 [(0, .ref a0), (1, .int x1), (2, .int x2), (3, .int x3), (4, .int x4)] [] m := by
  refine g_iload 4 dX12_ruled_32 rfl ?_
  refine g_aload_n 0 dX12_ruled_34 rfl rfl ?_
  refine g_getI dX12_ruled_35 fl12_312 c0 ?_
  refine g_icmp_ge 70 dX12_ruled_38 (by decide) (fun q1 => ?_) (fun q1 => ?_)
  · refine g_iload_n 1 dX12_ruled_70 rfl rfl ?_
    refine g_if_ne 78 dX12_ruled_71 (by decide) (fun q2 => ?_) (fun q2 => ?_)
    · refine g_iload_n 3 dX12_ruled_78 rfl rfl ?_
      exact g_iret dX12_ruled_79 rfl enSH (h1 q1 q2)
    · refine g_iload_n 2 dX12_ruled_74 rfl rfl ?_
      refine g_goto 79 dX12_ruled_75 (by decide) ?_
      exact g_iret dX12_ruled_79 rfl enSH (h2 q1 q2)
  · refine g_aload_n 0 dX12_ruled_41 rfl rfl ?_
    refine g_iload 4 dX12_ruled_42 rfl ?_
    exact g_callV (As := [.int x4]) (st := []) dX12_ruled_44 clX12_463 c0 rfl rfl (Nat.le_of_ble_eq_true rfl) (rmSH (by decide) (by decide)) (h3 q1)
theorem bX12_ruled_47 {X : pX} {Q : Option Value → pMem → Prop} {m : pMem} {a0 : Nat} {x1 : Int32} {x2 : Int32} {x3 : Int32} {x4 : Int32} {xs0 : Int32} (hW : Wf m) (c0 : SH[a0]? = some (.inl 12))
    (h1 : xs0 = 0 → Go X 8 mX12_ruled Q 32 [(0, .ref a0), (1, .int x1), (2, .int x2), (3, .int x3), (4, .int (x4 + (1 : Int32)))] [] m)
    (h2 : ¬ (xs0 = 0) → ¬ x2 = 0 → Go X 8 mX12_ruled Q 32 [(0, .ref a0), (1, .int x1), (2, .int (x2 + (1 : Int32))), (3, .int x3), (4, .int (x4 + (1 : Int32)))] [] m)
    (h3 : ¬ (xs0 = 0) → x2 = 0 → Go X 8 mX12_ruled Q 32 [(0, .ref a0), (1, .int x1), (2, .int (x2 + (1 : Int32))), (3, .int x4), (4, .int (x4 + (1 : Int32)))] [] m) :
    Go X 8 mX12_ruled Q 47 [(0, .ref a0), (1, .int x1), (2, .int x2), (3, .int x3), (4, .int x4)] [.int xs0] m := by
  refine g_if_eq 64 dX12_ruled_47 (by decide) (fun q1 => ?_) (fun q1 => ?_)
  · refine g_iinc (v := x4 + (1 : Int32)) (ls2 := [(4, .int (x4 + (1 : Int32))), (0, .ref a0), (1, .int x1), (2, .int x2), (3, .int x3)]) 4 dX12_ruled_64 rfl rfl (by decide) rfl ?_
    refine g_goto 32 dX12_ruled_67 (by decide) ?_
    exact g_ls [1, 2, 3, 4, 0] rfl (h1 q1)
  · refine g_iload_n 2 dX12_ruled_50 rfl rfl ?_
    refine g_if_ne 59 dX12_ruled_51 (by decide) (fun q2 => ?_) (fun q2 => ?_)
    · refine g_iload_n 3 dX12_ruled_59 rfl rfl ?_
      refine g_istore_n (ls2 := [(3, .int x3), (0, .ref a0), (1, .int x1), (2, .int x2), (4, .int x4)]) dX12_ruled_60 rfl (by decide) rfl ?_
      refine g_iinc (v := x2 + (1 : Int32)) (ls2 := [(2, .int (x2 + (1 : Int32))), (3, .int x3), (0, .ref a0), (1, .int x1), (4, .int x4)]) 3 dX12_ruled_61 rfl rfl (by decide) rfl ?_
      refine g_iinc (v := x4 + (1 : Int32)) (ls2 := [(4, .int (x4 + (1 : Int32))), (2, .int (x2 + (1 : Int32))), (3, .int x3), (0, .ref a0), (1, .int x1)]) 4 dX12_ruled_64 rfl rfl (by decide) rfl ?_
      refine g_goto 32 dX12_ruled_67 (by decide) ?_
      exact g_ls [3, 4, 1, 2, 0] rfl (h2 q1 q2)
    · refine g_iload 4 dX12_ruled_54 rfl ?_
      refine g_goto 60 dX12_ruled_56 (by decide) ?_
      refine g_istore_n (ls2 := [(3, .int x4), (0, .ref a0), (1, .int x1), (2, .int x2), (4, .int x4)]) dX12_ruled_60 rfl (by decide) rfl ?_
      refine g_iinc (v := x2 + (1 : Int32)) (ls2 := [(2, .int (x2 + (1 : Int32))), (3, .int x4), (0, .ref a0), (1, .int x1), (4, .int x4)]) 3 dX12_ruled_61 rfl rfl (by decide) rfl ?_
      refine g_iinc (v := x4 + (1 : Int32)) (ls2 := [(4, .int (x4 + (1 : Int32))), (2, .int (x2 + (1 : Int32))), (3, .int x4), (0, .ref a0), (1, .int x1)]) 4 dX12_ruled_64 rfl rfl (by decide) rfl ?_
      refine g_goto 32 dX12_ruled_67 (by decide) ?_
      exact g_ls [3, 4, 1, 2, 0] rfl (h3 q1 q2)
theorem bX12_mostAlike_0 {X : pX} {Q : Option Value → pMem → Prop} {m : pMem} {a0 : Nat} {x1 : Int32} {x2 : Int32} (hW : Wf m) (c0 : SH[a0]? = some (.inl 12))
    (h1 : Go X 0 mX12_mostAlike Q 5 [(0, .ref a0), (1, .int x1), (2, .int x2), (3, .int (0 : Int32)), (4, .int (0 : Int32))] [] m) :
    Go X 0 mX12_mostAlike Q 0 [(0, .ref a0), (1, .int x1), (2, .int x2)] [] m := by
  refine g_iconst (v := 0) dX12_mostAlike_0 (by decide) ?_
  refine g_istore_n (ls2 := [(3, .int (0 : Int32)), (0, .ref a0), (1, .int x1), (2, .int x2)]) dX12_mostAlike_1 rfl (by decide) rfl ?_
  refine g_iconst (v := 0) dX12_mostAlike_2 (by decide) ?_
  refine g_istore (ls2 := [(4, .int (0 : Int32)), (3, .int (0 : Int32)), (0, .ref a0), (1, .int x1), (2, .int x2)]) dX12_mostAlike_3 (by decide) rfl ?_
  exact g_ls [2, 3, 4, 1, 0] rfl h1
theorem bX12_mostAlike_5 {X : pX} {Q : Option Value → pMem → Prop} {m : pMem} {a0 : Nat} {x1 : Int32} {x2 : Int32} {x3 : Int32} {x4 : Int32} (hW : Wf m) (c0 : SH[a0]? = some (.inl 12))
    (h1 : x2 ≤ x4 → Q (some (.int x3)) m)
    (h2 : ¬ (x2 ≤ x4) → Go X 0 mX12_mostAlike Q 17 [(0, .ref a0), (1, .int x1), (2, .int x2), (3, .int x3), (4, .int x4), (5, .int (0 : Int32)), (6, .int (0 : Int32))] [] m) :
    Go X 0 mX12_mostAlike Q 5 [(0, .ref a0), (1, .int x1), (2, .int x2), (3, .int x3), (4, .int x4)] [] m := by
  refine g_iload 4 dX12_mostAlike_5 rfl ?_
  refine g_iload_n 2 dX12_mostAlike_7 rfl rfl ?_
  refine g_icmp_ge 83 dX12_mostAlike_8 (by decide) (fun q1 => ?_) (fun q1 => ?_)
  · refine g_iload_n 3 dX12_mostAlike_83 rfl rfl ?_
    exact g_iret dX12_mostAlike_84 rfl enSH (h1 q1)
  · refine g_iconst (v := 0) dX12_mostAlike_11 (by decide) ?_
    refine g_istore (ls2 := [(5, .int (0 : Int32)), (0, .ref a0), (1, .int x1), (2, .int x2), (3, .int x3), (4, .int x4)]) dX12_mostAlike_12 (by decide) rfl ?_
    refine g_iconst (v := 0) dX12_mostAlike_14 (by decide) ?_
    refine g_istore (ls2 := [(6, .int (0 : Int32)), (5, .int (0 : Int32)), (0, .ref a0), (1, .int x1), (2, .int x2), (3, .int x3), (4, .int x4)]) dX12_mostAlike_15 (by decide) rfl ?_
    exact g_ls [2, 3, 4, 5, 6, 1, 0] rfl (h2 q1)
theorem bX12_mostAlike_17 {X : pX} {Q : Option Value → pMem → Prop} {m : pMem} {a0 : Nat} {x1 : Int32} {x2 : Int32} {x3 : Int32} {x4 : Int32} {x5 : Int32} {x6 : Int32} (hW : Wf m) (c0 : SH[a0]? = some (.inl 12))
    (h1 : x2 ≤ x6 → x5 ≤ x3 → Go X 0 mX12_mostAlike Q 5 [(0, .ref a0), (1, .int x1), (2, .int x2), (3, .int x3), (4, .int (x4 + (1 : Int32)))] [] m)
    (h2 : x2 ≤ x6 → ¬ (x5 ≤ x3) → Go X 0 mX12_mostAlike Q 5 [(0, .ref a0), (1, .int x1), (2, .int x2), (3, .int x5), (4, .int (x4 + (1 : Int32)))] [] m)
    (h3 : ¬ (x2 ≤ x6) → vp_in (((4 : Int32) * x6) + x1) 28)
    (h4 : ¬ (x2 ≤ x6) → vp_in (((4 : Int32) * x4) + x1) 28)
    (h5 : ¬ (x2 ≤ x6) → ¬ (mI m (a0 + 34) ((((4 : Int32) * x6) + x1).toNatClampNeg)) = (mI m (a0 + 34) ((((4 : Int32) * x4) + x1).toNatClampNeg)) → Go X 0 mX12_mostAlike Q 17 [(0, .ref a0), (1, .int x1), (2, .int x2), (3, .int x3), (4, .int x4), (5, .int (x5 + (0 : Int32))), (6, .int (x6 + (1 : Int32)))] [] m)
    (h6 : ¬ (x2 ≤ x6) → (mI m (a0 + 34) ((((4 : Int32) * x6) + x1).toNatClampNeg)) = (mI m (a0 + 34) ((((4 : Int32) * x4) + x1).toNatClampNeg)) → Go X 0 mX12_mostAlike Q 17 [(0, .ref a0), (1, .int x1), (2, .int x2), (3, .int x3), (4, .int x4), (5, .int (x5 + (1 : Int32))), (6, .int (x6 + (1 : Int32)))] [] m) :
    Go X 0 mX12_mostAlike Q 17 [(0, .ref a0), (1, .int x1), (2, .int x2), (3, .int x3), (4, .int x4), (5, .int x5), (6, .int x6)] [] m := by
  refine g_iload 6 dX12_mostAlike_17 rfl ?_
  refine g_iload_n 2 dX12_mostAlike_19 rfl rfl ?_
  refine g_icmp_ge 64 dX12_mostAlike_20 (by decide) (fun q1 => ?_) (fun q1 => ?_)
  · refine g_iload 5 dX12_mostAlike_64 rfl ?_
    refine g_iload_n 3 dX12_mostAlike_66 rfl rfl ?_
    refine g_icmp_le 75 dX12_mostAlike_67 (by decide) (fun q2 => ?_) (fun q2 => ?_)
    · refine g_iload_n 3 dX12_mostAlike_75 rfl rfl ?_
      refine g_istore_n (ls2 := [(3, .int x3), (0, .ref a0), (1, .int x1), (2, .int x2), (4, .int x4), (5, .int x5), (6, .int x6)]) dX12_mostAlike_76 rfl (by decide) rfl ?_
      refine g_iinc (v := x4 + (1 : Int32)) (ls2 := [(4, .int (x4 + (1 : Int32))), (3, .int x3), (0, .ref a0), (1, .int x1), (2, .int x2), (5, .int x5), (6, .int x6)]) 4 dX12_mostAlike_77 rfl rfl (by decide) rfl ?_
      refine g_goto 5 dX12_mostAlike_80 (by decide) ?_
      exact g_ls [2, 3, 4, 1, 0] rfl (h1 q1 q2)
    · refine g_iload 5 dX12_mostAlike_70 rfl ?_
      refine g_goto 76 dX12_mostAlike_72 (by decide) ?_
      refine g_istore_n (ls2 := [(3, .int x5), (0, .ref a0), (1, .int x1), (2, .int x2), (4, .int x4), (5, .int x5), (6, .int x6)]) dX12_mostAlike_76 rfl (by decide) rfl ?_
      refine g_iinc (v := x4 + (1 : Int32)) (ls2 := [(4, .int (x4 + (1 : Int32))), (3, .int x5), (0, .ref a0), (1, .int x1), (2, .int x2), (5, .int x5), (6, .int x6)]) 4 dX12_mostAlike_77 rfl rfl (by decide) rfl ?_
      refine g_goto 5 dX12_mostAlike_80 (by decide) ?_
      exact g_ls [2, 3, 4, 1, 0] rfl (h2 q1 q2)
  · refine g_iload 5 dX12_mostAlike_23 rfl ?_
    refine g_aload_n 0 dX12_mostAlike_25 rfl rfl ?_
    refine g_getR dX12_mostAlike_26 fl12_115 rfl c0 (w12_51 hW c0) ?_
    refine g_iconst (v := 4) dX12_mostAlike_29 (by decide) ?_
    refine g_iload 6 dX12_mostAlike_30 rfl ?_
    refine g_imul dX12_mostAlike_32 ?_
    refine g_iload_n 1 dX12_mostAlike_33 rfl rfl ?_
    refine g_iadd dX12_mostAlike_34 ?_
    refine g_iald (j := (((4 : Int32) * x6) + x1).toNatClampNeg) dX12_mostAlike_35 (s12_51 c0) (h3 q1) rfl ?_
    refine g_aload_n 0 dX12_mostAlike_36 rfl rfl ?_
    refine g_getR dX12_mostAlike_37 fl12_115 rfl c0 (w12_51 hW c0) ?_
    refine g_iconst (v := 4) dX12_mostAlike_40 (by decide) ?_
    refine g_iload 4 dX12_mostAlike_41 rfl ?_
    refine g_imul dX12_mostAlike_43 ?_
    refine g_iload_n 1 dX12_mostAlike_44 rfl rfl ?_
    refine g_iadd dX12_mostAlike_45 ?_
    refine g_iald (j := (((4 : Int32) * x4) + x1).toNatClampNeg) dX12_mostAlike_46 (s12_51 c0) (h4 q1) rfl ?_
    refine g_icmp_ne 54 dX12_mostAlike_47 (by decide) (fun q3 => ?_) (fun q3 => ?_)
    · refine g_iconst (v := 0) dX12_mostAlike_54 (by decide) ?_
      refine g_iadd dX12_mostAlike_55 ?_
      refine g_istore (ls2 := [(5, .int (x5 + (0 : Int32))), (0, .ref a0), (1, .int x1), (2, .int x2), (3, .int x3), (4, .int x4), (6, .int x6)]) dX12_mostAlike_56 (by decide) rfl ?_
      refine g_iinc (v := x6 + (1 : Int32)) (ls2 := [(6, .int (x6 + (1 : Int32))), (5, .int (x5 + (0 : Int32))), (0, .ref a0), (1, .int x1), (2, .int x2), (3, .int x3), (4, .int x4)]) 6 dX12_mostAlike_58 rfl rfl (by decide) rfl ?_
      refine g_goto 17 dX12_mostAlike_61 (by decide) ?_
      exact g_ls [2, 3, 4, 5, 6, 1, 0] rfl (h5 q1 q3)
    · refine g_iconst (v := 1) dX12_mostAlike_50 (by decide) ?_
      refine g_goto 55 dX12_mostAlike_51 (by decide) ?_
      refine g_iadd dX12_mostAlike_55 ?_
      refine g_istore (ls2 := [(5, .int (x5 + (1 : Int32))), (0, .ref a0), (1, .int x1), (2, .int x2), (3, .int x3), (4, .int x4), (6, .int x6)]) dX12_mostAlike_56 (by decide) rfl ?_
      refine g_iinc (v := x6 + (1 : Int32)) (ls2 := [(6, .int (x6 + (1 : Int32))), (5, .int (x5 + (1 : Int32))), (0, .ref a0), (1, .int x1), (2, .int x2), (3, .int x3), (4, .int x4)]) 6 dX12_mostAlike_58 rfl rfl (by decide) rfl ?_
      refine g_goto 17 dX12_mostAlike_61 (by decide) ?_
      exact g_ls [2, 3, 4, 5, 6, 1, 0] rfl (h6 q1 q3)
theorem bX12_look_0 {X : pX} {Q : Option Value → pMem → Prop} {m : pMem} {a0 : Nat} {x1 : Int32} {x2 : Int32} (hW : Wf m) (c0 : SH[a0]? = some (.inl 12))
    (h1 : Cl X 0 mX12_isRoad [.ref a0] m (fun v m2 => Go X 8 mX12_look Q 4 [(0, .ref a0), (1, .int x1), (2, .int x2)] (v.toList ++ []) m2)) :
    Go X 8 mX12_look Q 0 [(0, .ref a0), (1, .int x1), (2, .int x2)] [] m := by
  refine g_aload_n 0 dX12_look_0 rfl rfl ?_
  exact g_callV (As := []) (st := []) dX12_look_1 clX12_389 c0 rfl rfl (Nat.le_of_ble_eq_true rfl) (rmSH (by decide) (by decide)) h1
theorem bX12_look_4 {X : pX} {Q : Option Value → pMem → Prop} {m : pMem} {a0 : Nat} {x1 : Int32} {x2 : Int32} {xs0 : Int32} (hW : Wf m) (c0 : SH[a0]? = some (.inl 12))
    (h1 : xs0 = 0 → Q (some (.int (-1 : Int32))) m)
    (h2 : ¬ (xs0 = 0) → Cl X 0 mX12_in [.long x1.toInt64, .long (0 : Int64), .long (60 : Int64)] m (fun v m2 => Go X 8 mX12_look Q 16 [(0, .ref a0), (1, .int x1), (2, .int x2)] (v.toList ++ []) m2)) :
    Go X 8 mX12_look Q 4 [(0, .ref a0), (1, .int x1), (2, .int x2)] [.int xs0] m := by
  refine g_if_eq 29 dX12_look_4 (by decide) (fun q1 => ?_) (fun q1 => ?_)
  · refine g_iconst (v := -1) dX12_look_29 (by decide) ?_
    exact g_iret dX12_look_30 rfl enSH (h1 q1)
  · refine g_iload_n 1 dX12_look_7 rfl rfl ?_
    refine g_i2l dX12_look_8 ?_
    refine g_lconst (v := 0) dX12_look_9 (by decide) ?_
    refine g_ldc2 (v := 60) dX12_look_10 cjX12_431 ?_
    exact g_callS (As := [.long x1.toInt64, .long (0 : Int64), .long (60 : Int64)]) (st := []) dX12_look_13 clX12_128 rfl rfl (Nat.le_of_ble_eq_true rfl) (rmSH (by decide) (by decide)) (h2 q1)
theorem bX12_look_16 {X : pX} {Q : Option Value → pMem → Prop} {m : pMem} {a0 : Nat} {x1 : Int32} {x2 : Int32} {xs0 : Int32} (hW : Wf m) (c0 : SH[a0]? = some (.inl 12))
    (h1 : xs0 = 0 → Q (some (.int (-1 : Int32))) m)
    (h2 : ¬ (xs0 = 0) → Cl X 0 mX12_in [.long x2.toInt64, .long (0 : Int64), .long (1 : Int64)] m (fun v m2 => Go X 8 mX12_look Q 26 [(0, .ref a0), (1, .int x1), (2, .int x2)] (v.toList ++ []) m2)) :
    Go X 8 mX12_look Q 16 [(0, .ref a0), (1, .int x1), (2, .int x2)] [.int xs0] m := by
  refine g_if_eq 29 dX12_look_16 (by decide) (fun q1 => ?_) (fun q1 => ?_)
  · refine g_iconst (v := -1) dX12_look_29 (by decide) ?_
    exact g_iret dX12_look_30 rfl enSH (h1 q1)
  · refine g_iload_n 2 dX12_look_19 rfl rfl ?_
    refine g_i2l dX12_look_20 ?_
    refine g_lconst (v := 0) dX12_look_21 (by decide) ?_
    refine g_lconst (v := 1) dX12_look_22 (by decide) ?_
    exact g_callS (As := [.long x2.toInt64, .long (0 : Int64), .long (1 : Int64)]) (st := []) dX12_look_23 clX12_128 rfl rfl (Nat.le_of_ble_eq_true rfl) (rmSH (by decide) (by decide)) (h2 q1)
theorem bX12_look_26 {X : pX} {Q : Option Value → pMem → Prop} {m : pMem} {a0 : Nat} {x1 : Int32} {x2 : Int32} {xs0 : Int32} (hW : Wf m) (c0 : SH[a0]? = some (.inl 12))
    (h1 : ¬ xs0 = 0 → Cl X 2 mX12_keepsAll [.ref a0] m (fun v m2 => Go X 8 mX12_look Q 35 [(0, .ref a0), (1, .int x1), (2, .int x2)] (v.toList ++ []) m2))
    (h2 : xs0 = 0 → Q (some (.int (-1 : Int32))) m) :
    Go X 8 mX12_look Q 26 [(0, .ref a0), (1, .int x1), (2, .int x2)] [.int xs0] m := by
  refine g_if_ne 31 dX12_look_26 (by decide) (fun q1 => ?_) (fun q1 => ?_)
  · refine g_aload_n 0 dX12_look_31 rfl rfl ?_
    exact g_callV (As := []) (st := []) dX12_look_32 clX12_409 c0 rfl rfl (Nat.le_of_ble_eq_true rfl) (rmSH (by decide) (by decide)) (h1 q1)
  · refine g_iconst (v := -1) dX12_look_29 (by decide) ?_
    exact g_iret dX12_look_30 rfl enSH (h2 q1)
theorem bX12_look_35 {X : pX} {Q : Option Value → pMem → Prop} {m : pMem} {a0 : Nat} {x1 : Int32} {x2 : Int32} (hW : Wf m) (c0 : SH[a0]? = some (.inl 12))
    (h1 : Go X 8 mX12_look Q 40 [(0, .ref a0), (1, .int x1), (2, .int x2), (3, .int (0 : Int32)), (4, .int (-1 : Int32))] [] m) :
    Go X 8 mX12_look Q 35 [(0, .ref a0), (1, .int x1), (2, .int x2)] [] m := by
  refine g_iconst (v := 0) dX12_look_35 (by decide) ?_
  refine g_istore_n (ls2 := [(3, .int (0 : Int32)), (0, .ref a0), (1, .int x1), (2, .int x2)]) dX12_look_36 rfl (by decide) rfl ?_
  refine g_iconst (v := -1) dX12_look_37 (by decide) ?_
  refine g_istore (ls2 := [(4, .int (-1 : Int32)), (3, .int (0 : Int32)), (0, .ref a0), (1, .int x1), (2, .int x2)]) dX12_look_38 (by decide) rfl ?_
  exact g_ls [2, 3, 4, 1, 0] rfl h1
theorem bX12_look_40 {X : pX} {Q : Option Value → pMem → Prop} {m : pMem} {a0 : Nat} {x1 : Int32} {x2 : Int32} {x3 : Int32} {x4 : Int32} (hW : Wf m) (c0 : SH[a0]? = some (.inl 12))
    (h1 : (mI m a0 23) ≤ x4 → x3 = 0 → Q (some (.int (-2 : Int32))) m)
    (h2 : (mI m a0 23) ≤ x4 → ¬ (x3 = 0) → ¬ (mI m (a0 + 1) 3) = 0 → Go X 8 mX12_look Q 126 [(0, .ref a0), (2, .int x2), (3, .int x3), (4, .int (0 : Int32)), (5, .int (1 : Int32))] [] m)
    (h3 : (mI m a0 23) ≤ x4 → ¬ (x3 = 0) → (mI m (a0 + 1) 3) = 0 → Q (some (.int (-2 : Int32))) m)
    (h4 : ¬ ((mI m a0 23) ≤ x4) → Cl X 7 mX12_couldRule [.ref a0, .int x4] m (fun v m2 => Go X 8 mX12_look Q 55 [(0, .ref a0), (1, .int x1), (2, .int x2), (3, .int x3), (4, .int x4)] (v.toList ++ []) m2)) :
    Go X 8 mX12_look Q 40 [(0, .ref a0), (1, .int x1), (2, .int x2), (3, .int x3), (4, .int x4)] [] m := by
  refine g_iload 4 dX12_look_40 rfl ?_
  refine g_aload_n 0 dX12_look_42 rfl rfl ?_
  refine g_getI dX12_look_43 fl12_312 c0 ?_
  refine g_icmp_ge 104 dX12_look_46 (by decide) (fun q1 => ?_) (fun q1 => ?_)
  · refine g_iload_n 3 dX12_look_104 rfl rfl ?_
    refine g_if_eq 117 dX12_look_105 (by decide) (fun q2 => ?_) (fun q2 => ?_)
    · refine g_bipush (v := -2) dX12_look_117 (by decide) ?_
      exact g_iret dX12_look_119 rfl enSH (h1 q1 q2)
    · refine g_aload_n 0 dX12_look_108 rfl rfl ?_
      refine g_getR dX12_look_109 fl12_9 rfl c0 (w12_1 hW c0) ?_
      refine g_iconst (v := 3) dX12_look_112 (by decide) ?_
      refine g_iald (j := 3) dX12_look_113 (s12_1 c0) (by unfold vp_in; decide) (by decide) ?_
      refine g_if_ne 120 dX12_look_114 (by decide) (fun q3 => ?_) (fun q3 => ?_)
      · refine g_iconst (v := 0) dX12_look_120 (by decide) ?_
        refine g_istore (ls2 := [(4, .int (0 : Int32)), (0, .ref a0), (1, .int x1), (2, .int x2), (3, .int x3)]) dX12_look_121 (by decide) rfl ?_
        refine g_iconst (v := 1) dX12_look_123 (by decide) ?_
        refine g_istore (ls2 := [(5, .int (1 : Int32)), (4, .int (0 : Int32)), (0, .ref a0), (1, .int x1), (2, .int x2), (3, .int x3)]) dX12_look_124 (by decide) rfl ?_
        exact g_ls [2, 4, 5, 1, 0] rfl (h2 q1 q2 q3)
      · refine g_bipush (v := -2) dX12_look_117 (by decide) ?_
        exact g_iret dX12_look_119 rfl enSH (h3 q1 q2 q3)
  · refine g_aload_n 0 dX12_look_49 rfl rfl ?_
    refine g_iload 4 dX12_look_50 rfl ?_
    exact g_callV (As := [.int x4]) (st := []) dX12_look_52 clX12_463 c0 rfl rfl (Nat.le_of_ble_eq_true rfl) (rmSH (by decide) (by decide)) (h4 q1)
theorem bX12_look_126 {X : pX} {Q : Option Value → pMem → Prop} {m : pMem} {a0 : Nat} {x2 : Int32} {x3 : Int32} {x4 : Int32} {x5 : Int32} (hW : Wf m) (c0 : SH[a0]? = some (.inl 12))
    (h1 : (mI m (a0 + 1) 3) ≤ x5 → ¬ x2 = 0 → Cl X 0 mX12_mostAlike [.ref a0, .int x4, .int x3] m (fun v m2 => Go X 8 mX12_look Q 185 [(0, .ref a0), (2, .int x2), (3, .int x3), (4, .int x4), (5, .int x5)] (v.toList ++ []) m2))
    (h2 : (mI m (a0 + 1) 3) ≤ x5 → x2 = 0 → Q (some (.int x4)) m)
    (h3 : ¬ ((mI m (a0 + 1) 3) ≤ x5) → Cl X 0 mX12_mostAlike [.ref a0, .int x5, .int x3] m (fun v m2 => Go X 8 mX12_look Q 144 [(0, .ref a0), (2, .int x2), (3, .int x3), (4, .int x4), (5, .int x5)] (v.toList ++ []) m2)) :
    Go X 8 mX12_look Q 126 [(0, .ref a0), (2, .int x2), (3, .int x3), (4, .int x4), (5, .int x5)] [] m := by
  refine g_iload 4 dX12_look_126 rfl ?_
  refine g_aload_n 0 dX12_look_128 rfl rfl ?_
  refine g_getR dX12_look_129 fl12_9 rfl c0 (w12_1 hW c0) ?_
  refine g_iconst (v := 3) dX12_look_132 (by decide) ?_
  refine g_iald (j := 3) dX12_look_133 (s12_1 c0) (by unfold vp_in; decide) (by decide) ?_
  refine g_icmp_ge 169 dX12_look_134 (by decide) (fun q1 => ?_) (fun q1 => ?_)
  · refine g_iload_n 1 dX12_look_169 rfl rfl ?_
    refine g_if_ne 178 dX12_look_170 (by decide) (fun q2 => ?_) (fun q2 => ?_)
    · refine g_aload_n 0 dX12_look_178 rfl rfl ?_
      refine g_iload 3 dX12_look_179 rfl ?_
      refine g_iload_n 2 dX12_look_181 rfl rfl ?_
      exact g_callV (As := [.int x4, .int x3]) (st := []) dX12_look_182 clX12_466 c0 rfl rfl (Nat.le_of_ble_eq_true rfl) (rmSH (by decide) (by decide)) (h1 q1 q2)
    · refine g_iload 3 dX12_look_173 rfl ?_
      refine g_goto 185 dX12_look_175 (by decide) ?_
      exact g_iret dX12_look_185 rfl enSH (h2 q1 q2)
  · refine g_aload_n 0 dX12_look_137 rfl rfl ?_
    refine g_iload 4 dX12_look_138 rfl ?_
    refine g_iload_n 2 dX12_look_140 rfl rfl ?_
    exact g_callV (As := [.int x5, .int x3]) (st := []) dX12_look_141 clX12_466 c0 rfl rfl (Nat.le_of_ble_eq_true rfl) (rmSH (by decide) (by decide)) (h3 q1)
theorem bX12_look_55 {X : pX} {Q : Option Value → pMem → Prop} {m : pMem} {a0 : Nat} {x1 : Int32} {x2 : Int32} {x3 : Int32} {x4 : Int32} {xs0 : Int32} (hW : Wf m) (c0 : SH[a0]? = some (.inl 12))
    (h1 : xs0 = 0 → Go X 8 mX12_look Q 40 [(0, .ref a0), (1, .int x1), (2, .int x2), (3, .int x3), (4, .int (x4 + (1 : Int32)))] [] m)
    (h2 : ¬ (xs0 = 0) → Go X 8 mX12_look Q 61 [(0, .ref a0), (1, .int x1), (2, .int x2), (3, .int x3), (4, .int x4), (5, .int (0 : Int32))] [] m) :
    Go X 8 mX12_look Q 55 [(0, .ref a0), (1, .int x1), (2, .int x2), (3, .int x3), (4, .int x4)] [.int xs0] m := by
  refine g_if_eq 98 dX12_look_55 (by decide) (fun q1 => ?_) (fun q1 => ?_)
  · refine g_iinc (v := x4 + (1 : Int32)) (ls2 := [(4, .int (x4 + (1 : Int32))), (0, .ref a0), (1, .int x1), (2, .int x2), (3, .int x3)]) 4 dX12_look_98 rfl rfl (by decide) rfl ?_
    refine g_goto 40 dX12_look_101 (by decide) ?_
    exact g_ls [1, 2, 3, 4, 0] rfl (h1 q1)
  · refine g_iconst (v := 0) dX12_look_58 (by decide) ?_
    refine g_istore (ls2 := [(5, .int (0 : Int32)), (0, .ref a0), (1, .int x1), (2, .int x2), (3, .int x3), (4, .int x4)]) dX12_look_59 (by decide) rfl ?_
    exact g_ls [1, 2, 3, 4, 5, 0] rfl (h2 q1)
theorem bX12_look_185 {X : pX} {Q : Option Value → pMem → Prop} {m : pMem} {a0 : Nat} {x2 : Int32} {x3 : Int32} {x4 : Int32} {x5 : Int32} {xs0 : Int32} (hW : Wf m) (c0 : SH[a0]? = some (.inl 12))
    (h1 : Q (some (.int xs0)) m) :
    Go X 8 mX12_look Q 185 [(0, .ref a0), (2, .int x2), (3, .int x3), (4, .int x4), (5, .int x5)] [.int xs0] m := by
  exact g_iret dX12_look_185 rfl enSH h1
theorem bX12_look_144 {X : pX} {Q : Option Value → pMem → Prop} {m : pMem} {a0 : Nat} {x2 : Int32} {x3 : Int32} {x4 : Int32} {x5 : Int32} {xs0 : Int32} (hW : Wf m) (c0 : SH[a0]? = some (.inl 12))
    (h1 : Cl X 0 mX12_mostAlike [.ref a0, .int x4, .int x3] m (fun v m2 => Go X 8 mX12_look Q 151 [(0, .ref a0), (2, .int x2), (3, .int x3), (4, .int x4), (5, .int x5)] (v.toList ++ [.int xs0]) m2)) :
    Go X 8 mX12_look Q 144 [(0, .ref a0), (2, .int x2), (3, .int x3), (4, .int x4), (5, .int x5)] [.int xs0] m := by
  refine g_aload_n 0 dX12_look_144 rfl rfl ?_
  refine g_iload 3 dX12_look_145 rfl ?_
  refine g_iload_n 2 dX12_look_147 rfl rfl ?_
  exact g_callV (As := [.int x4, .int x3]) (st := [.int xs0]) dX12_look_148 clX12_466 c0 rfl rfl (Nat.le_of_ble_eq_true rfl) (rmSH (by decide) (by decide)) h1
theorem bX12_look_61 {X : pX} {Q : Option Value → pMem → Prop} {m : pMem} {a0 : Nat} {x1 : Int32} {x2 : Int32} {x3 : Int32} {x4 : Int32} {x5 : Int32} (hW : Wf m) (c0 : SH[a0]? = some (.inl 12))
    (h1 : (4 : Int32) ≤ x5 → Go X 8 mX12_look Q 40 [(0, .ref a0), (1, .int x1), (2, .int x2), (3, .int (x3 + (1 : Int32))), (4, .int (x4 + (1 : Int32)))] [] m)
    (h2 : ¬ ((4 : Int32) ≤ x5) → vp_in (((4 : Int32) * x1) + x5) 244)
    (h3 : ¬ ((4 : Int32) ≤ x5) → vp_in (((4 : Int32) * x3) + x5) 28)
    (h4 : ¬ ((4 : Int32) ≤ x5) → Go X 8 mX12_look Q 61 [(0, .ref a0), (1, .int x1), (2, .int x2), (3, .int x3), (4, .int x4), (5, .int (x5 + (1 : Int32)))] [] (uI m (a0 + 34) ((((4 : Int32) * x3) + x5).toNatClampNeg) (mI m (a0 + 33) ((((4 : Int32) * x1) + x5).toNatClampNeg)))) :
    Go X 8 mX12_look Q 61 [(0, .ref a0), (1, .int x1), (2, .int x2), (3, .int x3), (4, .int x4), (5, .int x5)] [] m := by
  refine g_iload 5 dX12_look_61 rfl ?_
  refine g_iconst (v := 4) dX12_look_63 (by decide) ?_
  refine g_icmp_ge 95 dX12_look_64 (by decide) (fun q1 => ?_) (fun q1 => ?_)
  · refine g_iinc (v := x3 + (1 : Int32)) (ls2 := [(3, .int (x3 + (1 : Int32))), (0, .ref a0), (1, .int x1), (2, .int x2), (4, .int x4), (5, .int x5)]) 3 dX12_look_95 rfl rfl (by decide) rfl ?_
    refine g_iinc (v := x4 + (1 : Int32)) (ls2 := [(4, .int (x4 + (1 : Int32))), (3, .int (x3 + (1 : Int32))), (0, .ref a0), (1, .int x1), (2, .int x2), (5, .int x5)]) 4 dX12_look_98 rfl rfl (by decide) rfl ?_
    refine g_goto 40 dX12_look_101 (by decide) ?_
    exact g_ls [2, 3, 4, 1, 0] rfl (h1 q1)
  · refine g_aload_n 0 dX12_look_67 rfl rfl ?_
    refine g_getR dX12_look_68 fl12_115 rfl c0 (w12_51 hW c0) ?_
    refine g_iconst (v := 4) dX12_look_71 (by decide) ?_
    refine g_iload_n 3 dX12_look_72 rfl rfl ?_
    refine g_imul dX12_look_73 ?_
    refine g_iload 5 dX12_look_74 rfl ?_
    refine g_iadd dX12_look_76 ?_
    refine g_aload_n 0 dX12_look_77 rfl rfl ?_
    refine g_getR dX12_look_78 fl12_112 rfl c0 (w12_50 hW c0) ?_
    refine g_iconst (v := 4) dX12_look_81 (by decide) ?_
    refine g_iload_n 1 dX12_look_82 rfl rfl ?_
    refine g_imul dX12_look_83 ?_
    refine g_iload 5 dX12_look_84 rfl ?_
    refine g_iadd dX12_look_86 ?_
    refine g_iald (j := (((4 : Int32) * x1) + x5).toNatClampNeg) dX12_look_87 (s12_50 c0) (h2 q1) rfl ?_
    refine g_iast (j := (((4 : Int32) * x3) + x5).toNatClampNeg) dX12_look_88 (s12_51 c0) (h3 q1) rfl ?_
    refine g_iinc (v := x5 + (1 : Int32)) (ls2 := [(5, .int (x5 + (1 : Int32))), (0, .ref a0), (1, .int x1), (2, .int x2), (3, .int x3), (4, .int x4)]) 5 dX12_look_89 rfl rfl (by decide) rfl ?_
    refine g_goto 61 dX12_look_92 (by decide) ?_
    exact g_ls [1, 2, 3, 4, 5, 0] rfl (h4 q1)
theorem bX12_look_151 {X : pX} {Q : Option Value → pMem → Prop} {m : pMem} {a0 : Nat} {x2 : Int32} {x3 : Int32} {x4 : Int32} {x5 : Int32} {xs0 : Int32} {xs1 : Int32} (hW : Wf m) (c0 : SH[a0]? = some (.inl 12))
    (h1 : xs0 ≤ xs1 → Go X 8 mX12_look Q 126 [(0, .ref a0), (2, .int x2), (3, .int x3), (4, .int x4), (5, .int (x5 + (1 : Int32)))] [] m)
    (h2 : ¬ (xs0 ≤ xs1) → Go X 8 mX12_look Q 126 [(0, .ref a0), (2, .int x2), (3, .int x3), (4, .int x5), (5, .int (x5 + (1 : Int32)))] [] m) :
    Go X 8 mX12_look Q 151 [(0, .ref a0), (2, .int x2), (3, .int x3), (4, .int x4), (5, .int x5)] [.int xs0, .int xs1] m := by
  refine g_icmp_ge 159 dX12_look_151 (by decide) (fun q1 => ?_) (fun q1 => ?_)
  · refine g_iload 3 dX12_look_159 rfl ?_
    refine g_istore (ls2 := [(4, .int x4), (0, .ref a0), (2, .int x2), (3, .int x3), (5, .int x5)]) dX12_look_161 (by decide) rfl ?_
    refine g_iinc (v := x5 + (1 : Int32)) (ls2 := [(5, .int (x5 + (1 : Int32))), (4, .int x4), (0, .ref a0), (2, .int x2), (3, .int x3)]) 4 dX12_look_163 rfl rfl (by decide) rfl ?_
    refine g_goto 126 dX12_look_166 (by decide) ?_
    exact g_ls [2, 3, 4, 1, 0] rfl (h1 q1)
  · refine g_iload 4 dX12_look_154 rfl ?_
    refine g_goto 161 dX12_look_156 (by decide) ?_
    refine g_istore (ls2 := [(4, .int x5), (0, .ref a0), (2, .int x2), (3, .int x3), (5, .int x5)]) dX12_look_161 (by decide) rfl ?_
    refine g_iinc (v := x5 + (1 : Int32)) (ls2 := [(5, .int (x5 + (1 : Int32))), (4, .int x5), (0, .ref a0), (2, .int x2), (3, .int x3)]) 4 dX12_look_163 rfl rfl (by decide) rfl ?_
    refine g_goto 126 dX12_look_166 (by decide) ?_
    exact g_ls [2, 3, 4, 1, 0] rfl (h2 q1)
theorem bX12_seed_0 {X : pX} {Q : Option Value → pMem → Prop} {m : pMem} {a0 : Nat} {x1 : Int32} (hW : Wf m) (c0 : SH[a0]? = some (.inl 12))
    (h1 : 0 ≤ x1 → Q (some (.int (mI m (a0 + 1) 7))) (uI m (a0 + 1) 7 x1))
    (h2 : ¬ (0 ≤ x1) → Q (some (.int (-1 : Int32))) m) :
    Go X 0 mX12_seed Q 0 [(0, .ref a0), (1, .int x1)] [] m := by
  refine g_iload_n 1 dX12_seed_0 rfl rfl ?_
  refine g_if_ge 6 dX12_seed_1 (by decide) (fun q1 => ?_) (fun q1 => ?_)
  · refine g_aload_n 0 dX12_seed_6 rfl rfl ?_
    refine g_getR dX12_seed_7 fl12_9 rfl c0 (w12_1 hW c0) ?_
    refine g_bipush (v := 7) dX12_seed_10 (by decide) ?_
    refine g_iald (j := 7) dX12_seed_12 (s12_1 c0) (by unfold vp_in; decide) (by decide) ?_
    refine g_istore_n (ls2 := [(2, .int (mI m (a0 + 1) 7)), (0, .ref a0), (1, .int x1)]) dX12_seed_13 rfl (by decide) rfl ?_
    refine g_aload_n 1 dX12_seed_14 rfl rfl ?_
    refine g_getR dX12_seed_15 fl12_9 rfl c0 (w12_1 hW c0) ?_
    refine g_bipush (v := 7) dX12_seed_18 (by decide) ?_
    refine g_iload_n 2 dX12_seed_20 rfl rfl ?_
    refine g_iast (j := 7) dX12_seed_21 (s12_1 c0) (by unfold vp_in; decide) (by decide) ?_
    refine g_iload_n 0 dX12_seed_22 rfl rfl ?_
    exact g_iret dX12_seed_23 rfl enSH (h1 q1)
  · refine g_iconst (v := -1) dX12_seed_4 (by decide) ?_
    exact g_iret dX12_seed_5 rfl enSH (h2 q1)
theorem bX12_draws_0 {X : pX} {Q : Option Value → pMem → Prop} {m : pMem} {a0 : Nat} {x1 : Int32} (hW : Wf m) (c0 : SH[a0]? = some (.inl 12))
    (h1 : ¬ x1 = 0)
    (h2 : Q (some (.int (((mI (uI m (a0 + 1) 7 ((((((mI m (a0 + 1) 7).toInt64) * (1103515245 : Int64)) + (12345 : Int64)) - ((((mI m (a0 + 1) 7).toInt64) * (1103515245 : Int64)) + (12345 : Int64)) / (2147483648 : Int64) * (2147483648 : Int64)).toInt32)) (a0 + 1) 7) / (65536 : Int32)) - ((mI (uI m (a0 + 1) 7 ((((((mI m (a0 + 1) 7).toInt64) * (1103515245 : Int64)) + (12345 : Int64)) - ((((mI m (a0 + 1) 7).toInt64) * (1103515245 : Int64)) + (12345 : Int64)) / (2147483648 : Int64) * (2147483648 : Int64)).toInt32)) (a0 + 1) 7) / (65536 : Int32)) / x1 * x1))) (uI m (a0 + 1) 7 ((((((mI m (a0 + 1) 7).toInt64) * (1103515245 : Int64)) + (12345 : Int64)) - ((((mI m (a0 + 1) 7).toInt64) * (1103515245 : Int64)) + (12345 : Int64)) / (2147483648 : Int64) * (2147483648 : Int64)).toInt32))) :
    Go X 0 mX12_draws Q 0 [(0, .ref a0), (1, .int x1)] [] m := by
  refine g_aload_n 0 dX12_draws_0 rfl rfl ?_
  refine g_getR dX12_draws_1 fl12_9 rfl c0 (w12_1 hW c0) ?_
  refine g_bipush (v := 7) dX12_draws_4 (by decide) ?_
  refine g_aload_n 0 dX12_draws_6 rfl rfl ?_
  refine g_getR dX12_draws_7 fl12_9 rfl c0 (w12_1 hW c0) ?_
  refine g_bipush (v := 7) dX12_draws_10 (by decide) ?_
  refine g_iald (j := 7) dX12_draws_12 (s12_1 c0) (by unfold vp_in; decide) (by decide) ?_
  refine g_i2l dX12_draws_13 ?_
  refine g_ldc2 (v := 1103515245) dX12_draws_14 cjX12_469 ?_
  refine g_lmul dX12_draws_17 ?_
  refine g_ldc2 (v := 12345) dX12_draws_18 cjX12_471 ?_
  refine g_ladd dX12_draws_21 ?_
  refine g_ldc2 (v := 2147483648) dX12_draws_22 cjX12_473 ?_
  refine g_lrem dX12_draws_25 (by decide) ?_
  refine g_l2i dX12_draws_26 ?_
  refine g_iast (j := 7) dX12_draws_27 (s12_1 c0) (by unfold vp_in; decide) (by decide) ?_
  refine g_aload_n 0 dX12_draws_28 rfl rfl ?_
  refine g_getR dX12_draws_29 fl12_9 rfl c0 (w12_1 hW c0) ?_
  refine g_bipush (v := 7) dX12_draws_32 (by decide) ?_
  refine g_iald (j := 7) dX12_draws_34 (s12_1 c0) (by unfold vp_in; decide) (by decide) ?_
  refine g_ldcw (v := 65536) dX12_draws_35 ciX12_475 ?_
  refine g_idiv dX12_draws_38 (by decide) ?_
  refine g_iload_n 1 dX12_draws_39 rfl rfl ?_
  refine g_irem dX12_draws_40 h1 ?_
  exact g_iret dX12_draws_41 rfl enSH h2
theorem bX12_thieves_0 {X : pX} {Q : Option Value → pMem → Prop} {m : pMem} {a0 : Nat} {x1 : Int32} {x2 : Int32} {x3 : Int32} {x4 : Int32} (hW : Wf m) (c0 : SH[a0]? = some (.inl 12))
    (h1 : Cl X 0 mX12_isRoad [.ref a0] m (fun v m2 => Go X 7 mX12_thieves Q 4 [(0, .ref a0), (1, .int x1), (2, .int x2), (3, .int x3), (4, .int x4)] (v.toList ++ []) m2)) :
    Go X 7 mX12_thieves Q 0 [(0, .ref a0), (1, .int x1), (2, .int x2), (3, .int x3), (4, .int x4)] [] m := by
  refine g_aload_n 0 dX12_thieves_0 rfl rfl ?_
  exact g_callV (As := []) (st := []) dX12_thieves_1 clX12_389 c0 rfl rfl (Nat.le_of_ble_eq_true rfl) (rmSH (by decide) (by decide)) h1
theorem bX12_thieves_4 {X : pX} {Q : Option Value → pMem → Prop} {m : pMem} {a0 : Nat} {x1 : Int32} {x2 : Int32} {x3 : Int32} {x4 : Int32} {xs0 : Int32} (hW : Wf m) (c0 : SH[a0]? = some (.inl 12))
    (h1 : xs0 = 0 → Q (some (.int (-1 : Int32))) m)
    (h2 : ¬ (xs0 = 0) → Cl X 0 mX12_in [.long x1.toInt64, .long (1 : Int64), .long (10 : Int64)] m (fun v m2 => Go X 7 mX12_thieves Q 16 [(0, .ref a0), (1, .int x1), (2, .int x2), (3, .int x3), (4, .int x4)] (v.toList ++ []) m2)) :
    Go X 7 mX12_thieves Q 4 [(0, .ref a0), (1, .int x1), (2, .int x2), (3, .int x3), (4, .int x4)] [.int xs0] m := by
  refine g_if_eq 54 dX12_thieves_4 (by decide) (fun q1 => ?_) (fun q1 => ?_)
  · refine g_iconst (v := -1) dX12_thieves_54 (by decide) ?_
    exact g_iret dX12_thieves_55 rfl enSH (h1 q1)
  · refine g_iload_n 1 dX12_thieves_7 rfl rfl ?_
    refine g_i2l dX12_thieves_8 ?_
    refine g_lconst (v := 1) dX12_thieves_9 (by decide) ?_
    refine g_ldc2 (v := 10) dX12_thieves_10 cjX12_476 ?_
    exact g_callS (As := [.long x1.toInt64, .long (1 : Int64), .long (10 : Int64)]) (st := []) dX12_thieves_13 clX12_128 rfl rfl (Nat.le_of_ble_eq_true rfl) (rmSH (by decide) (by decide)) (h2 q1)
theorem bX12_thieves_16 {X : pX} {Q : Option Value → pMem → Prop} {m : pMem} {a0 : Nat} {x1 : Int32} {x2 : Int32} {x3 : Int32} {x4 : Int32} {xs0 : Int32} (hW : Wf m) (c0 : SH[a0]? = some (.inl 12))
    (h1 : xs0 = 0 → Q (some (.int (-1 : Int32))) m)
    (h2 : ¬ (xs0 = 0) → Cl X 0 mX12_in [.long x2.toInt64, .long (1 : Int64), .long (60 : Int64)] m (fun v m2 => Go X 7 mX12_thieves Q 28 [(0, .ref a0), (1, .int x1), (2, .int x2), (3, .int x3), (4, .int x4)] (v.toList ++ []) m2)) :
    Go X 7 mX12_thieves Q 16 [(0, .ref a0), (1, .int x1), (2, .int x2), (3, .int x3), (4, .int x4)] [.int xs0] m := by
  refine g_if_eq 54 dX12_thieves_16 (by decide) (fun q1 => ?_) (fun q1 => ?_)
  · refine g_iconst (v := -1) dX12_thieves_54 (by decide) ?_
    exact g_iret dX12_thieves_55 rfl enSH (h1 q1)
  · refine g_iload_n 2 dX12_thieves_19 rfl rfl ?_
    refine g_i2l dX12_thieves_20 ?_
    refine g_lconst (v := 1) dX12_thieves_21 (by decide) ?_
    refine g_ldc2 (v := 60) dX12_thieves_22 cjX12_431 ?_
    exact g_callS (As := [.long x2.toInt64, .long (1 : Int64), .long (60 : Int64)]) (st := []) dX12_thieves_25 clX12_128 rfl rfl (Nat.le_of_ble_eq_true rfl) (rmSH (by decide) (by decide)) (h2 q1)
theorem bX12_thieves_28 {X : pX} {Q : Option Value → pMem → Prop} {m : pMem} {a0 : Nat} {x1 : Int32} {x2 : Int32} {x3 : Int32} {x4 : Int32} {xs0 : Int32} (hW : Wf m) (c0 : SH[a0]? = some (.inl 12))
    (h1 : xs0 = 0 → Q (some (.int (-1 : Int32))) m)
    (h2 : ¬ (xs0 = 0) → Cl X 0 mX12_in [.long x3.toInt64, .long (0 : Int64), .long (100 : Int64)] m (fun v m2 => Go X 7 mX12_thieves Q 40 [(0, .ref a0), (1, .int x1), (2, .int x2), (3, .int x3), (4, .int x4)] (v.toList ++ []) m2)) :
    Go X 7 mX12_thieves Q 28 [(0, .ref a0), (1, .int x1), (2, .int x2), (3, .int x3), (4, .int x4)] [.int xs0] m := by
  refine g_if_eq 54 dX12_thieves_28 (by decide) (fun q1 => ?_) (fun q1 => ?_)
  · refine g_iconst (v := -1) dX12_thieves_54 (by decide) ?_
    exact g_iret dX12_thieves_55 rfl enSH (h1 q1)
  · refine g_iload_n 3 dX12_thieves_31 rfl rfl ?_
    refine g_i2l dX12_thieves_32 ?_
    refine g_lconst (v := 0) dX12_thieves_33 (by decide) ?_
    refine g_ldc2 (v := 100) dX12_thieves_34 cjX12_407 ?_
    exact g_callS (As := [.long x3.toInt64, .long (0 : Int64), .long (100 : Int64)]) (st := []) dX12_thieves_37 clX12_128 rfl rfl (Nat.le_of_ble_eq_true rfl) (rmSH (by decide) (by decide)) (h2 q1)
theorem bX12_thieves_40 {X : pX} {Q : Option Value → pMem → Prop} {m : pMem} {a0 : Nat} {x1 : Int32} {x2 : Int32} {x3 : Int32} {x4 : Int32} {xs0 : Int32} (hW : Wf m) (c0 : SH[a0]? = some (.inl 12))
    (h1 : xs0 = 0 → Q (some (.int (-1 : Int32))) m)
    (h2 : ¬ (xs0 = 0) → Cl X 0 mX12_in [.long x4.toInt64, .long (0 : Int64), .long (1 : Int64)] m (fun v m2 => Go X 7 mX12_thieves Q 51 [(0, .ref a0), (1, .int x1), (2, .int x2), (3, .int x3), (4, .int x4)] (v.toList ++ []) m2)) :
    Go X 7 mX12_thieves Q 40 [(0, .ref a0), (1, .int x1), (2, .int x2), (3, .int x3), (4, .int x4)] [.int xs0] m := by
  refine g_if_eq 54 dX12_thieves_40 (by decide) (fun q1 => ?_) (fun q1 => ?_)
  · refine g_iconst (v := -1) dX12_thieves_54 (by decide) ?_
    exact g_iret dX12_thieves_55 rfl enSH (h1 q1)
  · refine g_iload 4 dX12_thieves_43 rfl ?_
    refine g_i2l dX12_thieves_45 ?_
    refine g_lconst (v := 0) dX12_thieves_46 (by decide) ?_
    refine g_lconst (v := 1) dX12_thieves_47 (by decide) ?_
    exact g_callS (As := [.long x4.toInt64, .long (0 : Int64), .long (1 : Int64)]) (st := []) dX12_thieves_48 clX12_128 rfl rfl (Nat.le_of_ble_eq_true rfl) (rmSH (by decide) (by decide)) (h2 q1)
theorem bX12_thieves_51 {X : pX} {Q : Option Value → pMem → Prop} {m : pMem} {a0 : Nat} {x1 : Int32} {x2 : Int32} {x3 : Int32} {x4 : Int32} {xs0 : Int32} (hW : Wf m) (c0 : SH[a0]? = some (.inl 12))
    (h1 : ¬ xs0 = 0 → Cl X 2 mX12_keepsAll [.ref a0] m (fun v m2 => Go X 7 mX12_thieves Q 76 [(0, .ref a0), (1, .int x1), (2, .int x2), (3, .int x3), (4, .int x4), (5, .int (mI m (a0 + 1) 7)), (6, .int (mI m (a0 + 1) 7)), (7, .int (0 : Int32))] (v.toList ++ []) m2))
    (h2 : xs0 = 0 → Q (some (.int (-1 : Int32))) m) :
    Go X 7 mX12_thieves Q 51 [(0, .ref a0), (1, .int x1), (2, .int x2), (3, .int x3), (4, .int x4)] [.int xs0] m := by
  refine g_if_ne 56 dX12_thieves_51 (by decide) (fun q1 => ?_) (fun q1 => ?_)
  · refine g_aload_n 0 dX12_thieves_56 rfl rfl ?_
    refine g_getR dX12_thieves_57 fl12_9 rfl c0 (w12_1 hW c0) ?_
    refine g_bipush (v := 7) dX12_thieves_60 (by decide) ?_
    refine g_iald (j := 7) dX12_thieves_62 (s12_1 c0) (by unfold vp_in; decide) (by decide) ?_
    refine g_istore (ls2 := [(5, .int (mI m (a0 + 1) 7)), (0, .ref a0), (1, .int x1), (2, .int x2), (3, .int x3), (4, .int x4)]) dX12_thieves_63 (by decide) rfl ?_
    refine g_iload 0 dX12_thieves_65 rfl ?_
    refine g_istore (ls2 := [(6, .int (mI m (a0 + 1) 7)), (5, .int (mI m (a0 + 1) 7)), (0, .ref a0), (1, .int x1), (2, .int x2), (3, .int x3), (4, .int x4)]) dX12_thieves_67 (by decide) rfl ?_
    refine g_iconst (v := 0) dX12_thieves_69 (by decide) ?_
    refine g_istore (ls2 := [(7, .int (0 : Int32)), (6, .int (mI m (a0 + 1) 7)), (5, .int (mI m (a0 + 1) 7)), (0, .ref a0), (1, .int x1), (2, .int x2), (3, .int x3), (4, .int x4)]) dX12_thieves_70 (by decide) rfl ?_
    refine g_aload_n 3 dX12_thieves_72 rfl rfl ?_
    refine g_ls [3, 4, 5, 6, 7, 2, 1, 0] (ls2 := [(0, .ref a0), (1, .int x1), (2, .int x2), (3, .int x3), (4, .int x4), (5, .int (mI m (a0 + 1) 7)), (6, .int (mI m (a0 + 1) 7)), (7, .int (0 : Int32))]) rfl ?_
    exact g_callV (As := []) (st := []) dX12_thieves_73 clX12_409 c0 rfl rfl (Nat.le_of_ble_eq_true rfl) (rmSH (by decide) (by decide)) (h1 q1)
  · refine g_iconst (v := -1) dX12_thieves_54 (by decide) ?_
    exact g_iret dX12_thieves_55 rfl enSH (h2 q1)
theorem bX12_thieves_76 {X : pX} {Q : Option Value → pMem → Prop} {m : pMem} {a0 : Nat} {x1 : Int32} {x2 : Int32} {x3 : Int32} {x4 : Int32} {x5 : Int32} {x6 : Int32} {x7 : Int32} (hW : Wf m) (c0 : SH[a0]? = some (.inl 12))
    (h1 : Go X 7 mX12_thieves Q 79 [(0, .ref a0), (1, .int x1), (2, .int x2), (3, .int x3), (4, .int x4), (5, .int x5), (6, .int x6), (7, .int x7), (8, .int (0 : Int32))] [] m) :
    Go X 7 mX12_thieves Q 76 [(0, .ref a0), (1, .int x1), (2, .int x2), (3, .int x3), (4, .int x4), (5, .int x5), (6, .int x6), (7, .int x7)] [] m := by
  refine g_iconst (v := 0) dX12_thieves_76 (by decide) ?_
  refine g_istore (ls2 := [(8, .int (0 : Int32)), (0, .ref a0), (1, .int x1), (2, .int x2), (3, .int x3), (4, .int x4), (5, .int x5), (6, .int x6), (7, .int x7)]) dX12_thieves_77 (by decide) rfl ?_
  exact g_ls [1, 2, 3, 4, 5, 6, 7, 8, 0] rfl h1
theorem bX12_thieves_79 {X : pX} {Q : Option Value → pMem → Prop} {m : pMem} {a0 : Nat} {x1 : Int32} {x2 : Int32} {x3 : Int32} {x4 : Int32} {x5 : Int32} {x6 : Int32} {x7 : Int32} {x8 : Int32} (hW : Wf m) (c0 : SH[a0]? = some (.inl 12))
    (h1 : x1 ≤ x8 → Q (some (.int x7)) (uI m (a0 + 1) 7 x5))
    (h2 : ¬ (x1 ≤ x8) → Go X 7 mX12_thieves Q 97 [(0, .ref a0), (1, .int x1), (2, .int x2), (3, .int x3), (4, .int x4), (5, .int x5), (7, .int x7), (8, .int x8), (9, .int (0 : Int32))] [] (uI m (a0 + 1) 7 x6)) :
    Go X 7 mX12_thieves Q 79 [(0, .ref a0), (1, .int x1), (2, .int x2), (3, .int x3), (4, .int x4), (5, .int x5), (6, .int x6), (7, .int x7), (8, .int x8)] [] m := by
  refine g_iload 8 dX12_thieves_79 rfl ?_
  refine g_iload_n 1 dX12_thieves_81 rfl rfl ?_
  refine g_icmp_ge 192 dX12_thieves_82 (by decide) (fun q1 => ?_) (fun q1 => ?_)
  · refine g_aload_n 0 dX12_thieves_192 rfl rfl ?_
    refine g_getR dX12_thieves_193 fl12_9 rfl c0 (w12_1 hW c0) ?_
    refine g_bipush (v := 7) dX12_thieves_196 (by decide) ?_
    refine g_iload 5 dX12_thieves_198 rfl ?_
    refine g_iast (j := 7) dX12_thieves_200 (s12_1 c0) (by unfold vp_in; decide) (by decide) ?_
    refine g_iload 7 dX12_thieves_201 rfl ?_
    exact g_iret dX12_thieves_203 rfl enSH (h1 q1)
  · refine g_aload_n 0 dX12_thieves_85 rfl rfl ?_
    refine g_getR dX12_thieves_86 fl12_9 rfl c0 (w12_1 hW c0) ?_
    refine g_bipush (v := 7) dX12_thieves_89 (by decide) ?_
    refine g_iload 6 dX12_thieves_91 rfl ?_
    refine g_iast (j := 7) dX12_thieves_93 (s12_1 c0) (by unfold vp_in; decide) (by decide) ?_
    refine g_iconst (v := 0) dX12_thieves_94 (by decide) ?_
    refine g_istore (ls2 := [(9, .int (0 : Int32)), (0, .ref a0), (1, .int x1), (2, .int x2), (3, .int x3), (4, .int x4), (5, .int x5), (6, .int x6), (7, .int x7), (8, .int x8)]) dX12_thieves_95 (by decide) rfl ?_
    exact g_ls [1, 2, 3, 4, 5, 6, 8, 9, 0] rfl (h2 q1)
theorem bX12_thieves_97 {X : pX} {Q : Option Value → pMem → Prop} {m : pMem} {a0 : Nat} {x1 : Int32} {x2 : Int32} {x3 : Int32} {x4 : Int32} {x5 : Int32} {x7 : Int32} {x8 : Int32} {x9 : Int32} (hW : Wf m) (c0 : SH[a0]? = some (.inl 12))
    (h1 : x2 ≤ x9 → ¬ x4 = 0 → Cl X 1 mX12_inTown [.ref a0] m (fun v m2 => Go X 7 mX12_thieves Q 167 [(0, .ref a0), (1, .int x1), (2, .int x2), (3, .int x3), (4, .int x4), (5, .int x5), (7, .int x7), (8, .int x8), (9, .int x9)] (v.toList ++ [.int x7]) m2))
    (h2 : x2 ≤ x9 → x4 = 0 → Cl X 2 mX12_wealthNow [.ref a0] m (fun v m2 => Go X 7 mX12_thieves Q 160 [(0, .ref a0), (1, .int x1), (2, .int x2), (3, .int x3), (4, .int x4), (5, .int x5), (7, .int x7), (8, .int x8), (9, .int x9)] (v.toList ++ [.int x7]) m2))
    (h3 : ¬ (x2 ≤ x9) → Cl X 0 mX12_draws [.ref a0, .int (100 : Int32)] m (fun v m2 => Go X 7 mX12_thieves Q 109 [(0, .ref a0), (1, .int x1), (2, .int x2), (3, .int x3), (4, .int x4), (5, .int x5), (7, .int x7), (8, .int x8), (9, .int x9)] (v.toList ++ []) m2)) :
    Go X 7 mX12_thieves Q 97 [(0, .ref a0), (1, .int x1), (2, .int x2), (3, .int x3), (4, .int x4), (5, .int x5), (7, .int x7), (8, .int x8), (9, .int x9)] [] m := by
  refine g_iload 8 dX12_thieves_97 rfl ?_
  refine g_iload_n 2 dX12_thieves_99 rfl rfl ?_
  refine g_icmp_ge 149 dX12_thieves_100 (by decide) (fun q1 => ?_) (fun q1 => ?_)
  · refine g_iload 6 dX12_thieves_149 rfl ?_
    refine g_iload 4 dX12_thieves_151 rfl ?_
    refine g_if_ne 163 dX12_thieves_153 (by decide) (fun q2 => ?_) (fun q2 => ?_)
    · refine g_aload_n 0 dX12_thieves_163 rfl rfl ?_
      exact g_callV (As := []) (st := [.int x7]) dX12_thieves_164 clX12_481 c0 rfl rfl (Nat.le_of_ble_eq_true rfl) (rmSH (by decide) (by decide)) (h1 q1 q2)
    · refine g_aload_n 0 dX12_thieves_156 rfl rfl ?_
      exact g_callV (As := []) (st := [.int x7]) dX12_thieves_157 clX12_418 c0 rfl rfl (Nat.le_of_ble_eq_true rfl) (rmSH (by decide) (by decide)) (h2 q1 q2)
  · refine g_aload_n 0 dX12_thieves_103 rfl rfl ?_
    refine g_bipush (v := 100) dX12_thieves_104 (by decide) ?_
    exact g_callV (As := [.int (100 : Int32)]) (st := []) dX12_thieves_106 clX12_478 c0 rfl rfl (Nat.le_of_ble_eq_true rfl) (rmSH (by decide) (by decide)) (h3 q1)
theorem bX12_thieves_167 {X : pX} {Q : Option Value → pMem → Prop} {m : pMem} {a0 : Nat} {x1 : Int32} {x2 : Int32} {x3 : Int32} {x4 : Int32} {x5 : Int32} {x7 : Int32} {x8 : Int32} {x9 : Int32} {xs0 : Int32} {xs1 : Int32} (hW : Wf m) (c0 : SH[a0]? = some (.inl 12))
    (h1 : Cl X 0 mX12_bits [.int xs0] m (fun v m2 => Go X 7 mX12_thieves Q 170 [(0, .ref a0), (1, .int x1), (2, .int x2), (3, .int x3), (4, .int x4), (5, .int x5), (7, .int x7), (8, .int x8), (9, .int x9)] (v.toList ++ [.int xs1]) m2)) :
    Go X 7 mX12_thieves Q 167 [(0, .ref a0), (1, .int x1), (2, .int x2), (3, .int x3), (4, .int x4), (5, .int x5), (7, .int x7), (8, .int x8), (9, .int x9)] [.int xs0, .int xs1] m := by
  exact g_callS (As := [.int xs0]) (st := [.int xs1]) dX12_thieves_167 clX12_355 rfl rfl (Nat.le_of_ble_eq_true rfl) (rmSH (by decide) (by decide)) h1
theorem bX12_thieves_160 {X : pX} {Q : Option Value → pMem → Prop} {m : pMem} {a0 : Nat} {x1 : Int32} {x2 : Int32} {x3 : Int32} {x4 : Int32} {x5 : Int32} {x7 : Int32} {x8 : Int32} {x9 : Int32} {xs0 : Int32} {xs1 : Int32} (hW : Wf m) (c0 : SH[a0]? = some (.inl 12))
    (h1 : Cl X 2 mX12_laysBack [.ref a0] m (fun v m2 => Go X 7 mX12_thieves Q 186 [(0, .ref a0), (1, .int x1), (2, .int x2), (3, .int x3), (4, .int x4), (5, .int x5), (6, .int (mI m (a0 + 1) 7)), (7, .int (xs1 + xs0)), (8, .int x8), (9, .int x9)] (v.toList ++ []) m2)) :
    Go X 7 mX12_thieves Q 160 [(0, .ref a0), (1, .int x1), (2, .int x2), (3, .int x3), (4, .int x4), (5, .int x5), (7, .int x7), (8, .int x8), (9, .int x9)] [.int xs0, .int xs1] m := by
  refine g_goto 170 dX12_thieves_160 (by decide) ?_
  refine g_iadd dX12_thieves_170 ?_
  refine g_istore (ls2 := [(7, .int (xs1 + xs0)), (0, .ref a0), (1, .int x1), (2, .int x2), (3, .int x3), (4, .int x4), (5, .int x5), (8, .int x8), (9, .int x9)]) dX12_thieves_171 (by decide) rfl ?_
  refine g_aload_n 1 dX12_thieves_173 rfl rfl ?_
  refine g_getR dX12_thieves_174 fl12_9 rfl c0 (w12_1 hW c0) ?_
  refine g_bipush (v := 7) dX12_thieves_177 (by decide) ?_
  refine g_iald (j := 7) dX12_thieves_179 (s12_1 c0) (by unfold vp_in; decide) (by decide) ?_
  refine g_istore (ls2 := [(6, .int (mI m (a0 + 1) 7)), (7, .int (xs1 + xs0)), (0, .ref a0), (1, .int x1), (2, .int x2), (3, .int x3), (4, .int x4), (5, .int x5), (8, .int x8), (9, .int x9)]) dX12_thieves_180 (by decide) rfl ?_
  refine g_aload_n 2 dX12_thieves_182 rfl rfl ?_
  refine g_ls [2, 3, 4, 5, 6, 7, 0, 1, 8, 9] (ls2 := [(0, .ref a0), (1, .int x1), (2, .int x2), (3, .int x3), (4, .int x4), (5, .int x5), (6, .int (mI m (a0 + 1) 7)), (7, .int (xs1 + xs0)), (8, .int x8), (9, .int x9)]) rfl ?_
  exact g_callV (As := []) (st := []) dX12_thieves_183 clX12_415 c0 rfl rfl (Nat.le_of_ble_eq_true rfl) (rmSH (by decide) (by decide)) h1
theorem bX12_thieves_109 {X : pX} {Q : Option Value → pMem → Prop} {m : pMem} {a0 : Nat} {x1 : Int32} {x2 : Int32} {x3 : Int32} {x4 : Int32} {x5 : Int32} {x7 : Int32} {x8 : Int32} {x9 : Int32} {xs0 : Int32} (hW : Wf m) (c0 : SH[a0]? = some (.inl 12))
    (h1 : x3 ≤ xs0 → Cl X 6 mX12_goes [.ref a0] m (fun v m2 => Go X 7 mX12_thieves Q 142 [(0, .ref a0), (1, .int x1), (2, .int x2), (3, .int x3), (4, .int x4), (5, .int x5), (7, .int x7), (8, .int x8), (9, .int x9)] (v.toList ++ []) m2))
    (h2 : ¬ (x3 ≤ xs0) → (mI m (a0 + 1) 4) ≤ 0 → Cl X 6 mX12_goes [.ref a0] m (fun v m2 => Go X 7 mX12_thieves Q 142 [(0, .ref a0), (1, .int x1), (2, .int x2), (3, .int x3), (4, .int x4), (5, .int x5), (7, .int x7), (8, .int x8), (9, .int x9)] (v.toList ++ []) m2))
    (h3 : ¬ (x3 ≤ xs0) → ¬ ((mI m (a0 + 1) 4) ≤ 0) → Cl X 0 mX12_draws [.ref a0, .int (mI m (a0 + 1) 4)] m (fun v m2 => Go X 7 mX12_thieves Q 136 [(0, .ref a0), (1, .int x1), (2, .int x2), (3, .int x3), (4, .int x4), (5, .int x5), (7, .int x7), (8, .int x8), (9, .int x9)] (v.toList ++ [.ref (a0 + 4)]) m2)) :
    Go X 7 mX12_thieves Q 109 [(0, .ref a0), (1, .int x1), (2, .int x2), (3, .int x3), (4, .int x4), (5, .int x5), (7, .int x7), (8, .int x8), (9, .int x9)] [.int xs0] m := by
  refine g_iload_n 3 dX12_thieves_109 rfl rfl ?_
  refine g_icmp_ge 138 dX12_thieves_110 (by decide) (fun q1 => ?_) (fun q1 => ?_)
  · refine g_aload_n 0 dX12_thieves_138 rfl rfl ?_
    exact g_callV (As := []) (st := []) dX12_thieves_139 clX12_368 c0 rfl rfl (Nat.le_of_ble_eq_true rfl) (rmSH (by decide) (by decide)) (h1 q1)
  · refine g_aload_n 0 dX12_thieves_113 rfl rfl ?_
    refine g_getR dX12_thieves_114 fl12_9 rfl c0 (w12_1 hW c0) ?_
    refine g_iconst (v := 4) dX12_thieves_117 (by decide) ?_
    refine g_iald (j := 4) dX12_thieves_118 (s12_1 c0) (by unfold vp_in; decide) (by decide) ?_
    refine g_if_le 138 dX12_thieves_119 (by decide) (fun q2 => ?_) (fun q2 => ?_)
    · refine g_aload_n 0 dX12_thieves_138 rfl rfl ?_
      exact g_callV (As := []) (st := []) dX12_thieves_139 clX12_368 c0 rfl rfl (Nat.le_of_ble_eq_true rfl) (rmSH (by decide) (by decide)) (h2 q1 q2)
    · refine g_aload_n 0 dX12_thieves_122 rfl rfl ?_
      refine g_getR dX12_thieves_123 fl12_19 rfl c0 (w12_4 hW c0) ?_
      refine g_aload_n 0 dX12_thieves_126 rfl rfl ?_
      refine g_aload_n 0 dX12_thieves_127 rfl rfl ?_
      refine g_getR dX12_thieves_128 fl12_9 rfl c0 (w12_1 hW c0) ?_
      refine g_iconst (v := 4) dX12_thieves_131 (by decide) ?_
      refine g_iald (j := 4) dX12_thieves_132 (s12_1 c0) (by unfold vp_in; decide) (by decide) ?_
      exact g_callV (As := [.int (mI m (a0 + 1) 4)]) (st := [.ref (a0 + 4)]) dX12_thieves_133 clX12_478 c0 rfl rfl (Nat.le_of_ble_eq_true rfl) (rmSH (by decide) (by decide)) (h3 q1 q2)
theorem bX12_thieves_170 {X : pX} {Q : Option Value → pMem → Prop} {m : pMem} {a0 : Nat} {x1 : Int32} {x2 : Int32} {x3 : Int32} {x4 : Int32} {x5 : Int32} {x7 : Int32} {x8 : Int32} {x9 : Int32} {xs0 : Int32} {xs1 : Int32} (hW : Wf m) (c0 : SH[a0]? = some (.inl 12))
    (h1 : Cl X 2 mX12_laysBack [.ref a0] m (fun v m2 => Go X 7 mX12_thieves Q 186 [(0, .ref a0), (1, .int x1), (2, .int x2), (3, .int x3), (4, .int x4), (5, .int x5), (6, .int (mI m (a0 + 1) 7)), (7, .int (xs1 + xs0)), (8, .int x8), (9, .int x9)] (v.toList ++ []) m2)) :
    Go X 7 mX12_thieves Q 170 [(0, .ref a0), (1, .int x1), (2, .int x2), (3, .int x3), (4, .int x4), (5, .int x5), (7, .int x7), (8, .int x8), (9, .int x9)] [.int xs0, .int xs1] m := by
  refine g_iadd dX12_thieves_170 ?_
  refine g_istore (ls2 := [(7, .int (xs1 + xs0)), (0, .ref a0), (1, .int x1), (2, .int x2), (3, .int x3), (4, .int x4), (5, .int x5), (8, .int x8), (9, .int x9)]) dX12_thieves_171 (by decide) rfl ?_
  refine g_aload_n 1 dX12_thieves_173 rfl rfl ?_
  refine g_getR dX12_thieves_174 fl12_9 rfl c0 (w12_1 hW c0) ?_
  refine g_bipush (v := 7) dX12_thieves_177 (by decide) ?_
  refine g_iald (j := 7) dX12_thieves_179 (s12_1 c0) (by unfold vp_in; decide) (by decide) ?_
  refine g_istore (ls2 := [(6, .int (mI m (a0 + 1) 7)), (7, .int (xs1 + xs0)), (0, .ref a0), (1, .int x1), (2, .int x2), (3, .int x3), (4, .int x4), (5, .int x5), (8, .int x8), (9, .int x9)]) dX12_thieves_180 (by decide) rfl ?_
  refine g_aload_n 2 dX12_thieves_182 rfl rfl ?_
  refine g_ls [2, 3, 4, 5, 6, 7, 0, 1, 8, 9] (ls2 := [(0, .ref a0), (1, .int x1), (2, .int x2), (3, .int x3), (4, .int x4), (5, .int x5), (6, .int (mI m (a0 + 1) 7)), (7, .int (xs1 + xs0)), (8, .int x8), (9, .int x9)]) rfl ?_
  exact g_callV (As := []) (st := []) dX12_thieves_183 clX12_415 c0 rfl rfl (Nat.le_of_ble_eq_true rfl) (rmSH (by decide) (by decide)) h1
theorem bX12_thieves_186 {X : pX} {Q : Option Value → pMem → Prop} {m : pMem} {a0 : Nat} {x1 : Int32} {x2 : Int32} {x3 : Int32} {x4 : Int32} {x5 : Int32} {x6 : Int32} {x7 : Int32} {x8 : Int32} {x9 : Int32} (hW : Wf m) (c0 : SH[a0]? = some (.inl 12))
    (h1 : Go X 7 mX12_thieves Q 79 [(0, .ref a0), (1, .int x1), (2, .int x2), (3, .int x3), (4, .int x4), (5, .int x5), (6, .int x6), (7, .int x7), (8, .int (x8 + (1 : Int32)))] [] m) :
    Go X 7 mX12_thieves Q 186 [(0, .ref a0), (1, .int x1), (2, .int x2), (3, .int x3), (4, .int x4), (5, .int x5), (6, .int x6), (7, .int x7), (8, .int x8), (9, .int x9)] [] m := by
  refine g_iinc (v := x8 + (1 : Int32)) (ls2 := [(8, .int (x8 + (1 : Int32))), (0, .ref a0), (1, .int x1), (2, .int x2), (3, .int x3), (4, .int x4), (5, .int x5), (6, .int x6), (7, .int x7), (9, .int x9)]) 8 dX12_thieves_186 rfl rfl (by decide) rfl ?_
  refine g_goto 79 dX12_thieves_189 (by decide) ?_
  exact g_ls [1, 2, 3, 4, 5, 6, 7, 8, 0] rfl h1
theorem bX12_thieves_142 {X : pX} {Q : Option Value → pMem → Prop} {m : pMem} {a0 : Nat} {x1 : Int32} {x2 : Int32} {x3 : Int32} {x4 : Int32} {x5 : Int32} {x7 : Int32} {x8 : Int32} {x9 : Int32} {xs0 : Int32} (hW : Wf m) (c0 : SH[a0]? = some (.inl 12))
    (h1 : Go X 7 mX12_thieves Q 97 [(0, .ref a0), (1, .int x1), (2, .int x2), (3, .int x3), (4, .int x4), (5, .int x5), (7, .int x7), (8, .int x8), (9, .int (x9 + (1 : Int32)))] [] m) :
    Go X 7 mX12_thieves Q 142 [(0, .ref a0), (1, .int x1), (2, .int x2), (3, .int x3), (4, .int x4), (5, .int x5), (7, .int x7), (8, .int x8), (9, .int x9)] [.int xs0] m := by
  refine g_pop dX12_thieves_142 rfl ?_
  refine g_iinc (v := x9 + (1 : Int32)) (ls2 := [(9, .int (x9 + (1 : Int32))), (0, .ref a0), (1, .int x1), (2, .int x2), (3, .int x3), (4, .int x4), (5, .int x5), (7, .int x7), (8, .int x8)]) 8 dX12_thieves_143 rfl rfl (by decide) rfl ?_
  refine g_goto 97 dX12_thieves_146 (by decide) ?_
  exact g_ls [1, 2, 3, 4, 5, 6, 7, 8, 0] rfl h1
theorem bX12_thieves_136 {X : pX} {Q : Option Value → pMem → Prop} {m : pMem} {a0 : Nat} {x1 : Int32} {x2 : Int32} {x3 : Int32} {x4 : Int32} {x5 : Int32} {x7 : Int32} {x8 : Int32} {x9 : Int32} {xs0 : Int32} {as1 : Nat} (hW : Wf m) (c0 : SH[a0]? = some (.inl 12)) (cs1 : SH[as1]? = some (.inr (.int, 6)))
    (h1 : vp_in xs0 6)
    (h2 : Cl X 6 mX12_goes [.ref a0] (uI m as1 xs0.toNatClampNeg (-1 : Int32)) (fun v m2 => Go X 7 mX12_thieves Q 142 [(0, .ref a0), (1, .int x1), (2, .int x2), (3, .int x3), (4, .int x4), (5, .int x5), (7, .int x7), (8, .int x8), (9, .int x9)] (v.toList ++ []) m2)) :
    Go X 7 mX12_thieves Q 136 [(0, .ref a0), (1, .int x1), (2, .int x2), (3, .int x3), (4, .int x4), (5, .int x5), (7, .int x7), (8, .int x8), (9, .int x9)] [.int xs0, .ref as1] m := by
  refine g_iconst (v := -1) dX12_thieves_136 (by decide) ?_
  refine g_iast (j := xs0.toNatClampNeg) dX12_thieves_137 cs1 h1 rfl ?_
  refine g_aload_n 0 dX12_thieves_138 rfl rfl ?_
  exact g_callV (As := []) (st := []) dX12_thieves_139 clX12_368 c0 rfl rfl (Nat.le_of_ble_eq_true rfl) (rmSH (by decide) (by decide)) h2
theorem bX12_count_0 {X : pX} {Q : Option Value → pMem → Prop} {m : pMem} {a0 : Nat} {x1 : Int32} (hW : Wf m) (c0 : SH[a0]? = some (.inl 12))
    (h1 : x1 = 0 → Q (some (.int (mI m (a0 + 1) 1))) m)
    (h2 : ¬ x1 = 0 → x1 = 1 → Q (some (.int (mI m (a0 + 1) 2))) m)
    (h3 : ¬ x1 = 0 → ¬ x1 = 1 → x1 = 2 → Q (some (.int (mI m (a0 + 1) 3))) m)
    (h4 : ¬ x1 = 0 → ¬ x1 = 1 → ¬ x1 = 2 → x1 = 3 → Q (some (.int (mI m (a0 + 1) 4))) m)
    (h5 : ¬ x1 = 0 → ¬ x1 = 1 → ¬ x1 = 2 → ¬ x1 = 3 → x1 = 4 → Q (some (.int (mI m a0 23))) m)
    (h6 : ¬ x1 = 0 → ¬ x1 = 1 → ¬ x1 = 2 → ¬ x1 = 3 → ¬ x1 = 4 → x1 = 5 → Q (some (.int (mI m (a0 + 1) 8))) m)
    (h7 : ¬ x1 = 0 → ¬ x1 = 1 → ¬ x1 = 2 → ¬ x1 = 3 → ¬ x1 = 4 → ¬ x1 = 5 → x1 = 6 → Q (some (.int (mI m (a0 + 1) 5))) m)
    (h8 : ¬ x1 = 0 → ¬ x1 = 1 → ¬ x1 = 2 → ¬ x1 = 3 → ¬ x1 = 4 → ¬ x1 = 5 → ¬ x1 = 6 → x1 = 7 → Cl X 1 mX12_inTown [.ref a0] m (fun v m2 => Go X 3 mX12_count Q 124 [(0, .ref a0), (1, .int x1)] (v.toList ++ []) m2))
    (h9 : ¬ x1 = 0 → ¬ x1 = 1 → ¬ x1 = 2 → ¬ x1 = 3 → ¬ x1 = 4 → ¬ x1 = 5 → ¬ x1 = 6 → ¬ x1 = 7 → x1 = 8 → Cl X 2 mX12_wealthNow [.ref a0] m (fun v m2 => Go X 3 mX12_count Q 129 [(0, .ref a0), (1, .int x1)] (v.toList ++ []) m2))
    (h10 : ¬ x1 = 0 → ¬ x1 = 1 → ¬ x1 = 2 → ¬ x1 = 3 → ¬ x1 = 4 → ¬ x1 = 5 → ¬ x1 = 6 → ¬ x1 = 7 → ¬ x1 = 8 → x1 = 9 → Cl X 0 mX12_thingsOf [.ref a0, .int (-1 : Int32)] m (fun v m2 => Go X 3 mX12_count Q 135 [(0, .ref a0), (1, .int x1)] (v.toList ++ []) m2))
    (h11 : ¬ x1 = 0 → ¬ x1 = 1 → ¬ x1 = 2 → ¬ x1 = 3 → ¬ x1 = 4 → ¬ x1 = 5 → ¬ x1 = 6 → ¬ x1 = 7 → ¬ x1 = 8 → ¬ x1 = 9 → x1 = 10 → Q (some (.int (mI m (a0 + 1) 6))) m)
    (h12 : ¬ x1 = 0 → ¬ x1 = 1 → ¬ x1 = 2 → ¬ x1 = 3 → ¬ x1 = 4 → ¬ x1 = 5 → ¬ x1 = 6 → ¬ x1 = 7 → ¬ x1 = 8 → ¬ x1 = 9 → ¬ x1 = 10 → x1 = 11 → Q (some (.int (mI m a0 41))) m)
    (h13 : ¬ x1 = 0 → ¬ x1 = 1 → ¬ x1 = 2 → ¬ x1 = 3 → ¬ x1 = 4 → ¬ x1 = 5 → ¬ x1 = 6 → ¬ x1 = 7 → ¬ x1 = 8 → ¬ x1 = 9 → ¬ x1 = 10 → ¬ x1 = 11 → x1 = 12 → Q (some (.int (mI m (a0 + 1) 7))) m)
    (h14 : ¬ x1 = 0 → ¬ x1 = 1 → ¬ x1 = 2 → ¬ x1 = 3 → ¬ x1 = 4 → ¬ x1 = 5 → ¬ x1 = 6 → ¬ x1 = 7 → ¬ x1 = 8 → ¬ x1 = 9 → ¬ x1 = 10 → ¬ x1 = 11 → ¬ x1 = 12 → x1 = 13 → Q (some (.int (mI m a0 19))) m)
    (h15 : ¬ x1 = 0 → ¬ x1 = 1 → ¬ x1 = 2 → ¬ x1 = 3 → ¬ x1 = 4 → ¬ x1 = 5 → ¬ x1 = 6 → ¬ x1 = 7 → ¬ x1 = 8 → ¬ x1 = 9 → ¬ x1 = 10 → ¬ x1 = 11 → ¬ x1 = 12 → ¬ x1 = 13 → Q (some (.int (-1 : Int32))) m) :
    Go X 3 mX12_count Q 0 [(0, .ref a0), (1, .int x1)] [] m := by
  refine g_iload_n 1 dX12_count_0 rfl rfl ?_
  by_cases q1 : x1 = 0
  · refine g_tabIn 72 dX12_count_1 (by rw [q1]; decide) (by rw [q1]; decide) (by rw [q1]; rfl) (by decide) ?_
    refine g_aload_n 0 dX12_count_72 rfl rfl ?_
    refine g_getR dX12_count_73 fl12_9 rfl c0 (w12_1 hW c0) ?_
    refine g_iconst (v := 1) dX12_count_76 (by decide) ?_
    refine g_iald (j := 1) dX12_count_77 (s12_1 c0) (by unfold vp_in; decide) (by decide) ?_
    exact g_iret dX12_count_78 rfl enSH (h1 q1)
  by_cases q2 : x1 = 1
  · refine g_tabIn 79 dX12_count_1 (by rw [q2]; decide) (by rw [q2]; decide) (by rw [q2]; rfl) (by decide) ?_
    refine g_aload_n 0 dX12_count_79 rfl rfl ?_
    refine g_getR dX12_count_80 fl12_9 rfl c0 (w12_1 hW c0) ?_
    refine g_iconst (v := 2) dX12_count_83 (by decide) ?_
    refine g_iald (j := 2) dX12_count_84 (s12_1 c0) (by unfold vp_in; decide) (by decide) ?_
    exact g_iret dX12_count_85 rfl enSH (h2 q1 q2)
  by_cases q3 : x1 = 2
  · refine g_tabIn 86 dX12_count_1 (by rw [q3]; decide) (by rw [q3]; decide) (by rw [q3]; rfl) (by decide) ?_
    refine g_aload_n 0 dX12_count_86 rfl rfl ?_
    refine g_getR dX12_count_87 fl12_9 rfl c0 (w12_1 hW c0) ?_
    refine g_iconst (v := 3) dX12_count_90 (by decide) ?_
    refine g_iald (j := 3) dX12_count_91 (s12_1 c0) (by unfold vp_in; decide) (by decide) ?_
    exact g_iret dX12_count_92 rfl enSH (h3 q1 q2 q3)
  by_cases q4 : x1 = 3
  · refine g_tabIn 93 dX12_count_1 (by rw [q4]; decide) (by rw [q4]; decide) (by rw [q4]; rfl) (by decide) ?_
    refine g_aload_n 0 dX12_count_93 rfl rfl ?_
    refine g_getR dX12_count_94 fl12_9 rfl c0 (w12_1 hW c0) ?_
    refine g_iconst (v := 4) dX12_count_97 (by decide) ?_
    refine g_iald (j := 4) dX12_count_98 (s12_1 c0) (by unfold vp_in; decide) (by decide) ?_
    exact g_iret dX12_count_99 rfl enSH (h4 q1 q2 q3 q4)
  by_cases q5 : x1 = 4
  · refine g_tabIn 100 dX12_count_1 (by rw [q5]; decide) (by rw [q5]; decide) (by rw [q5]; rfl) (by decide) ?_
    refine g_aload_n 0 dX12_count_100 rfl rfl ?_
    refine g_getI dX12_count_101 fl12_312 c0 ?_
    exact g_iret dX12_count_104 rfl enSH (h5 q1 q2 q3 q4 q5)
  by_cases q6 : x1 = 5
  · refine g_tabIn 105 dX12_count_1 (by rw [q6]; decide) (by rw [q6]; decide) (by rw [q6]; rfl) (by decide) ?_
    refine g_aload_n 0 dX12_count_105 rfl rfl ?_
    refine g_getR dX12_count_106 fl12_9 rfl c0 (w12_1 hW c0) ?_
    refine g_bipush (v := 8) dX12_count_109 (by decide) ?_
    refine g_iald (j := 8) dX12_count_111 (s12_1 c0) (by unfold vp_in; decide) (by decide) ?_
    exact g_iret dX12_count_112 rfl enSH (h6 q1 q2 q3 q4 q5 q6)
  by_cases q7 : x1 = 6
  · refine g_tabIn 113 dX12_count_1 (by rw [q7]; decide) (by rw [q7]; decide) (by rw [q7]; rfl) (by decide) ?_
    refine g_aload_n 0 dX12_count_113 rfl rfl ?_
    refine g_getR dX12_count_114 fl12_9 rfl c0 (w12_1 hW c0) ?_
    refine g_iconst (v := 5) dX12_count_117 (by decide) ?_
    refine g_iald (j := 5) dX12_count_118 (s12_1 c0) (by unfold vp_in; decide) (by decide) ?_
    exact g_iret dX12_count_119 rfl enSH (h7 q1 q2 q3 q4 q5 q6 q7)
  by_cases q8 : x1 = 7
  · refine g_tabIn 120 dX12_count_1 (by rw [q8]; decide) (by rw [q8]; decide) (by rw [q8]; rfl) (by decide) ?_
    refine g_aload_n 0 dX12_count_120 rfl rfl ?_
    exact g_callV (As := []) (st := []) dX12_count_121 clX12_481 c0 rfl rfl (Nat.le_of_ble_eq_true rfl) (rmSH (by decide) (by decide)) (h8 q1 q2 q3 q4 q5 q6 q7 q8)
  by_cases q9 : x1 = 8
  · refine g_tabIn 125 dX12_count_1 (by rw [q9]; decide) (by rw [q9]; decide) (by rw [q9]; rfl) (by decide) ?_
    refine g_aload_n 0 dX12_count_125 rfl rfl ?_
    exact g_callV (As := []) (st := []) dX12_count_126 clX12_418 c0 rfl rfl (Nat.le_of_ble_eq_true rfl) (rmSH (by decide) (by decide)) (h9 q1 q2 q3 q4 q5 q6 q7 q8 q9)
  by_cases q10 : x1 = 9
  · refine g_tabIn 130 dX12_count_1 (by rw [q10]; decide) (by rw [q10]; decide) (by rw [q10]; rfl) (by decide) ?_
    refine g_aload_n 0 dX12_count_130 rfl rfl ?_
    refine g_iconst (v := -1) dX12_count_131 (by decide) ?_
    exact g_callV (As := [.int (-1 : Int32)]) (st := []) dX12_count_132 clX12_338 c0 rfl rfl (Nat.le_of_ble_eq_true rfl) (rmSH (by decide) (by decide)) (h10 q1 q2 q3 q4 q5 q6 q7 q8 q9 q10)
  by_cases q11 : x1 = 10
  · refine g_tabIn 136 dX12_count_1 (by rw [q11]; decide) (by rw [q11]; decide) (by rw [q11]; rfl) (by decide) ?_
    refine g_aload_n 0 dX12_count_136 rfl rfl ?_
    refine g_getR dX12_count_137 fl12_9 rfl c0 (w12_1 hW c0) ?_
    refine g_bipush (v := 6) dX12_count_140 (by decide) ?_
    refine g_iald (j := 6) dX12_count_142 (s12_1 c0) (by unfold vp_in; decide) (by decide) ?_
    exact g_iret dX12_count_143 rfl enSH (h11 q1 q2 q3 q4 q5 q6 q7 q8 q9 q10 q11)
  by_cases q12 : x1 = 11
  · refine g_tabIn 144 dX12_count_1 (by rw [q12]; decide) (by rw [q12]; decide) (by rw [q12]; rfl) (by decide) ?_
    refine g_aload_n 0 dX12_count_144 rfl rfl ?_
    refine g_getI dX12_count_145 fl12_299 c0 ?_
    exact g_iret dX12_count_148 rfl enSH (h12 q1 q2 q3 q4 q5 q6 q7 q8 q9 q10 q11 q12)
  by_cases q13 : x1 = 12
  · refine g_tabIn 149 dX12_count_1 (by rw [q13]; decide) (by rw [q13]; decide) (by rw [q13]; rfl) (by decide) ?_
    refine g_aload_n 0 dX12_count_149 rfl rfl ?_
    refine g_getR dX12_count_150 fl12_9 rfl c0 (w12_1 hW c0) ?_
    refine g_bipush (v := 7) dX12_count_153 (by decide) ?_
    refine g_iald (j := 7) dX12_count_155 (s12_1 c0) (by unfold vp_in; decide) (by decide) ?_
    exact g_iret dX12_count_156 rfl enSH (h13 q1 q2 q3 q4 q5 q6 q7 q8 q9 q10 q11 q12 q13)
  by_cases q14 : x1 = 13
  · refine g_tabIn 157 dX12_count_1 (by rw [q14]; decide) (by rw [q14]; decide) (by rw [q14]; rfl) (by decide) ?_
    refine g_aload_n 0 dX12_count_157 rfl rfl ?_
    refine g_getI dX12_count_158 fl12_132 c0 ?_
    exact g_iret dX12_count_161 rfl enSH (h14 q1 q2 q3 q4 q5 q6 q7 q8 q9 q10 q11 q12 q13 q14)
  refine g_tabOut 162 dX12_count_1 (p_tabD (fun k hk1 hk2 => ?_)) (by decide) ?_
  · have hk : k = 0 ∨ k = 1 ∨ k = 2 ∨ k = 3 ∨ k = 4 ∨ k = 5 ∨ k = 6 ∨ k = 7 ∨ k = 8 ∨ k = 9 ∨ k = 10 ∨ k = 11 ∨ k = 12 ∨ k = 13 := by omega
    rcases hk with rfl | rfl | rfl | rfl | rfl | rfl | rfl | rfl | rfl | rfl | rfl | rfl | rfl | rfl
    · exact q1
    · exact q2
    · exact q3
    · exact q4
    · exact q5
    · exact q6
    · exact q7
    · exact q8
    · exact q9
    · exact q10
    · exact q11
    · exact q12
    · exact q13
    · exact q14
  refine g_iconst (v := -1) dX12_count_162 (by decide) ?_
  exact g_iret dX12_count_163 rfl enSH (h15 q1 q2 q3 q4 q5 q6 q7 q8 q9 q10 q11 q12 q13 q14)
theorem bX12_count_124 {X : pX} {Q : Option Value → pMem → Prop} {m : pMem} {a0 : Nat} {x1 : Int32} {xs0 : Int32} (hW : Wf m) (c0 : SH[a0]? = some (.inl 12))
    (h1 : Q (some (.int xs0)) m) :
    Go X 3 mX12_count Q 124 [(0, .ref a0), (1, .int x1)] [.int xs0] m := by
  exact g_iret dX12_count_124 rfl enSH h1
theorem bX12_count_129 {X : pX} {Q : Option Value → pMem → Prop} {m : pMem} {a0 : Nat} {x1 : Int32} {xs0 : Int32} (hW : Wf m) (c0 : SH[a0]? = some (.inl 12))
    (h1 : Q (some (.int xs0)) m) :
    Go X 3 mX12_count Q 129 [(0, .ref a0), (1, .int x1)] [.int xs0] m := by
  exact g_iret dX12_count_129 rfl enSH h1
theorem bX12_count_135 {X : pX} {Q : Option Value → pMem → Prop} {m : pMem} {a0 : Nat} {x1 : Int32} {xs0 : Int32} (hW : Wf m) (c0 : SH[a0]? = some (.inl 12))
    (h1 : Q (some (.int xs0)) m) :
    Go X 3 mX12_count Q 135 [(0, .ref a0), (1, .int x1)] [.int xs0] m := by
  exact g_iret dX12_count_135 rfl enSH h1
theorem bX12_carryRow_0 {X : pX} {Q : Option Value → pMem → Prop} {m : pMem} {a0 : Nat} {a1 n1 : Nat} (hW : Wf m) (c0 : SH[a0]? = some (.inl 12)) (c1 : SH[a1]? = some (.inr (.int, n1)))
    (h1 : Go X 0 mX12_carryRow Q 2 [(0, .ref a0), (1, .ref a1), (2, .int (0 : Int32))] [] m) :
    Go X 0 mX12_carryRow Q 0 [(0, .ref a0), (1, .ref a1)] [] m := by
  refine g_iconst (v := 0) dX12_carryRow_0 (by decide) ?_
  refine g_istore_n (ls2 := [(2, .int (0 : Int32)), (0, .ref a0), (1, .ref a1)]) dX12_carryRow_1 rfl (by decide) rfl ?_
  exact g_ls [1, 2, 0] rfl h1
theorem bX12_carryRow_2 {X : pX} {Q : Option Value → pMem → Prop} {m : pMem} {a0 : Nat} {a1 n1 : Nat} {x2 : Int32} (hW : Wf m) (c0 : SH[a0]? = some (.inl 12)) (c1 : SH[a1]? = some (.inr (.int, n1)))
    (h1 : (Int32.ofNat n1) ≤ x2 → Q none m)
    (h2 : ¬ ((Int32.ofNat n1) ≤ x2) → (mI m a0 55) = 0 → vp_in x2 n1)
    (h3 : ¬ ((Int32.ofNat n1) ≤ x2) → (mI m a0 55) = 0 → vp_in (mI m a0 54) 2250)
    (h4 : ¬ ((Int32.ofNat n1) ≤ x2) → (mI m a0 55) = 0 → Go X 0 mX12_carryRow Q 2 [(0, .ref a0), (1, .ref a1), (2, .int (x2 + (1 : Int32)))] [] (uI (uI m (a0 + 35) ((mI m a0 54).toNatClampNeg) (mI m a1 x2.toNatClampNeg)) a0 54 ((mI (uI m (a0 + 35) ((mI m a0 54).toNatClampNeg) (mI m a1 x2.toNatClampNeg)) a0 54) + (1 : Int32))))
    (h5 : ¬ ((Int32.ofNat n1) ≤ x2) → ¬ ((mI m a0 55) = 0) → vp_in (mI m a0 54) 2250)
    (h6 : ¬ ((Int32.ofNat n1) ≤ x2) → ¬ ((mI m a0 55) = 0) → vp_in x2 n1)
    (h7 : ¬ ((Int32.ofNat n1) ≤ x2) → ¬ ((mI m a0 55) = 0) → Go X 0 mX12_carryRow Q 2 [(0, .ref a0), (1, .ref a1), (2, .int (x2 + (1 : Int32)))] [] (uI (uI m a1 x2.toNatClampNeg (mI m (a0 + 35) ((mI m a0 54).toNatClampNeg))) a0 54 ((mI (uI m a1 x2.toNatClampNeg (mI m (a0 + 35) ((mI m a0 54).toNatClampNeg))) a0 54) + (1 : Int32)))) :
    Go X 0 mX12_carryRow Q 2 [(0, .ref a0), (1, .ref a1), (2, .int x2)] [] m := by
  refine g_iload_n 2 dX12_carryRow_2 rfl rfl ?_
  refine g_aload_n 1 dX12_carryRow_3 rfl rfl ?_
  refine g_alen (v := Int32.ofNat n1) dX12_carryRow_4 c1 (by decide) (by first | rfl | decide) ?_
  refine g_icmp_ge 58 dX12_carryRow_5 (by decide) (fun q1 => ?_) (fun q1 => ?_)
  · exact g_vret dX12_carryRow_58 rfl enSH (h1 q1)
  · refine g_aload_n 0 dX12_carryRow_8 rfl rfl ?_
    refine g_getZ dX12_carryRow_9 fl12_484 c0 ?_
    refine g_if_eq 30 dX12_carryRow_12 (by decide) (fun q2 => ?_) (fun q2 => ?_)
    · refine g_aload_n 0 dX12_carryRow_30 rfl rfl ?_
      refine g_getR dX12_carryRow_31 fl12_118 rfl c0 (w12_52 hW c0) ?_
      refine g_aload_n 0 dX12_carryRow_34 rfl rfl ?_
      refine g_getI dX12_carryRow_35 fl12_487 c0 ?_
      refine g_aload_n 1 dX12_carryRow_38 rfl rfl ?_
      refine g_iload_n 2 dX12_carryRow_39 rfl rfl ?_
      refine g_iald (j := x2.toNatClampNeg) dX12_carryRow_40 c1 (h2 q1 q2) rfl ?_
      refine g_iast (j := (mI m a0 54).toNatClampNeg) dX12_carryRow_41 (s12_52 c0) (h3 q1 q2) rfl ?_
      refine g_aload_n 0 dX12_carryRow_42 rfl rfl ?_
      refine g_dup dX12_carryRow_43 rfl ?_
      refine g_getI dX12_carryRow_44 fl12_487 c0 ?_
      refine g_iconst (v := 1) dX12_carryRow_47 (by decide) ?_
      refine g_iadd dX12_carryRow_48 ?_
      refine g_putI dX12_carryRow_49 fl12_487 (fun h => by cases h) c0 ?_
      refine g_iinc (v := x2 + (1 : Int32)) (ls2 := [(2, .int (x2 + (1 : Int32))), (0, .ref a0), (1, .ref a1)]) 2 dX12_carryRow_52 rfl rfl (by decide) rfl ?_
      refine g_goto 2 dX12_carryRow_55 (by decide) ?_
      exact g_ls [1, 2, 0] rfl (h4 q1 q2)
    · refine g_aload_n 1 dX12_carryRow_15 rfl rfl ?_
      refine g_iload_n 2 dX12_carryRow_16 rfl rfl ?_
      refine g_aload_n 0 dX12_carryRow_17 rfl rfl ?_
      refine g_getR dX12_carryRow_18 fl12_118 rfl c0 (w12_52 hW c0) ?_
      refine g_aload_n 0 dX12_carryRow_21 rfl rfl ?_
      refine g_getI dX12_carryRow_22 fl12_487 c0 ?_
      refine g_iald (j := (mI m a0 54).toNatClampNeg) dX12_carryRow_25 (s12_52 c0) (h5 q1 q2) rfl ?_
      refine g_iast (j := x2.toNatClampNeg) dX12_carryRow_26 c1 (h6 q1 q2) rfl ?_
      refine g_goto 42 dX12_carryRow_27 (by decide) ?_
      refine g_aload_n 0 dX12_carryRow_42 rfl rfl ?_
      refine g_dup dX12_carryRow_43 rfl ?_
      refine g_getI dX12_carryRow_44 fl12_487 c0 ?_
      refine g_iconst (v := 1) dX12_carryRow_47 (by decide) ?_
      refine g_iadd dX12_carryRow_48 ?_
      refine g_putI dX12_carryRow_49 fl12_487 (fun h => by cases h) c0 ?_
      refine g_iinc (v := x2 + (1 : Int32)) (ls2 := [(2, .int (x2 + (1 : Int32))), (0, .ref a0), (1, .ref a1)]) 2 dX12_carryRow_52 rfl rfl (by decide) rfl ?_
      refine g_goto 2 dX12_carryRow_55 (by decide) ?_
      exact g_ls [1, 2, 0] rfl (h7 q1 q2)
theorem bX12_carriesAll_0 {X : pX} {Q : Option Value → pMem → Prop} {m : pMem} {a0 : Nat} {x1 : Int32} {x2 : Int32} (hW : Wf m) (c0 : SH[a0]? = some (.inl 12))
    (h1 : x2 = 0 ∨ x2 = 1)
    (h2 : Cl X 0 mX12_carryRow [.ref a0, .ref (a0 + 1)] (uI (uI m a0 54 ((450 : Int32) * x1)) a0 55 x2) (fun v m2 => Go X 1 mX12_carriesAll Q 22 [(0, .ref a0), (1, .int x1), (2, .int x2)] (v.toList ++ []) m2)) :
    Go X 1 mX12_carriesAll Q 0 [(0, .ref a0), (1, .int x1), (2, .int x2)] [] m := by
  refine g_aload_n 0 dX12_carriesAll_0 rfl rfl ?_
  refine g_sipush (v := 450) dX12_carriesAll_1 (by decide) ?_
  refine g_iload_n 1 dX12_carriesAll_4 rfl rfl ?_
  refine g_imul dX12_carriesAll_5 ?_
  refine g_putI dX12_carriesAll_6 fl12_487 (fun h => by cases h) c0 ?_
  refine g_aload_n 0 dX12_carriesAll_9 rfl rfl ?_
  refine g_iload_n 2 dX12_carriesAll_10 rfl rfl ?_
  refine g_putZ dX12_carriesAll_11 fl12_484 (fun h => by cases h) c0 h1 ?_
  refine g_aload_n 0 dX12_carriesAll_14 rfl rfl ?_
  refine g_aload_n 0 dX12_carriesAll_15 rfl rfl ?_
  refine g_getR dX12_carriesAll_16 fl12_9 rfl c0 (w12_1 hW c0) ?_
  exact g_callV (As := [.ref (a0 + 1)]) (st := []) dX12_carriesAll_19 clX12_490 c0 rfl rfl (Nat.le_of_ble_eq_true rfl) (rmSH (by decide) (by decide)) h2
theorem bX12_carriesAll_22 {X : pX} {Q : Option Value → pMem → Prop} {m : pMem} {a0 : Nat} {x1 : Int32} {x2 : Int32} (hW : Wf m) (c0 : SH[a0]? = some (.inl 12))
    (h1 : Cl X 0 mX12_carryRow [.ref a0, .ref (a0 + 2)] m (fun v m2 => Go X 1 mX12_carriesAll Q 30 [(0, .ref a0), (1, .int x1), (2, .int x2)] (v.toList ++ []) m2)) :
    Go X 1 mX12_carriesAll Q 22 [(0, .ref a0), (1, .int x1), (2, .int x2)] [] m := by
  refine g_aload_n 0 dX12_carriesAll_22 rfl rfl ?_
  refine g_aload_n 0 dX12_carriesAll_23 rfl rfl ?_
  refine g_getR dX12_carriesAll_24 fl12_13 rfl c0 (w12_2 hW c0) ?_
  exact g_callV (As := [.ref (a0 + 2)]) (st := []) dX12_carriesAll_27 clX12_490 c0 rfl rfl (Nat.le_of_ble_eq_true rfl) (rmSH (by decide) (by decide)) h1
theorem bX12_carriesAll_30 {X : pX} {Q : Option Value → pMem → Prop} {m : pMem} {a0 : Nat} {x1 : Int32} {x2 : Int32} (hW : Wf m) (c0 : SH[a0]? = some (.inl 12))
    (h1 : Cl X 0 mX12_carryRow [.ref a0, .ref (a0 + 3)] m (fun v m2 => Go X 1 mX12_carriesAll Q 38 [(0, .ref a0), (1, .int x1), (2, .int x2)] (v.toList ++ []) m2)) :
    Go X 1 mX12_carriesAll Q 30 [(0, .ref a0), (1, .int x1), (2, .int x2)] [] m := by
  refine g_aload_n 0 dX12_carriesAll_30 rfl rfl ?_
  refine g_aload_n 0 dX12_carriesAll_31 rfl rfl ?_
  refine g_getR dX12_carriesAll_32 fl12_16 rfl c0 (w12_3 hW c0) ?_
  exact g_callV (As := [.ref (a0 + 3)]) (st := []) dX12_carriesAll_35 clX12_490 c0 rfl rfl (Nat.le_of_ble_eq_true rfl) (rmSH (by decide) (by decide)) h1
theorem bX12_carriesAll_38 {X : pX} {Q : Option Value → pMem → Prop} {m : pMem} {a0 : Nat} {x1 : Int32} {x2 : Int32} (hW : Wf m) (c0 : SH[a0]? = some (.inl 12))
    (h1 : Cl X 0 mX12_carryRow [.ref a0, .ref (a0 + 4)] m (fun v m2 => Go X 1 mX12_carriesAll Q 46 [(0, .ref a0), (1, .int x1), (2, .int x2)] (v.toList ++ []) m2)) :
    Go X 1 mX12_carriesAll Q 38 [(0, .ref a0), (1, .int x1), (2, .int x2)] [] m := by
  refine g_aload_n 0 dX12_carriesAll_38 rfl rfl ?_
  refine g_aload_n 0 dX12_carriesAll_39 rfl rfl ?_
  refine g_getR dX12_carriesAll_40 fl12_19 rfl c0 (w12_4 hW c0) ?_
  exact g_callV (As := [.ref (a0 + 4)]) (st := []) dX12_carriesAll_43 clX12_490 c0 rfl rfl (Nat.le_of_ble_eq_true rfl) (rmSH (by decide) (by decide)) h1
theorem bX12_carriesAll_46 {X : pX} {Q : Option Value → pMem → Prop} {m : pMem} {a0 : Nat} {x1 : Int32} {x2 : Int32} (hW : Wf m) (c0 : SH[a0]? = some (.inl 12))
    (h1 : ¬ x1 = (4 : Int32) → Cl X 0 mX12_carryRow [.ref a0, .ref (a0 + 30)] (uI m (a0 + 30) 0 (mI m a0 41)) (fun v m2 => Go X 1 mX12_carriesAll Q 70 [(0, .ref a0), (1, .int x1), (2, .int x2)] (v.toList ++ []) m2))
    (h2 : x1 = (4 : Int32) → Q none m) :
    Go X 1 mX12_carriesAll Q 46 [(0, .ref a0), (1, .int x1), (2, .int x2)] [] m := by
  refine g_iload_n 1 dX12_carriesAll_46 rfl rfl ?_
  refine g_iconst (v := 4) dX12_carriesAll_47 (by decide) ?_
  refine g_icmp_ne 52 dX12_carriesAll_48 (by decide) (fun q1 => ?_) (fun q1 => ?_)
  · refine g_aload_n 0 dX12_carriesAll_52 rfl rfl ?_
    refine g_getR dX12_carriesAll_53 fl12_103 rfl c0 (w12_40 hW c0) ?_
    refine g_iconst (v := 0) dX12_carriesAll_56 (by decide) ?_
    refine g_aload_n 0 dX12_carriesAll_57 rfl rfl ?_
    refine g_getI dX12_carriesAll_58 fl12_299 c0 ?_
    refine g_iast (j := 0) dX12_carriesAll_61 (s12_40 c0) (by unfold vp_in; decide) (by decide) ?_
    refine g_aload_n 0 dX12_carriesAll_62 rfl rfl ?_
    refine g_aload_n 0 dX12_carriesAll_63 rfl rfl ?_
    refine g_getR dX12_carriesAll_64 fl12_103 rfl c0 (w12_40 hW c0) ?_
    exact g_callV (As := [.ref (a0 + 30)]) (st := []) dX12_carriesAll_67 clX12_490 c0 rfl rfl (Nat.le_of_ble_eq_true rfl) (rmSH (by decide) (by decide)) (h1 q1)
  · exact g_vret dX12_carriesAll_51 rfl enSH (h2 q1)
theorem bX12_carriesAll_70 {X : pX} {Q : Option Value → pMem → Prop} {m : pMem} {a0 : Nat} {x1 : Int32} {x2 : Int32} (hW : Wf m) (c0 : SH[a0]? = some (.inl 12))
    (h1 : Cl X 0 mX12_carryRow [.ref a0, .ref (a0 + 5)] (uI m a0 41 (mI m (a0 + 30) 0)) (fun v m2 => Go X 1 mX12_carriesAll Q 88 [(0, .ref a0), (1, .int x1), (2, .int x2)] (v.toList ++ []) m2)) :
    Go X 1 mX12_carriesAll Q 70 [(0, .ref a0), (1, .int x1), (2, .int x2)] [] m := by
  refine g_aload_n 0 dX12_carriesAll_70 rfl rfl ?_
  refine g_aload_n 0 dX12_carriesAll_71 rfl rfl ?_
  refine g_getR dX12_carriesAll_72 fl12_103 rfl c0 (w12_40 hW c0) ?_
  refine g_iconst (v := 0) dX12_carriesAll_75 (by decide) ?_
  refine g_iald (j := 0) dX12_carriesAll_76 (s12_40 c0) (by unfold vp_in; decide) (by decide) ?_
  refine g_putI dX12_carriesAll_77 fl12_299 (fun h => by cases h) c0 ?_
  refine g_aload_n 0 dX12_carriesAll_80 rfl rfl ?_
  refine g_aload_n 0 dX12_carriesAll_81 rfl rfl ?_
  refine g_getR dX12_carriesAll_82 fl12_22 rfl c0 (w12_5 hW c0) ?_
  exact g_callV (As := [.ref (a0 + 5)]) (st := []) dX12_carriesAll_85 clX12_490 c0 rfl rfl (Nat.le_of_ble_eq_true rfl) (rmSH (by decide) (by decide)) h1
theorem bX12_carriesAll_88 {X : pX} {Q : Option Value → pMem → Prop} {m : pMem} {a0 : Nat} {x1 : Int32} {x2 : Int32} (hW : Wf m) (c0 : SH[a0]? = some (.inl 12))
    (h1 : Cl X 0 mX12_carryRow [.ref a0, .ref (a0 + 6)] m (fun v m2 => Go X 1 mX12_carriesAll Q 96 [(0, .ref a0), (1, .int x1), (2, .int x2)] (v.toList ++ []) m2)) :
    Go X 1 mX12_carriesAll Q 88 [(0, .ref a0), (1, .int x1), (2, .int x2)] [] m := by
  refine g_aload_n 0 dX12_carriesAll_88 rfl rfl ?_
  refine g_aload_n 0 dX12_carriesAll_89 rfl rfl ?_
  refine g_getR dX12_carriesAll_90 fl12_25 rfl c0 (w12_6 hW c0) ?_
  exact g_callV (As := [.ref (a0 + 6)]) (st := []) dX12_carriesAll_93 clX12_490 c0 rfl rfl (Nat.le_of_ble_eq_true rfl) (rmSH (by decide) (by decide)) h1
theorem bX12_carriesAll_96 {X : pX} {Q : Option Value → pMem → Prop} {m : pMem} {a0 : Nat} {x1 : Int32} {x2 : Int32} (hW : Wf m) (c0 : SH[a0]? = some (.inl 12))
    (h1 : Cl X 0 mX12_carryRow [.ref a0, .ref (a0 + 7)] m (fun v m2 => Go X 1 mX12_carriesAll Q 104 [(0, .ref a0), (1, .int x1), (2, .int x2)] (v.toList ++ []) m2)) :
    Go X 1 mX12_carriesAll Q 96 [(0, .ref a0), (1, .int x1), (2, .int x2)] [] m := by
  refine g_aload_n 0 dX12_carriesAll_96 rfl rfl ?_
  refine g_aload_n 0 dX12_carriesAll_97 rfl rfl ?_
  refine g_getR dX12_carriesAll_98 fl12_28 rfl c0 (w12_7 hW c0) ?_
  exact g_callV (As := [.ref (a0 + 7)]) (st := []) dX12_carriesAll_101 clX12_490 c0 rfl rfl (Nat.le_of_ble_eq_true rfl) (rmSH (by decide) (by decide)) h1
theorem bX12_carriesAll_104 {X : pX} {Q : Option Value → pMem → Prop} {m : pMem} {a0 : Nat} {x1 : Int32} {x2 : Int32} (hW : Wf m) (c0 : SH[a0]? = some (.inl 12))
    (h1 : Cl X 0 mX12_carryRow [.ref a0, .ref (a0 + 8)] m (fun v m2 => Go X 1 mX12_carriesAll Q 112 [(0, .ref a0), (1, .int x1), (2, .int x2)] (v.toList ++ []) m2)) :
    Go X 1 mX12_carriesAll Q 104 [(0, .ref a0), (1, .int x1), (2, .int x2)] [] m := by
  refine g_aload_n 0 dX12_carriesAll_104 rfl rfl ?_
  refine g_aload_n 0 dX12_carriesAll_105 rfl rfl ?_
  refine g_getR dX12_carriesAll_106 fl12_31 rfl c0 (w12_8 hW c0) ?_
  exact g_callV (As := [.ref (a0 + 8)]) (st := []) dX12_carriesAll_109 clX12_490 c0 rfl rfl (Nat.le_of_ble_eq_true rfl) (rmSH (by decide) (by decide)) h1
theorem bX12_carriesAll_112 {X : pX} {Q : Option Value → pMem → Prop} {m : pMem} {a0 : Nat} {x1 : Int32} {x2 : Int32} (hW : Wf m) (c0 : SH[a0]? = some (.inl 12))
    (h1 : Cl X 0 mX12_carryRow [.ref a0, .ref (a0 + 9)] m (fun v m2 => Go X 1 mX12_carriesAll Q 120 [(0, .ref a0), (1, .int x1), (2, .int x2)] (v.toList ++ []) m2)) :
    Go X 1 mX12_carriesAll Q 112 [(0, .ref a0), (1, .int x1), (2, .int x2)] [] m := by
  refine g_aload_n 0 dX12_carriesAll_112 rfl rfl ?_
  refine g_aload_n 0 dX12_carriesAll_113 rfl rfl ?_
  refine g_getR dX12_carriesAll_114 fl12_34 rfl c0 (w12_9 hW c0) ?_
  exact g_callV (As := [.ref (a0 + 9)]) (st := []) dX12_carriesAll_117 clX12_490 c0 rfl rfl (Nat.le_of_ble_eq_true rfl) (rmSH (by decide) (by decide)) h1
theorem bX12_carriesAll_120 {X : pX} {Q : Option Value → pMem → Prop} {m : pMem} {a0 : Nat} {x1 : Int32} {x2 : Int32} (hW : Wf m) (c0 : SH[a0]? = some (.inl 12))
    (h1 : Cl X 0 mX12_carryRow [.ref a0, .ref (a0 + 10)] m (fun v m2 => Go X 1 mX12_carriesAll Q 128 [(0, .ref a0), (1, .int x1), (2, .int x2)] (v.toList ++ []) m2)) :
    Go X 1 mX12_carriesAll Q 120 [(0, .ref a0), (1, .int x1), (2, .int x2)] [] m := by
  refine g_aload_n 0 dX12_carriesAll_120 rfl rfl ?_
  refine g_aload_n 0 dX12_carriesAll_121 rfl rfl ?_
  refine g_getR dX12_carriesAll_122 fl12_37 rfl c0 (w12_10 hW c0) ?_
  exact g_callV (As := [.ref (a0 + 10)]) (st := []) dX12_carriesAll_125 clX12_490 c0 rfl rfl (Nat.le_of_ble_eq_true rfl) (rmSH (by decide) (by decide)) h1
theorem bX12_carriesAll_128 {X : pX} {Q : Option Value → pMem → Prop} {m : pMem} {a0 : Nat} {x1 : Int32} {x2 : Int32} (hW : Wf m) (c0 : SH[a0]? = some (.inl 12))
    (h1 : Cl X 0 mX12_carryRow [.ref a0, .ref (a0 + 11)] m (fun v m2 => Go X 1 mX12_carriesAll Q 136 [(0, .ref a0), (1, .int x1), (2, .int x2)] (v.toList ++ []) m2)) :
    Go X 1 mX12_carriesAll Q 128 [(0, .ref a0), (1, .int x1), (2, .int x2)] [] m := by
  refine g_aload_n 0 dX12_carriesAll_128 rfl rfl ?_
  refine g_aload_n 0 dX12_carriesAll_129 rfl rfl ?_
  refine g_getR dX12_carriesAll_130 fl12_40 rfl c0 (w12_11 hW c0) ?_
  exact g_callV (As := [.ref (a0 + 11)]) (st := []) dX12_carriesAll_133 clX12_490 c0 rfl rfl (Nat.le_of_ble_eq_true rfl) (rmSH (by decide) (by decide)) h1
theorem bX12_carriesAll_136 {X : pX} {Q : Option Value → pMem → Prop} {m : pMem} {a0 : Nat} {x1 : Int32} {x2 : Int32} (hW : Wf m) (c0 : SH[a0]? = some (.inl 12))
    (h1 : Cl X 0 mX12_carryRow [.ref a0, .ref (a0 + 12)] m (fun v m2 => Go X 1 mX12_carriesAll Q 144 [(0, .ref a0), (1, .int x1), (2, .int x2)] (v.toList ++ []) m2)) :
    Go X 1 mX12_carriesAll Q 136 [(0, .ref a0), (1, .int x1), (2, .int x2)] [] m := by
  refine g_aload_n 0 dX12_carriesAll_136 rfl rfl ?_
  refine g_aload_n 0 dX12_carriesAll_137 rfl rfl ?_
  refine g_getR dX12_carriesAll_138 fl12_43 rfl c0 (w12_12 hW c0) ?_
  exact g_callV (As := [.ref (a0 + 12)]) (st := []) dX12_carriesAll_141 clX12_490 c0 rfl rfl (Nat.le_of_ble_eq_true rfl) (rmSH (by decide) (by decide)) h1
theorem bX12_carriesAll_144 {X : pX} {Q : Option Value → pMem → Prop} {m : pMem} {a0 : Nat} {x1 : Int32} {x2 : Int32} (hW : Wf m) (c0 : SH[a0]? = some (.inl 12))
    (h1 : Cl X 0 mX12_carryRow [.ref a0, .ref (a0 + 29)] m (fun v m2 => Go X 1 mX12_carriesAll Q 152 [(0, .ref a0), (1, .int x1), (2, .int x2)] (v.toList ++ []) m2)) :
    Go X 1 mX12_carriesAll Q 144 [(0, .ref a0), (1, .int x1), (2, .int x2)] [] m := by
  refine g_aload_n 0 dX12_carriesAll_144 rfl rfl ?_
  refine g_aload_n 0 dX12_carriesAll_145 rfl rfl ?_
  refine g_getR dX12_carriesAll_146 fl12_100 rfl c0 (w12_39 hW c0) ?_
  exact g_callV (As := [.ref (a0 + 29)]) (st := []) dX12_carriesAll_149 clX12_490 c0 rfl rfl (Nat.le_of_ble_eq_true rfl) (rmSH (by decide) (by decide)) h1
theorem bX12_carriesAll_152 {X : pX} {Q : Option Value → pMem → Prop} {m : pMem} {a0 : Nat} {x1 : Int32} {x2 : Int32} (hW : Wf m) (c0 : SH[a0]? = some (.inl 12))
    (h1 : Q none m) :
    Go X 1 mX12_carriesAll Q 152 [(0, .ref a0), (1, .int x1), (2, .int x2)] [] m := by
  exact g_vret dX12_carriesAll_152 rfl enSH h1
theorem bX12_image_0 {X : pX} {Q : Option Value → pMem → Prop} {m : pMem} {a0 : Nat} {x1 : Int32} (hW : Wf m) (c0 : SH[a0]? = some (.inl 12))
    (h1 : Cl X 0 mX12_in [.long x1.toInt64, .long (0 : Int64), .long (3 : Int64)] m (fun v m2 => Go X 2 mX12_image Q 9 [(0, .ref a0), (1, .int x1)] (v.toList ++ []) m2)) :
    Go X 2 mX12_image Q 0 [(0, .ref a0), (1, .int x1)] [] m := by
  refine g_iload_n 1 dX12_image_0 rfl rfl ?_
  refine g_i2l dX12_image_1 ?_
  refine g_lconst (v := 0) dX12_image_2 (by decide) ?_
  refine g_ldc2 (v := 3) dX12_image_3 cjX12_493 ?_
  exact g_callS (As := [.long x1.toInt64, .long (0 : Int64), .long (3 : Int64)]) (st := []) dX12_image_6 clX12_128 rfl rfl (Nat.le_of_ble_eq_true rfl) (rmSH (by decide) (by decide)) h1
theorem bX12_image_9 {X : pX} {Q : Option Value → pMem → Prop} {m : pMem} {a0 : Nat} {x1 : Int32} {xs0 : Int32} (hW : Wf m) (c0 : SH[a0]? = some (.inl 12))
    (h1 : ¬ xs0 = 0 → vp_in x1 4)
    (h2 : ¬ xs0 = 0 → Cl X 1 mX12_carriesAll [.ref a0, .int x1, .int (0 : Int32)] (uI m (a0 + 36) x1.toNatClampNeg (1 : Int32)) (fun v m2 => Go X 2 mX12_image Q 27 [(0, .ref a0), (1, .int x1)] (v.toList ++ []) m2))
    (h3 : xs0 = 0 → Q (some (.int (-1 : Int32))) m) :
    Go X 2 mX12_image Q 9 [(0, .ref a0), (1, .int x1)] [.int xs0] m := by
  refine g_if_ne 14 dX12_image_9 (by decide) (fun q1 => ?_) (fun q1 => ?_)
  · refine g_aload_n 0 dX12_image_14 rfl rfl ?_
    refine g_getR dX12_image_15 fl12_121 rfl c0 (w12_53 hW c0) ?_
    refine g_iload_n 1 dX12_image_18 rfl rfl ?_
    refine g_iconst (v := 1) dX12_image_19 (by decide) ?_
    refine g_zast (j := x1.toNatClampNeg) dX12_image_20 (s12_53 c0) (h1 q1) rfl (Or.inr rfl) ?_
    refine g_aload_n 0 dX12_image_21 rfl rfl ?_
    refine g_iload_n 1 dX12_image_22 rfl rfl ?_
    refine g_iconst (v := 0) dX12_image_23 (by decide) ?_
    exact g_callV (As := [.int x1, .int (0 : Int32)]) (st := []) dX12_image_24 clX12_404 c0 rfl rfl (Nat.le_of_ble_eq_true rfl) (rmSH (by decide) (by decide)) (h2 q1)
  · refine g_iconst (v := -1) dX12_image_12 (by decide) ?_
    exact g_iret dX12_image_13 rfl enSH (h3 q1)
theorem bX12_image_27 {X : pX} {Q : Option Value → pMem → Prop} {m : pMem} {a0 : Nat} {x1 : Int32} (hW : Wf m) (c0 : SH[a0]? = some (.inl 12))
    (h1 : Q (some (.int (mI m (a0 + 1) 5))) m) :
    Go X 2 mX12_image Q 27 [(0, .ref a0), (1, .int x1)] [] m := by
  refine g_aload_n 0 dX12_image_27 rfl rfl ?_
  refine g_getR dX12_image_28 fl12_9 rfl c0 (w12_1 hW c0) ?_
  refine g_iconst (v := 5) dX12_image_31 (by decide) ?_
  refine g_iald (j := 5) dX12_image_32 (s12_1 c0) (by unfold vp_in; decide) (by decide) ?_
  exact g_iret dX12_image_33 rfl enSH h1
theorem bX12_back_0 {X : pX} {Q : Option Value → pMem → Prop} {m : pMem} {a0 : Nat} {x1 : Int32} (hW : Wf m) (c0 : SH[a0]? = some (.inl 12))
    (h1 : Cl X 0 mX12_in [.long x1.toInt64, .long (0 : Int64), .long (3 : Int64)] m (fun v m2 => Go X 2 mX12_back Q 9 [(0, .ref a0), (1, .int x1)] (v.toList ++ []) m2)) :
    Go X 2 mX12_back Q 0 [(0, .ref a0), (1, .int x1)] [] m := by
  refine g_iload_n 1 dX12_back_0 rfl rfl ?_
  refine g_i2l dX12_back_1 ?_
  refine g_lconst (v := 0) dX12_back_2 (by decide) ?_
  refine g_ldc2 (v := 3) dX12_back_3 cjX12_493 ?_
  exact g_callS (As := [.long x1.toInt64, .long (0 : Int64), .long (3 : Int64)]) (st := []) dX12_back_6 clX12_128 rfl rfl (Nat.le_of_ble_eq_true rfl) (rmSH (by decide) (by decide)) h1
theorem bX12_back_9 {X : pX} {Q : Option Value → pMem → Prop} {m : pMem} {a0 : Nat} {x1 : Int32} {xs0 : Int32} (hW : Wf m) (c0 : SH[a0]? = some (.inl 12))
    (h1 : xs0 = 0 → Q (some (.int (-1 : Int32))) m)
    (h2 : ¬ (xs0 = 0) → vp_in x1 4)
    (h3 : ¬ (xs0 = 0) → ¬ (mI m (a0 + 36) x1.toNatClampNeg) = 0 → Cl X 1 mX12_carriesAll [.ref a0, .int x1, .int (1 : Int32)] m (fun v m2 => Go X 2 mX12_back Q 29 [(0, .ref a0), (1, .int x1)] (v.toList ++ []) m2))
    (h4 : ¬ (xs0 = 0) → (mI m (a0 + 36) x1.toNatClampNeg) = 0 → Q (some (.int (-1 : Int32))) m) :
    Go X 2 mX12_back Q 9 [(0, .ref a0), (1, .int x1)] [.int xs0] m := by
  refine g_if_eq 21 dX12_back_9 (by decide) (fun q1 => ?_) (fun q1 => ?_)
  · refine g_iconst (v := -1) dX12_back_21 (by decide) ?_
    exact g_iret dX12_back_22 rfl enSH (h1 q1)
  · refine g_aload_n 0 dX12_back_12 rfl rfl ?_
    refine g_getR dX12_back_13 fl12_121 rfl c0 (w12_53 hW c0) ?_
    refine g_iload_n 1 dX12_back_16 rfl rfl ?_
    refine g_zald (j := x1.toNatClampNeg) dX12_back_17 (s12_53 c0) (h2 q1) rfl ?_
    refine g_if_ne 23 dX12_back_18 (by decide) (fun q2 => ?_) (fun q2 => ?_)
    · refine g_aload_n 0 dX12_back_23 rfl rfl ?_
      refine g_iload_n 1 dX12_back_24 rfl rfl ?_
      refine g_iconst (v := 1) dX12_back_25 (by decide) ?_
      exact g_callV (As := [.int x1, .int (1 : Int32)]) (st := []) dX12_back_26 clX12_404 c0 rfl rfl (Nat.le_of_ble_eq_true rfl) (rmSH (by decide) (by decide)) (h3 q1 q2)
    · refine g_iconst (v := -1) dX12_back_21 (by decide) ?_
      exact g_iret dX12_back_22 rfl enSH (h4 q1 q2)
theorem bX12_back_29 {X : pX} {Q : Option Value → pMem → Prop} {m : pMem} {a0 : Nat} {x1 : Int32} (hW : Wf m) (c0 : SH[a0]? = some (.inl 12))
    (h1 : Q (some (.int (mI m (a0 + 1) 5))) m) :
    Go X 2 mX12_back Q 29 [(0, .ref a0), (1, .int x1)] [] m := by
  refine g_aload_n 0 dX12_back_29 rfl rfl ?_
  refine g_getR dX12_back_30 fl12_9 rfl c0 (w12_1 hW c0) ?_
  refine g_iconst (v := 5) dX12_back_33 (by decide) ?_
  refine g_iald (j := 5) dX12_back_34 (s12_1 c0) (by unfold vp_in; decide) (by decide) ?_
  exact g_iret dX12_back_35 rfl enSH h1
