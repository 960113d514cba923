theorem bX5_read_0 {X : pX} {Q : Option Value → pMem → Prop} {m : pMem} {a0 : Nat} (hW : Wf m) (c0 : SH[a0]? = some (.inl 5))
    (h1 : Cl X 1 mX4_clear [.ref (a0 + 1)] m (fun v m2 => Go X 8 mX5_read Q 7 [(0, .ref a0)] (v.toList ++ []) m2)) :
    Go X 8 mX5_read Q 0 [(0, .ref a0)] [] m := by
  refine g_aload_n 0 dX5_read_0 rfl rfl ?_
  refine g_getR dX5_read_1 fl5_12 rfl c0 (w5_1 hW c0) ?_
  exact g_callV (As := []) (st := []) dX5_read_4 clX5_22 (s5_1 c0) rfl rfl (Nat.le_of_ble_eq_true rfl) (rmSH (by decide) (by decide)) h1
theorem bX5_read_7 {X : pX} {Q : Option Value → pMem → Prop} {m : pMem} {a0 : Nat} (hW : Wf m) (c0 : SH[a0]? = some (.inl 5))
    (h1 : Cl X 0 mX9_rewind [.ref 1] m (fun v m2 => Go X 8 mX5_read Q 14 [(0, .ref a0)] (v.toList ++ []) m2)) :
    Go X 8 mX5_read Q 7 [(0, .ref a0)] [] m := by
  refine g_aload_n 0 dX5_read_7 rfl rfl ?_
  refine g_getR dX5_read_8 fl5_18 rfl c0 (w5_0 hW c0) ?_
  exact g_callV (As := []) (st := []) dX5_read_11 clX5_25 sh1 rfl rfl (Nat.le_of_ble_eq_true rfl) (rmSH (by decide) (by decide)) h1
theorem bX5_read_14 {X : pX} {Q : Option Value → pMem → Prop} {m : pMem} {a0 : Nat} (hW : Wf m) (c0 : SH[a0]? = some (.inl 5))
    (h1 : Go X 8 mX5_read Q 16 [(0, .ref a0), (1, .int (0 : Int32))] [] m) :
    Go X 8 mX5_read Q 14 [(0, .ref a0)] [] m := by
  refine g_iconst (v := 0) dX5_read_14 (by decide) ?_
  refine g_istore_n (ls2 := [(1, .int (0 : Int32)), (0, .ref a0)]) dX5_read_15 rfl (by decide) rfl ?_
  exact g_ls [1, 0] rfl h1
theorem bX5_read_16 {X : pX} {Q : Option Value → pMem → Prop} {m : pMem} {a0 : Nat} {x1 : Int32} (hW : Wf m) (c0 : SH[a0]? = some (.inl 5))
    (h1 : (40 : Int32) < x1 → Q (some (.int (0 : Int32))) m)
    (h2 : ¬ ((40 : Int32) < x1) → Cl X 7 mX5_readClause [.ref a0, .int x1] m (fun v m2 => Go X 8 mX5_read Q 27 [(0, .ref a0), (1, .int x1)] (v.toList ++ []) m2)) :
    Go X 8 mX5_read Q 16 [(0, .ref a0), (1, .int x1)] [] m := by
  refine g_iload_n 1 dX5_read_16 rfl rfl ?_
  refine g_bipush (v := 40) dX5_read_17 (by decide) ?_
  refine g_icmp_gt 87 dX5_read_19 (by decide) (fun q1 => ?_) (fun q1 => ?_)
  · refine g_iconst (v := 0) dX5_read_87 (by decide) ?_
    exact g_bret dX5_read_88 rfl (Or.inl rfl) enSH (h1 q1)
  · refine g_aload_n 0 dX5_read_22 rfl rfl ?_
    refine g_iload_n 1 dX5_read_23 rfl rfl ?_
    exact g_callV (As := [.int x1]) (st := []) dX5_read_24 clX5_30 c0 rfl rfl (Nat.le_of_ble_eq_true rfl) (rmSH (by decide) (by decide)) (h2 q1)
theorem bX5_read_27 {X : pX} {Q : Option Value → pMem → Prop} {m : pMem} {a0 : Nat} {x1 : Int32} {xs0 : Int32} (hW : Wf m) (c0 : SH[a0]? = some (.inl 5))
    (h1 : ¬ xs0 = 0 → Cl X 1 mX9_next [.ref 1] m (fun v m2 => Go X 8 mX5_read Q 39 [(0, .ref a0), (1, .int x1)] (v.toList ++ []) m2))
    (h2 : xs0 = 0 → Q (some (.int (0 : Int32))) m) :
    Go X 8 mX5_read Q 27 [(0, .ref a0), (1, .int x1)] [.int xs0] m := by
  refine g_if_ne 32 dX5_read_27 (by decide) (fun q1 => ?_) (fun q1 => ?_)
  · refine g_aload_n 0 dX5_read_32 rfl rfl ?_
    refine g_getR dX5_read_33 fl5_18 rfl c0 (w5_0 hW c0) ?_
    exact g_callV (As := []) (st := []) dX5_read_36 clX5_34 sh1 rfl rfl (Nat.le_of_ble_eq_true rfl) (rmSH (by decide) (by decide)) (h1 q1)
  · refine g_iconst (v := 0) dX5_read_30 (by decide) ?_
    exact g_bret dX5_read_31 rfl (Or.inl rfl) enSH (h2 q1)
theorem bX5_read_39 {X : pX} {Q : Option Value → pMem → Prop} {m : pMem} {a0 : Nat} {x1 : Int32} {xs0 : Int32} (hW : Wf m) (c0 : SH[a0]? = some (.inl 5))
    (h1 : ¬ xs0 = (-1 : Int32) → Cl X 2 mX9_takeSign [.ref 1, .int (59 : Int32)] m (fun v m2 => Go X 8 mX5_read Q 62 [(0, .ref a0), (1, .int x1)] (v.toList ++ []) m2))
    (h2 : xs0 = (-1 : Int32) → Q (some (.int (1 : Int32))) (uI m (a0 + 1) 0 (1 : Int32))) :
    Go X 8 mX5_read Q 39 [(0, .ref a0), (1, .int x1)] [.int xs0] m := by
  refine g_iconst (v := -1) dX5_read_39 (by decide) ?_
  refine g_icmp_ne 53 dX5_read_40 (by decide) (fun q1 => ?_) (fun q1 => ?_)
  · refine g_aload_n 0 dX5_read_53 rfl rfl ?_
    refine g_getR dX5_read_54 fl5_18 rfl c0 (w5_0 hW c0) ?_
    refine g_bipush (v := 59) dX5_read_57 (by decide) ?_
    exact g_callV (As := [.int (59 : Int32)]) (st := []) dX5_read_59 clX5_42 sh1 rfl rfl (Nat.le_of_ble_eq_true rfl) (rmSH (by decide) (by decide)) (h1 q1)
  · refine g_aload_n 0 dX5_read_43 rfl rfl ?_
    refine g_getR dX5_read_44 fl5_12 rfl c0 (w5_1 hW c0) ?_
    refine g_iconst (v := 1) dX5_read_47 (by decide) ?_
    refine g_putZ dX5_read_48 fl5_38 (fun h => by cases h) (s5_1 c0) (Or.inr rfl) ?_
    refine g_iconst (v := 1) dX5_read_51 (by decide) ?_
    exact g_bret dX5_read_52 rfl (Or.inr rfl) enSH (h2 q1)
theorem bX5_read_62 {X : pX} {Q : Option Value → pMem → Prop} {m : pMem} {a0 : Nat} {x1 : Int32} {xs0 : Int32} (hW : Wf m) (c0 : SH[a0]? = some (.inl 5))
    (h1 : ¬ xs0 = 0 → Go X 8 mX5_read Q 16 [(0, .ref a0), (1, .int (x1 + (1 : Int32)))] [] m)
    (h2 : xs0 = 0 → Cl X 0 mX9_fail [.ref 1, .int (mI m 1 2), .int (0 : Int32)] m (fun v m2 => Go X 8 mX5_read Q 80 [(0, .ref a0), (1, .int x1)] (v.toList ++ []) m2)) :
    Go X 8 mX5_read Q 62 [(0, .ref a0), (1, .int x1)] [.int xs0] m := by
  refine g_if_ne 81 dX5_read_62 (by decide) (fun q1 => ?_) (fun q1 => ?_)
  · refine g_iinc (v := x1 + (1 : Int32)) (ls2 := [(1, .int (x1 + (1 : Int32))), (0, .ref a0)]) 1 dX5_read_81 rfl rfl (by decide) rfl ?_
    refine g_goto 16 dX5_read_84 (by decide) ?_
    exact g_ls [1, 0] rfl (h1 q1)
  · refine g_aload_n 0 dX5_read_65 rfl rfl ?_
    refine g_getR dX5_read_66 fl5_18 rfl c0 (w5_0 hW c0) ?_
    refine g_aload_n 0 dX5_read_69 rfl rfl ?_
    refine g_getR dX5_read_70 fl5_18 rfl c0 (w5_0 hW c0) ?_
    refine g_getI dX5_read_73 fl5_45 sh1 ?_
    refine g_iconst (v := 0) dX5_read_76 (by decide) ?_
    exact g_callV (As := [.int (mI m 1 2), .int (0 : Int32)]) (st := []) dX5_read_77 clX5_49 sh1 rfl rfl (Nat.le_of_ble_eq_true rfl) (rmSH (by decide) (by decide)) (h2 q1)
theorem bX5_read_80 {X : pX} {Q : Option Value → pMem → Prop} {m : pMem} {a0 : Nat} {x1 : Int32} {xs0 : Int32} (hW : Wf m) (c0 : SH[a0]? = some (.inl 5))
    (h1 : xs0 = 0 ∨ xs0 = 1)
    (h2 : Q (some (.int xs0)) m) :
    Go X 8 mX5_read Q 80 [(0, .ref a0), (1, .int x1)] [.int xs0] m := by
  exact g_bret dX5_read_80 rfl h1 enSH h2
theorem bX5_readClause_0 {X : pX} {Q : Option Value → pMem → Prop} {m : pMem} {a0 : Nat} {x1 : Int32} (hW : Wf m) (c0 : SH[a0]? = some (.inl 5))
    (h1 : Cl X 1 mX9_next [.ref 1] m (fun v m2 => Go X 7 mX5_readClause Q 7 [(0, .ref a0), (1, .int x1)] (v.toList ++ []) m2)) :
    Go X 7 mX5_readClause Q 0 [(0, .ref a0), (1, .int x1)] [] m := by
  refine g_aload_n 0 dX5_readClause_0 rfl rfl ?_
  refine g_getR dX5_readClause_1 fl5_18 rfl c0 (w5_0 hW c0) ?_
  exact g_callV (As := []) (st := []) dX5_readClause_4 clX5_34 sh1 rfl rfl (Nat.le_of_ble_eq_true rfl) (rmSH (by decide) (by decide)) h1
theorem bX5_readClause_7 {X : pX} {Q : Option Value → pMem → Prop} {m : pMem} {a0 : Nat} {x1 : Int32} {xs0 : Int32} (hW : Wf m) (c0 : SH[a0]? = some (.inl 5))
    (h1 : Cl X 6 mX9_takeWordOf [.ref 1, .retAddr 1] m (fun v m2 => Go X 7 mX5_readClause Q 25 [(0, .ref a0), (1, .int x1), (2, .int (mI m 1 2))] (v.toList ++ []) m2)) :
    Go X 7 mX5_readClause Q 7 [(0, .ref a0), (1, .int x1)] [.int xs0] m := by
  refine g_pop dX5_readClause_7 rfl ?_
  refine g_aload_n 0 dX5_readClause_8 rfl rfl ?_
  refine g_getR dX5_readClause_9 fl5_18 rfl c0 (w5_0 hW c0) ?_
  refine g_getI dX5_readClause_12 fl5_45 sh1 ?_
  refine g_istore_n (ls2 := [(2, .int (mI m 1 2)), (0, .ref a0), (1, .int x1)]) dX5_readClause_15 rfl (by decide) rfl ?_
  refine g_aload_n 1 dX5_readClause_16 rfl rfl ?_
  refine g_getR dX5_readClause_17 fl5_18 rfl c0 (w5_0 hW c0) ?_
  refine g_ldcS 0 (by decide) rfl rfl dX5_readClause_20 ?_
  refine g_ls [1, 2, 0] (ls2 := [(0, .ref a0), (1, .int x1), (2, .int (mI m 1 2))]) rfl ?_
  exact g_callV (As := [.retAddr 1]) (st := []) dX5_readClause_22 clX5_55 sh1 rfl rfl (Nat.le_of_ble_eq_true rfl) (rmSH (by decide) (by decide)) h1
theorem bX5_readClause_25 {X : pX} {Q : Option Value → pMem → Prop} {m : pMem} {a0 : Nat} {x1 : Int32} {x2 : Int32} {xs0 : Int32} (hW : Wf m) (c0 : SH[a0]? = some (.inl 5))
    (h1 : ¬ xs0 = (-1 : Int32) → (40 : Int32) ≤ x1 → Cl X 0 mX9_fail [.ref 1, .int x2, .int (4 : Int32)] m (fun v m2 => Go X 7 mX5_readClause Q 85 [(0, .ref a0), (1, .int x1), (2, .int x2), (3, .int xs0)] (v.toList ++ []) m2))
    (h2 : ¬ xs0 = (-1 : Int32) → ¬ ((40 : Int32) ≤ x1) → ¬ xs0 = 0 → Go X 7 mX5_readClause Q 56 [(0, .ref a0), (1, .int x1), (2, .int x2), (3, .int xs0)] [.int (0 : Int32)] m)
    (h3 : ¬ xs0 = (-1 : Int32) → ¬ ((40 : Int32) ≤ x1) → xs0 = 0 → Go X 7 mX5_readClause Q 56 [(0, .ref a0), (1, .int x1), (2, .int x2), (3, .int xs0)] [.int (1 : Int32)] m)
    (h4 : xs0 = (-1 : Int32) → Cl X 0 mX9_fail [.ref 1, .int x2, .int (0 : Int32)] m (fun v m2 => Go X 7 mX5_readClause Q 40 [(0, .ref a0), (1, .int x1), (2, .int x2), (3, .int xs0)] (v.toList ++ []) m2)) :
    Go X 7 mX5_readClause Q 25 [(0, .ref a0), (1, .int x1), (2, .int x2)] [.int xs0] m := by
  refine g_istore_n (ls2 := [(3, .int xs0), (0, .ref a0), (1, .int x1), (2, .int x2)]) dX5_readClause_25 rfl (by decide) rfl ?_
  refine g_iload_n 0 dX5_readClause_26 rfl rfl ?_
  refine g_iconst (v := -1) dX5_readClause_27 (by decide) ?_
  refine g_icmp_ne 41 dX5_readClause_28 (by decide) (fun q1 => ?_) (fun q1 => ?_)
  · refine g_iload_n 2 dX5_readClause_41 rfl rfl ?_
    refine g_bipush (v := 40) dX5_readClause_42 (by decide) ?_
    refine g_icmp_ge 76 dX5_readClause_44 (by decide) (fun q2 => ?_) (fun q2 => ?_)
    · refine g_aload_n 1 dX5_readClause_76 rfl rfl ?_
      refine g_getR dX5_readClause_77 fl5_18 rfl c0 (w5_0 hW c0) ?_
      refine g_iload_n 3 dX5_readClause_80 rfl rfl ?_
      refine g_iconst (v := 4) dX5_readClause_81 (by decide) ?_
      refine g_ls [1, 2, 3, 0] (ls2 := [(0, .ref a0), (1, .int x1), (2, .int x2), (3, .int xs0)]) rfl ?_
      exact g_callV (As := [.int x2, .int (4 : Int32)]) (st := []) dX5_readClause_82 clX5_49 sh1 rfl rfl (Nat.le_of_ble_eq_true rfl) (rmSH (by decide) (by decide)) (h1 q1 q2)
    · refine g_iload_n 0 dX5_readClause_47 rfl rfl ?_
      refine g_if_ne 55 dX5_readClause_48 (by decide) (fun q3 => ?_) (fun q3 => ?_)
      · refine g_iconst (v := 0) dX5_readClause_55 (by decide) ?_
        exact g_ls [1, 2, 3, 0] rfl (h2 q1 q2 q3)
      · refine g_iconst (v := 1) dX5_readClause_51 (by decide) ?_
        refine g_goto 56 dX5_readClause_52 (by decide) ?_
        exact g_ls [1, 2, 3, 0] rfl (h3 q1 q2 q3)
  · refine g_aload_n 1 dX5_readClause_31 rfl rfl ?_
    refine g_getR dX5_readClause_32 fl5_18 rfl c0 (w5_0 hW c0) ?_
    refine g_iload_n 3 dX5_readClause_35 rfl rfl ?_
    refine g_iconst (v := 0) dX5_readClause_36 (by decide) ?_
    refine g_ls [1, 2, 3, 0] (ls2 := [(0, .ref a0), (1, .int x1), (2, .int x2), (3, .int xs0)]) rfl ?_
    exact g_callV (As := [.int x2, .int (0 : Int32)]) (st := []) dX5_readClause_37 clX5_49 sh1 rfl rfl (Nat.le_of_ble_eq_true rfl) (rmSH (by decide) (by decide)) (h4 q1)
theorem bX5_readClause_85 {X : pX} {Q : Option Value → pMem → Prop} {m : pMem} {a0 : Nat} {x1 : Int32} {x2 : Int32} {x3 : Int32} {xs0 : Int32} (hW : Wf m) (c0 : SH[a0]? = some (.inl 5))
    (h1 : xs0 = 0 ∨ xs0 = 1)
    (h2 : Q (some (.int xs0)) m) :
    Go X 7 mX5_readClause Q 85 [(0, .ref a0), (1, .int x1), (2, .int x2), (3, .int x3)] [.int xs0] m := by
  exact g_bret dX5_readClause_85 rfl h1 enSH h2
theorem bX5_readClause_56 {X : pX} {Q : Option Value → pMem → Prop} {m : pMem} {a0 : Nat} {x1 : Int32} {x2 : Int32} {x3 : Int32} (hW : Wf m) (c0 : SH[a0]? = some (.inl 5))
    (h1 : ¬ x1 = 0 → Go X 7 mX5_readClause Q 65 [(0, .ref a0), (2, .int x2), (3, .int x3)] [.int (0 : Int32), .int (0 : Int32)] m)
    (h2 : x1 = 0 → Go X 7 mX5_readClause Q 65 [(0, .ref a0), (2, .int x2), (3, .int x3)] [.int (1 : Int32), .int (0 : Int32)] m) :
    Go X 7 mX5_readClause Q 56 [(0, .ref a0), (1, .int x1), (2, .int x2), (3, .int x3)] [.int (0 : Int32)] m := by
  refine g_iload_n 1 dX5_readClause_56 rfl rfl ?_
  refine g_if_ne 64 dX5_readClause_57 (by decide) (fun q1 => ?_) (fun q1 => ?_)
  · refine g_iconst (v := 0) dX5_readClause_64 (by decide) ?_
    exact g_ls [0, 2, 3] rfl (h1 q1)
  · refine g_iconst (v := 1) dX5_readClause_60 (by decide) ?_
    refine g_goto 65 dX5_readClause_61 (by decide) ?_
    exact g_ls [0, 2, 3] rfl (h2 q1)
theorem bX5_readClause_56v1 {X : pX} {Q : Option Value → pMem → Prop} {m : pMem} {a0 : Nat} {x1 : Int32} {x2 : Int32} {x3 : Int32} (hW : Wf m) (c0 : SH[a0]? = some (.inl 5))
    (h1 : ¬ x1 = 0 → Go X 7 mX5_readClause Q 65 [(0, .ref a0), (2, .int x2), (3, .int x3)] [.int (0 : Int32), .int (1 : Int32)] m)
    (h2 : x1 = 0 → Go X 7 mX5_readClause Q 65 [(0, .ref a0), (2, .int x2), (3, .int x3)] [.int (1 : Int32), .int (1 : Int32)] m) :
    Go X 7 mX5_readClause Q 56 [(0, .ref a0), (1, .int x1), (2, .int x2), (3, .int x3)] [.int (1 : Int32)] m := by
  refine g_iload_n 1 dX5_readClause_56 rfl rfl ?_
  refine g_if_ne 64 dX5_readClause_57 (by decide) (fun q1 => ?_) (fun q1 => ?_)
  · refine g_iconst (v := 0) dX5_readClause_64 (by decide) ?_
    exact g_ls [0, 2, 3] rfl (h1 q1)
  · refine g_iconst (v := 1) dX5_readClause_60 (by decide) ?_
    refine g_goto 65 dX5_readClause_61 (by decide) ?_
    exact g_ls [0, 2, 3] rfl (h2 q1)
theorem bX5_readClause_40 {X : pX} {Q : Option Value → pMem → Prop} {m : pMem} {a0 : Nat} {x1 : Int32} {x2 : Int32} {x3 : Int32} {xs0 : Int32} (hW : Wf m) (c0 : SH[a0]? = some (.inl 5))
    (h1 : xs0 = 0 ∨ xs0 = 1)
    (h2 : Q (some (.int xs0)) m) :
    Go X 7 mX5_readClause Q 40 [(0, .ref a0), (1, .int x1), (2, .int x2), (3, .int x3)] [.int xs0] m := by
  exact g_bret dX5_readClause_40 rfl h1 enSH h2
theorem bX5_readClause_65 {X : pX} {Q : Option Value → pMem → Prop} {m : pMem} {a0 : Nat} {x2 : Int32} {x3 : Int32} (hW : Wf m) (c0 : SH[a0]? = some (.inl 5))
    (h1 : ¬ (0 : Int32) = (0 : Int32) → Cl X 0 mX9_fail [.ref 1, .int x2, .int (4 : Int32)] m (fun v m2 => Go X 7 mX5_readClause Q 85 [(0, .ref a0), (2, .int x2), (3, .int x3)] (v.toList ++ []) m2))
    (h2 : (0 : Int32) = (0 : Int32) → Cl X 0 mX5_isFull [.ref a0, .int x3] m (fun v m2 => Go X 7 mX5_readClause Q 73 [(0, .ref a0), (2, .int x2), (3, .int x3)] (v.toList ++ []) m2)) :
    Go X 7 mX5_readClause Q 65 [(0, .ref a0), (2, .int x2), (3, .int x3)] [.int (0 : Int32), .int (0 : Int32)] m := by
  refine g_icmp_ne 76 dX5_readClause_65 (by decide) (fun q1 => ?_) (fun q1 => ?_)
  · refine g_aload_n 0 dX5_readClause_76 rfl rfl ?_
    refine g_getR dX5_readClause_77 fl5_18 rfl c0 (w5_0 hW c0) ?_
    refine g_iload_n 1 dX5_readClause_80 rfl rfl ?_
    refine g_iconst (v := 4) dX5_readClause_81 (by decide) ?_
    exact g_callV (As := [.int x2, .int (4 : Int32)]) (st := []) dX5_readClause_82 clX5_49 sh1 rfl rfl (Nat.le_of_ble_eq_true rfl) (rmSH (by decide) (by decide)) (h1 q1)
  · refine g_aload_n 0 dX5_readClause_68 rfl rfl ?_
    refine g_iload_n 2 dX5_readClause_69 rfl rfl ?_
    exact g_callV (As := [.int x3]) (st := []) dX5_readClause_70 clX5_59 c0 rfl rfl (Nat.le_of_ble_eq_true rfl) (rmSH (by decide) (by decide)) (h2 q1)
theorem bX5_readClause_65v1 {X : pX} {Q : Option Value → pMem → Prop} {m : pMem} {a0 : Nat} {x2 : Int32} {x3 : Int32} (hW : Wf m) (c0 : SH[a0]? = some (.inl 5))
    (h1 : ¬ (0 : Int32) = (1 : Int32) → Cl X 0 mX9_fail [.ref 1, .int x2, .int (4 : Int32)] m (fun v m2 => Go X 7 mX5_readClause Q 85 [(0, .ref a0), (2, .int x2), (3, .int x3)] (v.toList ++ []) m2))
    (h2 : (0 : Int32) = (1 : Int32) → Cl X 0 mX5_isFull [.ref a0, .int x3] m (fun v m2 => Go X 7 mX5_readClause Q 73 [(0, .ref a0), (2, .int x2), (3, .int x3)] (v.toList ++ []) m2)) :
    Go X 7 mX5_readClause Q 65 [(0, .ref a0), (2, .int x2), (3, .int x3)] [.int (1 : Int32), .int (0 : Int32)] m := by
  refine g_icmp_ne 76 dX5_readClause_65 (by decide) (fun q1 => ?_) (fun q1 => ?_)
  · refine g_aload_n 0 dX5_readClause_76 rfl rfl ?_
    refine g_getR dX5_readClause_77 fl5_18 rfl c0 (w5_0 hW c0) ?_
    refine g_iload_n 1 dX5_readClause_80 rfl rfl ?_
    refine g_iconst (v := 4) dX5_readClause_81 (by decide) ?_
    exact g_callV (As := [.int x2, .int (4 : Int32)]) (st := []) dX5_readClause_82 clX5_49 sh1 rfl rfl (Nat.le_of_ble_eq_true rfl) (rmSH (by decide) (by decide)) (h1 q1)
  · refine g_aload_n 0 dX5_readClause_68 rfl rfl ?_
    refine g_iload_n 2 dX5_readClause_69 rfl rfl ?_
    exact g_callV (As := [.int x3]) (st := []) dX5_readClause_70 clX5_59 c0 rfl rfl (Nat.le_of_ble_eq_true rfl) (rmSH (by decide) (by decide)) (h2 q1)
theorem bX5_readClause_65v2 {X : pX} {Q : Option Value → pMem → Prop} {m : pMem} {a0 : Nat} {x2 : Int32} {x3 : Int32} (hW : Wf m) (c0 : SH[a0]? = some (.inl 5))
    (h1 : ¬ (1 : Int32) = (0 : Int32) → Cl X 0 mX9_fail [.ref 1, .int x2, .int (4 : Int32)] m (fun v m2 => Go X 7 mX5_readClause Q 85 [(0, .ref a0), (2, .int x2), (3, .int x3)] (v.toList ++ []) m2))
    (h2 : (1 : Int32) = (0 : Int32) → Cl X 0 mX5_isFull [.ref a0, .int x3] m (fun v m2 => Go X 7 mX5_readClause Q 73 [(0, .ref a0), (2, .int x2), (3, .int x3)] (v.toList ++ []) m2)) :
    Go X 7 mX5_readClause Q 65 [(0, .ref a0), (2, .int x2), (3, .int x3)] [.int (0 : Int32), .int (1 : Int32)] m := by
  refine g_icmp_ne 76 dX5_readClause_65 (by decide) (fun q1 => ?_) (fun q1 => ?_)
  · refine g_aload_n 0 dX5_readClause_76 rfl rfl ?_
    refine g_getR dX5_readClause_77 fl5_18 rfl c0 (w5_0 hW c0) ?_
    refine g_iload_n 1 dX5_readClause_80 rfl rfl ?_
    refine g_iconst (v := 4) dX5_readClause_81 (by decide) ?_
    exact g_callV (As := [.int x2, .int (4 : Int32)]) (st := []) dX5_readClause_82 clX5_49 sh1 rfl rfl (Nat.le_of_ble_eq_true rfl) (rmSH (by decide) (by decide)) (h1 q1)
  · refine g_aload_n 0 dX5_readClause_68 rfl rfl ?_
    refine g_iload_n 2 dX5_readClause_69 rfl rfl ?_
    exact g_callV (As := [.int x3]) (st := []) dX5_readClause_70 clX5_59 c0 rfl rfl (Nat.le_of_ble_eq_true rfl) (rmSH (by decide) (by decide)) (h2 q1)
theorem bX5_readClause_65v3 {X : pX} {Q : Option Value → pMem → Prop} {m : pMem} {a0 : Nat} {x2 : Int32} {x3 : Int32} (hW : Wf m) (c0 : SH[a0]? = some (.inl 5))
    (h1 : ¬ (1 : Int32) = (1 : Int32) → Cl X 0 mX9_fail [.ref 1, .int x2, .int (4 : Int32)] m (fun v m2 => Go X 7 mX5_readClause Q 85 [(0, .ref a0), (2, .int x2), (3, .int x3)] (v.toList ++ []) m2))
    (h2 : (1 : Int32) = (1 : Int32) → Cl X 0 mX5_isFull [.ref a0, .int x3] m (fun v m2 => Go X 7 mX5_readClause Q 73 [(0, .ref a0), (2, .int x2), (3, .int x3)] (v.toList ++ []) m2)) :
    Go X 7 mX5_readClause Q 65 [(0, .ref a0), (2, .int x2), (3, .int x3)] [.int (1 : Int32), .int (1 : Int32)] m := by
  refine g_icmp_ne 76 dX5_readClause_65 (by decide) (fun q1 => ?_) (fun q1 => ?_)
  · refine g_aload_n 0 dX5_readClause_76 rfl rfl ?_
    refine g_getR dX5_readClause_77 fl5_18 rfl c0 (w5_0 hW c0) ?_
    refine g_iload_n 1 dX5_readClause_80 rfl rfl ?_
    refine g_iconst (v := 4) dX5_readClause_81 (by decide) ?_
    exact g_callV (As := [.int x2, .int (4 : Int32)]) (st := []) dX5_readClause_82 clX5_49 sh1 rfl rfl (Nat.le_of_ble_eq_true rfl) (rmSH (by decide) (by decide)) (h1 q1)
  · refine g_aload_n 0 dX5_readClause_68 rfl rfl ?_
    refine g_iload_n 2 dX5_readClause_69 rfl rfl ?_
    exact g_callV (As := [.int x3]) (st := []) dX5_readClause_70 clX5_59 c0 rfl rfl (Nat.le_of_ble_eq_true rfl) (rmSH (by decide) (by decide)) (h2 q1)
theorem bX5_readClause_85v1 {X : pX} {Q : Option Value → pMem → Prop} {m : pMem} {a0 : Nat} {x2 : Int32} {x3 : Int32} {xs0 : Int32} (hW : Wf m) (c0 : SH[a0]? = some (.inl 5))
    (h1 : xs0 = 0 ∨ xs0 = 1)
    (h2 : Q (some (.int xs0)) m) :
    Go X 7 mX5_readClause Q 85 [(0, .ref a0), (2, .int x2), (3, .int x3)] [.int xs0] m := by
  exact g_bret dX5_readClause_85 rfl h1 enSH h2
theorem bX5_readClause_73 {X : pX} {Q : Option Value → pMem → Prop} {m : pMem} {a0 : Nat} {x2 : Int32} {x3 : Int32} {xs0 : Int32} (hW : Wf m) (c0 : SH[a0]? = some (.inl 5))
    (h1 : xs0 = 0 → x3 = 0 → Cl X 2 mX5_readHands [.ref a0] m (fun v m2 => Go X 7 mX5_readClause Q 120 [(0, .ref a0), (2, .int x2), (3, .int x3)] (v.toList ++ []) m2))
    (h2 : xs0 = 0 → ¬ x3 = 0 → x3 = 1 → Cl X 2 mX5_readStage [.ref a0] m (fun v m2 => Go X 7 mX5_readClause Q 125 [(0, .ref a0), (2, .int x2), (3, .int x3)] (v.toList ++ []) m2))
    (h3 : xs0 = 0 → ¬ x3 = 0 → ¬ x3 = 1 → x3 = 2 → Cl X 2 mX5_readPerson [.ref a0] m (fun v m2 => Go X 7 mX5_readClause Q 130 [(0, .ref a0), (2, .int x2), (3, .int x3)] (v.toList ++ []) m2))
    (h4 : xs0 = 0 → ¬ x3 = 0 → ¬ x3 = 1 → ¬ x3 = 2 → x3 = 3 → Cl X 2 mX5_readThing [.ref a0] m (fun v m2 => Go X 7 mX5_readClause Q 135 [(0, .ref a0), (2, .int x2), (3, .int x3)] (v.toList ++ []) m2))
    (h5 : xs0 = 0 → ¬ x3 = 0 → ¬ x3 = 1 → ¬ x3 = 2 → ¬ x3 = 3 → Cl X 2 mX5_readHas [.ref a0] m (fun v m2 => Go X 7 mX5_readClause Q 140 [(0, .ref a0), (2, .int x2), (3, .int x3)] (v.toList ++ []) m2))
    (h6 : ¬ (xs0 = 0) → Cl X 0 mX9_fail [.ref 1, .int x2, .int (4 : Int32)] m (fun v m2 => Go X 7 mX5_readClause Q 85 [(0, .ref a0), (2, .int x2), (3, .int x3)] (v.toList ++ []) m2)) :
    Go X 7 mX5_readClause Q 73 [(0, .ref a0), (2, .int x2), (3, .int x3)] [.int xs0] m := by
  refine g_if_eq 86 dX5_readClause_73 (by decide) (fun q1 => ?_) (fun q1 => ?_)
  · refine g_iload_n 2 dX5_readClause_86 rfl rfl ?_
    by_cases q2 : x3 = 0
    · refine g_tabIn 116 dX5_readClause_87 (by rw [q2]; decide) (by rw [q2]; decide) (by rw [q2]; rfl) (by decide) ?_
      refine g_aload_n 0 dX5_readClause_116 rfl rfl ?_
      exact g_callV (As := []) (st := []) dX5_readClause_117 clX5_62 c0 rfl rfl (Nat.le_of_ble_eq_true rfl) (rmSH (by decide) (by decide)) (h1 q1 q2)
    by_cases q3 : x3 = 1
    · refine g_tabIn 121 dX5_readClause_87 (by rw [q3]; decide) (by rw [q3]; decide) (by rw [q3]; rfl) (by decide) ?_
      refine g_aload_n 0 dX5_readClause_121 rfl rfl ?_
      exact g_callV (As := []) (st := []) dX5_readClause_122 clX5_66 c0 rfl rfl (Nat.le_of_ble_eq_true rfl) (rmSH (by decide) (by decide)) (h2 q1 q2 q3)
    by_cases q4 : x3 = 2
    · refine g_tabIn 126 dX5_readClause_87 (by rw [q4]; decide) (by rw [q4]; decide) (by rw [q4]; rfl) (by decide) ?_
      refine g_aload_n 0 dX5_readClause_126 rfl rfl ?_
      exact g_callV (As := []) (st := []) dX5_readClause_127 clX5_69 c0 rfl rfl (Nat.le_of_ble_eq_true rfl) (rmSH (by decide) (by decide)) (h3 q1 q2 q3 q4)
    by_cases q5 : x3 = 3
    · refine g_tabIn 131 dX5_readClause_87 (by rw [q5]; decide) (by rw [q5]; decide) (by rw [q5]; rfl) (by decide) ?_
      refine g_aload_n 0 dX5_readClause_131 rfl rfl ?_
      exact g_callV (As := []) (st := []) dX5_readClause_132 clX5_72 c0 rfl rfl (Nat.le_of_ble_eq_true rfl) (rmSH (by decide) (by decide)) (h4 q1 q2 q3 q4 q5)
    refine g_tabOut 136 dX5_readClause_87 (p_tabD (fun k hk1 hk2 => ?_)) (by decide) ?_
    · have hk : k = 0 ∨ k = 1 ∨ k = 2 ∨ k = 3 := by omega
      rcases hk with rfl | rfl | rfl | rfl
      · exact q2
      · exact q3
      · exact q4
      · exact q5
    refine g_aload_n 0 dX5_readClause_136 rfl rfl ?_
    exact g_callV (As := []) (st := []) dX5_readClause_137 clX5_75 c0 rfl rfl (Nat.le_of_ble_eq_true rfl) (rmSH (by decide) (by decide)) (h5 q1 q2 q3 q4 q5)
  · refine g_aload_n 0 dX5_readClause_76 rfl rfl ?_
    refine g_getR dX5_readClause_77 fl5_18 rfl c0 (w5_0 hW c0) ?_
    refine g_iload_n 1 dX5_readClause_80 rfl rfl ?_
    refine g_iconst (v := 4) dX5_readClause_81 (by decide) ?_
    exact g_callV (As := [.int x2, .int (4 : Int32)]) (st := []) dX5_readClause_82 clX5_49 sh1 rfl rfl (Nat.le_of_ble_eq_true rfl) (rmSH (by decide) (by decide)) (h6 q1)
theorem bX5_readClause_120 {X : pX} {Q : Option Value → pMem → Prop} {m : pMem} {a0 : Nat} {x2 : Int32} {x3 : Int32} {xs0 : Int32} (hW : Wf m) (c0 : SH[a0]? = some (.inl 5))
    (h1 : xs0 = 0 ∨ xs0 = 1)
    (h2 : Q (some (.int xs0)) m) :
    Go X 7 mX5_readClause Q 120 [(0, .ref a0), (2, .int x2), (3, .int x3)] [.int xs0] m := by
  exact g_bret dX5_readClause_120 rfl h1 enSH h2
theorem bX5_readClause_125 {X : pX} {Q : Option Value → pMem → Prop} {m : pMem} {a0 : Nat} {x2 : Int32} {x3 : Int32} {xs0 : Int32} (hW : Wf m) (c0 : SH[a0]? = some (.inl 5))
    (h1 : xs0 = 0 ∨ xs0 = 1)
    (h2 : Q (some (.int xs0)) m) :
    Go X 7 mX5_readClause Q 125 [(0, .ref a0), (2, .int x2), (3, .int x3)] [.int xs0] m := by
  exact g_bret dX5_readClause_125 rfl h1 enSH h2
theorem bX5_readClause_130 {X : pX} {Q : Option Value → pMem → Prop} {m : pMem} {a0 : Nat} {x2 : Int32} {x3 : Int32} {xs0 : Int32} (hW : Wf m) (c0 : SH[a0]? = some (.inl 5))
    (h1 : xs0 = 0 ∨ xs0 = 1)
    (h2 : Q (some (.int xs0)) m) :
    Go X 7 mX5_readClause Q 130 [(0, .ref a0), (2, .int x2), (3, .int x3)] [.int xs0] m := by
  exact g_bret dX5_readClause_130 rfl h1 enSH h2
theorem bX5_readClause_135 {X : pX} {Q : Option Value → pMem → Prop} {m : pMem} {a0 : Nat} {x2 : Int32} {x3 : Int32} {xs0 : Int32} (hW : Wf m) (c0 : SH[a0]? = some (.inl 5))
    (h1 : xs0 = 0 ∨ xs0 = 1)
    (h2 : Q (some (.int xs0)) m) :
    Go X 7 mX5_readClause Q 135 [(0, .ref a0), (2, .int x2), (3, .int x3)] [.int xs0] m := by
  exact g_bret dX5_readClause_135 rfl h1 enSH h2
theorem bX5_readClause_140 {X : pX} {Q : Option Value → pMem → Prop} {m : pMem} {a0 : Nat} {x2 : Int32} {x3 : Int32} {xs0 : Int32} (hW : Wf m) (c0 : SH[a0]? = some (.inl 5))
    (h1 : xs0 = 0 ∨ xs0 = 1)
    (h2 : Q (some (.int xs0)) m) :
    Go X 7 mX5_readClause Q 140 [(0, .ref a0), (2, .int x2), (3, .int x3)] [.int xs0] m := by
  exact g_bret dX5_readClause_140 rfl h1 enSH h2
theorem bX5_isFull_0 {X : pX} {Q : Option Value → pMem → Prop} {m : pMem} {a0 : Nat} {x1 : Int32} (hW : Wf m) (c0 : SH[a0]? = some (.inl 5))
    (h1 : ¬ x1 = (1 : Int32) → Go X 0 mX5_isFull Q 17 [(0, .ref a0), (1, .int x1)] [] m)
    (h2 : x1 = (1 : Int32) → (8 : Int32) ≤ (mI m (a0 + 1) 2) → Q (some (.int (1 : Int32))) m)
    (h3 : x1 = (1 : Int32) → ¬ ((8 : Int32) ≤ (mI m (a0 + 1) 2)) → Go X 0 mX5_isFull Q 17 [(0, .ref a0), (1, .int x1)] [] m) :
    Go X 0 mX5_isFull Q 0 [(0, .ref a0), (1, .int x1)] [] m := by
  refine g_iload_n 1 dX5_isFull_0 rfl rfl ?_
  refine g_iconst (v := 1) dX5_isFull_1 (by decide) ?_
  refine g_icmp_ne 17 dX5_isFull_2 (by decide) (fun q1 => ?_) (fun q1 => ?_)
  · exact g_ls [0, 1] rfl (h1 q1)
  · refine g_aload_n 0 dX5_isFull_5 rfl rfl ?_
    refine g_getR dX5_isFull_6 fl5_12 rfl c0 (w5_1 hW c0) ?_
    refine g_getI dX5_isFull_9 fl5_78 (s5_1 c0) ?_
    refine g_bipush (v := 8) dX5_isFull_12 (by decide) ?_
    refine g_icmp_ge 50 dX5_isFull_14 (by decide) (fun q2 => ?_) (fun q2 => ?_)
    · refine g_iconst (v := 1) dX5_isFull_50 (by decide) ?_
      refine g_goto 55 dX5_isFull_51 (by decide) ?_
      exact g_bret dX5_isFull_55 rfl (Or.inr rfl) enSH (h2 q1 q2)
    · exact g_ls [0, 1] rfl (h3 q1 q2)
theorem bX5_isFull_17 {X : pX} {Q : Option Value → pMem → Prop} {m : pMem} {a0 : Nat} {x1 : Int32} (hW : Wf m) (c0 : SH[a0]? = some (.inl 5))
    (h1 : ¬ x1 = (2 : Int32) → Go X 0 mX5_isFull Q 33 [(0, .ref a0), (1, .int x1)] [] m)
    (h2 : x1 = (2 : Int32) → (4 : Int32) ≤ (mI m (a0 + 1) 3) → Q (some (.int (1 : Int32))) m)
    (h3 : x1 = (2 : Int32) → ¬ ((4 : Int32) ≤ (mI m (a0 + 1) 3)) → Go X 0 mX5_isFull Q 33 [(0, .ref a0), (1, .int x1)] [] m) :
    Go X 0 mX5_isFull Q 17 [(0, .ref a0), (1, .int x1)] [] m := by
  refine g_iload_n 1 dX5_isFull_17 rfl rfl ?_
  refine g_iconst (v := 2) dX5_isFull_18 (by decide) ?_
  refine g_icmp_ne 33 dX5_isFull_19 (by decide) (fun q1 => ?_) (fun q1 => ?_)
  · exact g_ls [0, 1] rfl (h1 q1)
  · refine g_aload_n 0 dX5_isFull_22 rfl rfl ?_
    refine g_getR dX5_isFull_23 fl5_12 rfl c0 (w5_1 hW c0) ?_
    refine g_getI dX5_isFull_26 fl5_81 (s5_1 c0) ?_
    refine g_iconst (v := 4) dX5_isFull_29 (by decide) ?_
    refine g_icmp_ge 50 dX5_isFull_30 (by decide) (fun q2 => ?_) (fun q2 => ?_)
    · refine g_iconst (v := 1) dX5_isFull_50 (by decide) ?_
      refine g_goto 55 dX5_isFull_51 (by decide) ?_
      exact g_bret dX5_isFull_55 rfl (Or.inr rfl) enSH (h2 q1 q2)
    · exact g_ls [0, 1] rfl (h3 q1 q2)
theorem bX5_isFull_33 {X : pX} {Q : Option Value → pMem → Prop} {m : pMem} {a0 : Nat} {x1 : Int32} (hW : Wf m) (c0 : SH[a0]? = some (.inl 5))
    (h1 : ¬ x1 = (3 : Int32) → Q (some (.int (0 : Int32))) m)
    (h2 : x1 = (3 : Int32) → (mI m (a0 + 1) 4) < (6 : Int32) → Q (some (.int (0 : Int32))) m)
    (h3 : x1 = (3 : Int32) → ¬ ((mI m (a0 + 1) 4) < (6 : Int32)) → Q (some (.int (1 : Int32))) m) :
    Go X 0 mX5_isFull Q 33 [(0, .ref a0), (1, .int x1)] [] m := by
  refine g_iload_n 1 dX5_isFull_33 rfl rfl ?_
  refine g_iconst (v := 3) dX5_isFull_34 (by decide) ?_
  refine g_icmp_ne 54 dX5_isFull_35 (by decide) (fun q1 => ?_) (fun q1 => ?_)
  · refine g_iconst (v := 0) dX5_isFull_54 (by decide) ?_
    exact g_bret dX5_isFull_55 rfl (Or.inl rfl) enSH (h1 q1)
  · refine g_aload_n 0 dX5_isFull_38 rfl rfl ?_
    refine g_getR dX5_isFull_39 fl5_12 rfl c0 (w5_1 hW c0) ?_
    refine g_getI dX5_isFull_42 fl5_84 (s5_1 c0) ?_
    refine g_bipush (v := 6) dX5_isFull_45 (by decide) ?_
    refine g_icmp_lt 54 dX5_isFull_47 (by decide) (fun q2 => ?_) (fun q2 => ?_)
    · refine g_iconst (v := 0) dX5_isFull_54 (by decide) ?_
      exact g_bret dX5_isFull_55 rfl (Or.inl rfl) enSH (h2 q1 q2)
    · refine g_iconst (v := 1) dX5_isFull_50 (by decide) ?_
      refine g_goto 55 dX5_isFull_51 (by decide) ?_
      exact g_bret dX5_isFull_55 rfl (Or.inr rfl) enSH (h3 q1 q2)
theorem bX5_readHands_0 {X : pX} {Q : Option Value → pMem → Prop} {m : pMem} {a0 : Nat} (hW : Wf m) (c0 : SH[a0]? = some (.inl 5))
    (h1 : Cl X 1 mX9_next [.ref 1] m (fun v m2 => Go X 2 mX5_readHands Q 7 [(0, .ref a0)] (v.toList ++ []) m2)) :
    Go X 2 mX5_readHands Q 0 [(0, .ref a0)] [] m := by
  refine g_aload_n 0 dX5_readHands_0 rfl rfl ?_
  refine g_getR dX5_readHands_1 fl5_18 rfl c0 (w5_0 hW c0) ?_
  exact g_callV (As := []) (st := []) dX5_readHands_4 clX5_34 sh1 rfl rfl (Nat.le_of_ble_eq_true rfl) (rmSH (by decide) (by decide)) h1
theorem bX5_readHands_7 {X : pX} {Q : Option Value → pMem → Prop} {m : pMem} {a0 : Nat} {xs0 : Int32} (hW : Wf m) (c0 : SH[a0]? = some (.inl 5))
    (h1 : Cl X 1 mX9_number [.ref 1, .int (0 : Int32), .int (4 : Int32)] m (fun v m2 => Go X 2 mX5_readHands Q 21 [(0, .ref a0)] (v.toList ++ [.ref (a0 + 1)]) m2)) :
    Go X 2 mX5_readHands Q 7 [(0, .ref a0)] [.int xs0] m := by
  refine g_pop dX5_readHands_7 rfl ?_
  refine g_aload_n 0 dX5_readHands_8 rfl rfl ?_
  refine g_getR dX5_readHands_9 fl5_12 rfl c0 (w5_1 hW c0) ?_
  refine g_aload_n 0 dX5_readHands_12 rfl rfl ?_
  refine g_getR dX5_readHands_13 fl5_18 rfl c0 (w5_0 hW c0) ?_
  refine g_iconst (v := 0) dX5_readHands_16 (by decide) ?_
  refine g_iconst (v := 4) dX5_readHands_17 (by decide) ?_
  exact g_callV (As := [.int (0 : Int32), .int (4 : Int32)]) (st := [.ref (a0 + 1)]) dX5_readHands_18 clX5_87 sh1 rfl rfl (Nat.le_of_ble_eq_true rfl) (rmSH (by decide) (by decide)) h1
theorem bX5_readHands_21 {X : pX} {Q : Option Value → pMem → Prop} {m : pMem} {a0 : Nat} {xs0 : Int32} {as1 : Nat} (hW : Wf m) (c0 : SH[a0]? = some (.inl 5)) (cs1 : SH[as1]? = some (.inl 4))
    (h1 : (mI (uI m as1 1 xs0) (a0 + 1) 1) = (-1 : Int32) → Q (some (.int (0 : Int32))) (uI m as1 1 xs0))
    (h2 : ¬ ((mI (uI m as1 1 xs0) (a0 + 1) 1) = (-1 : Int32)) → Q (some (.int (1 : Int32))) (uI m as1 1 xs0)) :
    Go X 2 mX5_readHands Q 21 [(0, .ref a0)] [.int xs0, .ref as1] m := by
  refine g_putI dX5_readHands_21 fl5_91 (fun h => by cases h) cs1 ?_
  refine g_aload_n 0 dX5_readHands_24 rfl rfl ?_
  refine g_getR dX5_readHands_25 fl5_12 rfl c0 (w5_1 hW c0) ?_
  refine g_getI dX5_readHands_28 fl5_91 (s5_1 c0) ?_
  refine g_iconst (v := -1) dX5_readHands_31 (by decide) ?_
  refine g_icmp_eq 39 dX5_readHands_32 (by decide) (fun q1 => ?_) (fun q1 => ?_)
  · refine g_iconst (v := 0) dX5_readHands_39 (by decide) ?_
    exact g_bret dX5_readHands_40 rfl (Or.inl rfl) enSH (h1 q1)
  · refine g_iconst (v := 1) dX5_readHands_35 (by decide) ?_
    refine g_goto 40 dX5_readHands_36 (by decide) ?_
    exact g_bret dX5_readHands_40 rfl (Or.inr rfl) enSH (h2 q1)
theorem bX5_readStage_0 {X : pX} {Q : Option Value → pMem → Prop} {m : pMem} {a0 : Nat} (hW : Wf m) (c0 : SH[a0]? = some (.inl 5))
    (h1 : Cl X 1 mX9_next [.ref 1] m (fun v m2 => Go X 2 mX5_readStage Q 7 [(0, .ref a0)] (v.toList ++ []) m2)) :
    Go X 2 mX5_readStage Q 0 [(0, .ref a0)] [] m := by
  refine g_aload_n 0 dX5_readStage_0 rfl rfl ?_
  refine g_getR dX5_readStage_1 fl5_18 rfl c0 (w5_0 hW c0) ?_
  exact g_callV (As := []) (st := []) dX5_readStage_4 clX5_34 sh1 rfl rfl (Nat.le_of_ble_eq_true rfl) (rmSH (by decide) (by decide)) h1
theorem bX5_readStage_7 {X : pX} {Q : Option Value → pMem → Prop} {m : pMem} {a0 : Nat} {xs0 : Int32} (hW : Wf m) (c0 : SH[a0]? = some (.inl 5))
    (h1 : Cl X 1 mX9_number [.ref 1, .int (1 : Int32), .int (60 : Int32)] m (fun v m2 => Go X 2 mX5_readStage Q 18 [(0, .ref a0)] (v.toList ++ []) m2)) :
    Go X 2 mX5_readStage Q 7 [(0, .ref a0)] [.int xs0] m := by
  refine g_pop dX5_readStage_7 rfl ?_
  refine g_aload_n 0 dX5_readStage_8 rfl rfl ?_
  refine g_getR dX5_readStage_9 fl5_18 rfl c0 (w5_0 hW c0) ?_
  refine g_iconst (v := 1) dX5_readStage_12 (by decide) ?_
  refine g_bipush (v := 60) dX5_readStage_13 (by decide) ?_
  exact g_callV (As := [.int (1 : Int32), .int (60 : Int32)]) (st := []) dX5_readStage_15 clX5_87 sh1 rfl rfl (Nat.le_of_ble_eq_true rfl) (rmSH (by decide) (by decide)) h1
theorem bX5_readStage_18 {X : pX} {Q : Option Value → pMem → Prop} {m : pMem} {a0 : Nat} {xs0 : Int32} (hW : Wf m) (c0 : SH[a0]? = some (.inl 5))
    (h1 : ¬ xs0 = (-1 : Int32) → vp_in (mI m (a0 + 1) 2) 8)
    (h2 : ¬ xs0 = (-1 : Int32) → Q (some (.int (1 : Int32))) (uI (uI m (a0 + 2) ((mI m (a0 + 1) 2).toNatClampNeg) xs0) (a0 + 1) 2 ((mI (uI m (a0 + 2) ((mI m (a0 + 1) 2).toNatClampNeg) xs0) (a0 + 1) 2) + (1 : Int32))))
    (h3 : xs0 = (-1 : Int32) → Q (some (.int (0 : Int32))) m) :
    Go X 2 mX5_readStage Q 18 [(0, .ref a0)] [.int xs0] m := by
  refine g_istore_n (ls2 := [(1, .int xs0), (0, .ref a0)]) dX5_readStage_18 rfl (by decide) rfl ?_
  refine g_iload_n 0 dX5_readStage_19 rfl rfl ?_
  refine g_iconst (v := -1) dX5_readStage_20 (by decide) ?_
  refine g_icmp_ne 26 dX5_readStage_21 (by decide) (fun q1 => ?_) (fun q1 => ?_)
  · refine g_aload_n 1 dX5_readStage_26 rfl rfl ?_
    refine g_getR dX5_readStage_27 fl5_12 rfl c0 (w5_1 hW c0) ?_
    refine g_getR dX5_readStage_30 fl5_94 rfl (s5_1 c0) (w4_5 hW (s5_1 c0)) ?_
    refine g_aload_n 1 dX5_readStage_33 rfl rfl ?_
    refine g_getR dX5_readStage_34 fl5_12 rfl c0 (w5_1 hW c0) ?_
    refine g_getI dX5_readStage_37 fl5_78 (s5_1 c0) ?_
    refine g_iload_n 0 dX5_readStage_40 rfl rfl ?_
    refine g_iast (j := (mI m (a0 + 1) 2).toNatClampNeg) dX5_readStage_41 (s4_5 (s5_1 c0)) (h1 q1) rfl ?_
    refine g_aload_n 1 dX5_readStage_42 rfl rfl ?_
    refine g_getR dX5_readStage_43 fl5_12 rfl c0 (w5_1 hW c0) ?_
    refine g_dup dX5_readStage_46 rfl ?_
    refine g_getI dX5_readStage_47 fl5_78 (s5_1 c0) ?_
    refine g_iconst (v := 1) dX5_readStage_50 (by decide) ?_
    refine g_iadd dX5_readStage_51 ?_
    refine g_putI dX5_readStage_52 fl5_78 (fun h => by cases h) (s5_1 c0) ?_
    refine g_iconst (v := 1) dX5_readStage_55 (by decide) ?_
    exact g_bret dX5_readStage_56 rfl (Or.inr rfl) enSH (h2 q1)
  · refine g_iconst (v := 0) dX5_readStage_24 (by decide) ?_
    exact g_bret dX5_readStage_25 rfl (Or.inl rfl) enSH (h3 q1)
theorem bX5_readPerson_0 {X : pX} {Q : Option Value → pMem → Prop} {m : pMem} {a0 : Nat} (hW : Wf m) (c0 : SH[a0]? = some (.inl 5))
    (h1 : Cl X 1 mX9_next [.ref 1] m (fun v m2 => Go X 2 mX5_readPerson Q 7 [(0, .ref a0)] (v.toList ++ []) m2)) :
    Go X 2 mX5_readPerson Q 0 [(0, .ref a0)] [] m := by
  refine g_aload_n 0 dX5_readPerson_0 rfl rfl ?_
  refine g_getR dX5_readPerson_1 fl5_18 rfl c0 (w5_0 hW c0) ?_
  exact g_callV (As := []) (st := []) dX5_readPerson_4 clX5_34 sh1 rfl rfl (Nat.le_of_ble_eq_true rfl) (rmSH (by decide) (by decide)) h1
theorem bX5_readPerson_7 {X : pX} {Q : Option Value → pMem → Prop} {m : pMem} {a0 : Nat} {xs0 : Int32} (hW : Wf m) (c0 : SH[a0]? = some (.inl 5))
    (h1 : Cl X 1 mX9_number [.ref 1, .int (1 : Int32), .int (20 : Int32)] m (fun v m2 => Go X 2 mX5_readPerson Q 18 [(0, .ref a0)] (v.toList ++ []) m2)) :
    Go X 2 mX5_readPerson Q 7 [(0, .ref a0)] [.int xs0] m := by
  refine g_pop dX5_readPerson_7 rfl ?_
  refine g_aload_n 0 dX5_readPerson_8 rfl rfl ?_
  refine g_getR dX5_readPerson_9 fl5_18 rfl c0 (w5_0 hW c0) ?_
  refine g_iconst (v := 1) dX5_readPerson_12 (by decide) ?_
  refine g_bipush (v := 20) dX5_readPerson_13 (by decide) ?_
  exact g_callV (As := [.int (1 : Int32), .int (20 : Int32)]) (st := []) dX5_readPerson_15 clX5_87 sh1 rfl rfl (Nat.le_of_ble_eq_true rfl) (rmSH (by decide) (by decide)) h1
theorem bX5_readPerson_18 {X : pX} {Q : Option Value → pMem → Prop} {m : pMem} {a0 : Nat} {xs0 : Int32} (hW : Wf m) (c0 : SH[a0]? = some (.inl 5))
    (h1 : ¬ xs0 = (-1 : Int32) → vp_in (mI m (a0 + 1) 3) 4)
    (h2 : ¬ xs0 = (-1 : Int32) → Q (some (.int (1 : Int32))) (uI (uI m (a0 + 3) ((mI m (a0 + 1) 3).toNatClampNeg) xs0) (a0 + 1) 3 ((mI (uI m (a0 + 3) ((mI m (a0 + 1) 3).toNatClampNeg) xs0) (a0 + 1) 3) + (1 : Int32))))
    (h3 : xs0 = (-1 : Int32) → Q (some (.int (0 : Int32))) m) :
    Go X 2 mX5_readPerson Q 18 [(0, .ref a0)] [.int xs0] m := by
  refine g_istore_n (ls2 := [(1, .int xs0), (0, .ref a0)]) dX5_readPerson_18 rfl (by decide) rfl ?_
  refine g_iload_n 0 dX5_readPerson_19 rfl rfl ?_
  refine g_iconst (v := -1) dX5_readPerson_20 (by decide) ?_
  refine g_icmp_ne 26 dX5_readPerson_21 (by decide) (fun q1 => ?_) (fun q1 => ?_)
  · refine g_aload_n 1 dX5_readPerson_26 rfl rfl ?_
    refine g_getR dX5_readPerson_27 fl5_12 rfl c0 (w5_1 hW c0) ?_
    refine g_getR dX5_readPerson_30 fl5_98 rfl (s5_1 c0) (w4_6 hW (s5_1 c0)) ?_
    refine g_aload_n 1 dX5_readPerson_33 rfl rfl ?_
    refine g_getR dX5_readPerson_34 fl5_12 rfl c0 (w5_1 hW c0) ?_
    refine g_getI dX5_readPerson_37 fl5_81 (s5_1 c0) ?_
    refine g_iload_n 0 dX5_readPerson_40 rfl rfl ?_
    refine g_iast (j := (mI m (a0 + 1) 3).toNatClampNeg) dX5_readPerson_41 (s4_6 (s5_1 c0)) (h1 q1) rfl ?_
    refine g_aload_n 1 dX5_readPerson_42 rfl rfl ?_
    refine g_getR dX5_readPerson_43 fl5_12 rfl c0 (w5_1 hW c0) ?_
    refine g_dup dX5_readPerson_46 rfl ?_
    refine g_getI dX5_readPerson_47 fl5_81 (s5_1 c0) ?_
    refine g_iconst (v := 1) dX5_readPerson_50 (by decide) ?_
    refine g_iadd dX5_readPerson_51 ?_
    refine g_putI dX5_readPerson_52 fl5_81 (fun h => by cases h) (s5_1 c0) ?_
    refine g_iconst (v := 1) dX5_readPerson_55 (by decide) ?_
    exact g_bret dX5_readPerson_56 rfl (Or.inr rfl) enSH (h2 q1)
  · refine g_iconst (v := 0) dX5_readPerson_24 (by decide) ?_
    exact g_bret dX5_readPerson_25 rfl (Or.inl rfl) enSH (h3 q1)
theorem bX5_readThing_0 {X : pX} {Q : Option Value → pMem → Prop} {m : pMem} {a0 : Nat} (hW : Wf m) (c0 : SH[a0]? = some (.inl 5))
    (h1 : Cl X 1 mX9_next [.ref 1] m (fun v m2 => Go X 2 mX5_readThing Q 7 [(0, .ref a0)] (v.toList ++ []) m2)) :
    Go X 2 mX5_readThing Q 0 [(0, .ref a0)] [] m := by
  refine g_aload_n 0 dX5_readThing_0 rfl rfl ?_
  refine g_getR dX5_readThing_1 fl5_18 rfl c0 (w5_0 hW c0) ?_
  exact g_callV (As := []) (st := []) dX5_readThing_4 clX5_34 sh1 rfl rfl (Nat.le_of_ble_eq_true rfl) (rmSH (by decide) (by decide)) h1
theorem bX5_readThing_7 {X : pX} {Q : Option Value → pMem → Prop} {m : pMem} {a0 : Nat} {xs0 : Int32} (hW : Wf m) (c0 : SH[a0]? = some (.inl 5))
    (h1 : Cl X 1 mX9_number [.ref 1, .int (0 : Int32), .int (9 : Int32)] m (fun v m2 => Go X 2 mX5_readThing Q 18 [(0, .ref a0)] (v.toList ++ []) m2)) :
    Go X 2 mX5_readThing Q 7 [(0, .ref a0)] [.int xs0] m := by
  refine g_pop dX5_readThing_7 rfl ?_
  refine g_aload_n 0 dX5_readThing_8 rfl rfl ?_
  refine g_getR dX5_readThing_9 fl5_18 rfl c0 (w5_0 hW c0) ?_
  refine g_iconst (v := 0) dX5_readThing_12 (by decide) ?_
  refine g_bipush (v := 9) dX5_readThing_13 (by decide) ?_
  exact g_callV (As := [.int (0 : Int32), .int (9 : Int32)]) (st := []) dX5_readThing_15 clX5_87 sh1 rfl rfl (Nat.le_of_ble_eq_true rfl) (rmSH (by decide) (by decide)) h1
theorem bX5_readThing_18 {X : pX} {Q : Option Value → pMem → Prop} {m : pMem} {a0 : Nat} {xs0 : Int32} (hW : Wf m) (c0 : SH[a0]? = some (.inl 5))
    (h1 : ¬ xs0 = (-1 : Int32) → Cl X 1 mX9_next [.ref 1] m (fun v m2 => Go X 2 mX5_readThing Q 33 [(0, .ref a0), (1, .int xs0)] (v.toList ++ []) m2))
    (h2 : xs0 = (-1 : Int32) → Q (some (.int (0 : Int32))) m) :
    Go X 2 mX5_readThing Q 18 [(0, .ref a0)] [.int xs0] m := by
  refine g_istore_n (ls2 := [(1, .int xs0), (0, .ref a0)]) dX5_readThing_18 rfl (by decide) rfl ?_
  refine g_iload_n 0 dX5_readThing_19 rfl rfl ?_
  refine g_iconst (v := -1) dX5_readThing_20 (by decide) ?_
  refine g_icmp_ne 26 dX5_readThing_21 (by decide) (fun q1 => ?_) (fun q1 => ?_)
  · refine g_aload_n 1 dX5_readThing_26 rfl rfl ?_
    refine g_getR dX5_readThing_27 fl5_18 rfl c0 (w5_0 hW c0) ?_
    refine g_ls [1, 0] (ls2 := [(0, .ref a0), (1, .int xs0)]) rfl ?_
    exact g_callV (As := []) (st := []) dX5_readThing_30 clX5_34 sh1 rfl rfl (Nat.le_of_ble_eq_true rfl) (rmSH (by decide) (by decide)) (h1 q1)
  · refine g_iconst (v := 0) dX5_readThing_24 (by decide) ?_
    exact g_bret dX5_readThing_25 rfl (Or.inl rfl) enSH (h2 q1)
theorem bX5_readThing_33 {X : pX} {Q : Option Value → pMem → Prop} {m : pMem} {a0 : Nat} {x1 : Int32} {xs0 : Int32} (hW : Wf m) (c0 : SH[a0]? = some (.inl 5))
    (h1 : Cl X 1 mX9_number [.ref 1, .int (0 : Int32), .int (50 : Int32)] m (fun v m2 => Go X 2 mX5_readThing Q 44 [(0, .ref a0), (1, .int x1)] (v.toList ++ []) m2)) :
    Go X 2 mX5_readThing Q 33 [(0, .ref a0), (1, .int x1)] [.int xs0] m := by
  refine g_pop dX5_readThing_33 rfl ?_
  refine g_aload_n 0 dX5_readThing_34 rfl rfl ?_
  refine g_getR dX5_readThing_35 fl5_18 rfl c0 (w5_0 hW c0) ?_
  refine g_iconst (v := 0) dX5_readThing_38 (by decide) ?_
  refine g_bipush (v := 50) dX5_readThing_39 (by decide) ?_
  exact g_callV (As := [.int (0 : Int32), .int (50 : Int32)]) (st := []) dX5_readThing_41 clX5_87 sh1 rfl rfl (Nat.le_of_ble_eq_true rfl) (rmSH (by decide) (by decide)) h1
theorem bX5_readThing_44 {X : pX} {Q : Option Value → pMem → Prop} {m : pMem} {a0 : Nat} {x1 : Int32} {xs0 : Int32} (hW : Wf m) (c0 : SH[a0]? = some (.inl 5))
    (h1 : ¬ xs0 = (-1 : Int32) → vp_in (mI m (a0 + 1) 4) 6)
    (h2 : ¬ xs0 = (-1 : Int32) → vp_in (mI (uI m (a0 + 4) ((mI m (a0 + 1) 4).toNatClampNeg) x1) (a0 + 1) 4) 6)
    (h3 : ¬ xs0 = (-1 : Int32) → vp_in (mI (uI (uI m (a0 + 4) ((mI m (a0 + 1) 4).toNatClampNeg) x1) (a0 + 5) ((mI (uI m (a0 + 4) ((mI m (a0 + 1) 4).toNatClampNeg) x1) (a0 + 1) 4).toNatClampNeg) xs0) (a0 + 1) 4) 6)
    (h4 : ¬ xs0 = (-1 : Int32) → Q (some (.int (1 : Int32))) (uI (uI (uI (uI m (a0 + 4) ((mI m (a0 + 1) 4).toNatClampNeg) x1) (a0 + 5) ((mI (uI m (a0 + 4) ((mI m (a0 + 1) 4).toNatClampNeg) x1) (a0 + 1) 4).toNatClampNeg) xs0) (a0 + 6) ((mI (uI (uI m (a0 + 4) ((mI m (a0 + 1) 4).toNatClampNeg) x1) (a0 + 5) ((mI (uI m (a0 + 4) ((mI m (a0 + 1) 4).toNatClampNeg) x1) (a0 + 1) 4).toNatClampNeg) xs0) (a0 + 1) 4).toNatClampNeg) (10 : Int32)) (a0 + 1) 4 ((mI (uI (uI (uI m (a0 + 4) ((mI m (a0 + 1) 4).toNatClampNeg) x1) (a0 + 5) ((mI (uI m (a0 + 4) ((mI m (a0 + 1) 4).toNatClampNeg) x1) (a0 + 1) 4).toNatClampNeg) xs0) (a0 + 6) ((mI (uI (uI m (a0 + 4) ((mI m (a0 + 1) 4).toNatClampNeg) x1) (a0 + 5) ((mI (uI m (a0 + 4) ((mI m (a0 + 1) 4).toNatClampNeg) x1) (a0 + 1) 4).toNatClampNeg) xs0) (a0 + 1) 4).toNatClampNeg) (10 : Int32)) (a0 + 1) 4) + (1 : Int32))))
    (h5 : xs0 = (-1 : Int32) → Q (some (.int (0 : Int32))) m) :
    Go X 2 mX5_readThing Q 44 [(0, .ref a0), (1, .int x1)] [.int xs0] m := by
  refine g_istore_n (ls2 := [(2, .int xs0), (0, .ref a0), (1, .int x1)]) dX5_readThing_44 rfl (by decide) rfl ?_
  refine g_iload_n 0 dX5_readThing_45 rfl rfl ?_
  refine g_iconst (v := -1) dX5_readThing_46 (by decide) ?_
  refine g_icmp_ne 52 dX5_readThing_47 (by decide) (fun q1 => ?_) (fun q1 => ?_)
  · refine g_aload_n 1 dX5_readThing_52 rfl rfl ?_
    refine g_getR dX5_readThing_53 fl5_12 rfl c0 (w5_1 hW c0) ?_
    refine g_getR dX5_readThing_56 fl5_101 rfl (s5_1 c0) (w4_7 hW (s5_1 c0)) ?_
    refine g_aload_n 1 dX5_readThing_59 rfl rfl ?_
    refine g_getR dX5_readThing_60 fl5_12 rfl c0 (w5_1 hW c0) ?_
    refine g_getI dX5_readThing_63 fl5_84 (s5_1 c0) ?_
    refine g_iload_n 2 dX5_readThing_66 rfl rfl ?_
    refine g_iast (j := (mI m (a0 + 1) 4).toNatClampNeg) dX5_readThing_67 (s4_7 (s5_1 c0)) (h1 q1) rfl ?_
    refine g_aload_n 1 dX5_readThing_68 rfl rfl ?_
    refine g_getR dX5_readThing_69 fl5_12 rfl c0 (w5_1 hW c0) ?_
    refine g_getR dX5_readThing_72 fl5_104 rfl (s5_1 c0) (w4_8 hW (s5_1 c0)) ?_
    refine g_aload_n 1 dX5_readThing_75 rfl rfl ?_
    refine g_getR dX5_readThing_76 fl5_12 rfl c0 (w5_1 hW c0) ?_
    refine g_getI dX5_readThing_79 fl5_84 (s5_1 c0) ?_
    refine g_iload_n 0 dX5_readThing_82 rfl rfl ?_
    refine g_iast (j := (mI (uI m (a0 + 4) ((mI m (a0 + 1) 4).toNatClampNeg) x1) (a0 + 1) 4).toNatClampNeg) dX5_readThing_83 (s4_8 (s5_1 c0)) (h2 q1) rfl ?_
    refine g_aload_n 1 dX5_readThing_84 rfl rfl ?_
    refine g_getR dX5_readThing_85 fl5_12 rfl c0 (w5_1 hW c0) ?_
    refine g_getR dX5_readThing_88 fl5_107 rfl (s5_1 c0) (w4_9 hW (s5_1 c0)) ?_
    refine g_aload_n 1 dX5_readThing_91 rfl rfl ?_
    refine g_getR dX5_readThing_92 fl5_12 rfl c0 (w5_1 hW c0) ?_
    refine g_getI dX5_readThing_95 fl5_84 (s5_1 c0) ?_
    refine g_bipush (v := 10) dX5_readThing_98 (by decide) ?_
    refine g_iast (j := (mI (uI (uI m (a0 + 4) ((mI m (a0 + 1) 4).toNatClampNeg) x1) (a0 + 5) ((mI (uI m (a0 + 4) ((mI m (a0 + 1) 4).toNatClampNeg) x1) (a0 + 1) 4).toNatClampNeg) xs0) (a0 + 1) 4).toNatClampNeg) dX5_readThing_100 (s4_9 (s5_1 c0)) (h3 q1) rfl ?_
    refine g_aload_n 1 dX5_readThing_101 rfl rfl ?_
    refine g_getR dX5_readThing_102 fl5_12 rfl c0 (w5_1 hW c0) ?_
    refine g_dup dX5_readThing_105 rfl ?_
    refine g_getI dX5_readThing_106 fl5_84 (s5_1 c0) ?_
    refine g_iconst (v := 1) dX5_readThing_109 (by decide) ?_
    refine g_iadd dX5_readThing_110 ?_
    refine g_putI dX5_readThing_111 fl5_84 (fun h => by cases h) (s5_1 c0) ?_
    refine g_iconst (v := 1) dX5_readThing_114 (by decide) ?_
    exact g_bret dX5_readThing_115 rfl (Or.inr rfl) enSH (h4 q1)
  · refine g_iconst (v := 0) dX5_readThing_50 (by decide) ?_
    exact g_bret dX5_readThing_51 rfl (Or.inl rfl) enSH (h5 q1)
theorem bX5_readHas_0 {X : pX} {Q : Option Value → pMem → Prop} {m : pMem} {a0 : Nat} (hW : Wf m) (c0 : SH[a0]? = some (.inl 5))
    (h1 : Cl X 1 mX9_next [.ref 1] m (fun v m2 => Go X 2 mX5_readHas Q 7 [(0, .ref a0)] (v.toList ++ []) m2)) :
    Go X 2 mX5_readHas Q 0 [(0, .ref a0)] [] m := by
  refine g_aload_n 0 dX5_readHas_0 rfl rfl ?_
  refine g_getR dX5_readHas_1 fl5_18 rfl c0 (w5_0 hW c0) ?_
  exact g_callV (As := []) (st := []) dX5_readHas_4 clX5_34 sh1 rfl rfl (Nat.le_of_ble_eq_true rfl) (rmSH (by decide) (by decide)) h1
theorem bX5_readHas_7 {X : pX} {Q : Option Value → pMem → Prop} {m : pMem} {a0 : Nat} {xs0 : Int32} (hW : Wf m) (c0 : SH[a0]? = some (.inl 5))
    (h1 : Cl X 1 mX9_number [.ref 1, .int (0 : Int32), .int ((mI m (a0 + 1) 3) - (1 : Int32))] m (fun v m2 => Go X 2 mX5_readHas Q 33 [(0, .ref a0), (1, .int (mI m 1 2))] (v.toList ++ []) m2)) :
    Go X 2 mX5_readHas Q 7 [(0, .ref a0)] [.int xs0] m := by
  refine g_pop dX5_readHas_7 rfl ?_
  refine g_aload_n 0 dX5_readHas_8 rfl rfl ?_
  refine g_getR dX5_readHas_9 fl5_18 rfl c0 (w5_0 hW c0) ?_
  refine g_getI dX5_readHas_12 fl5_45 sh1 ?_
  refine g_istore_n (ls2 := [(1, .int (mI m 1 2)), (0, .ref a0)]) dX5_readHas_15 rfl (by decide) rfl ?_
  refine g_aload_n 1 dX5_readHas_16 rfl rfl ?_
  refine g_getR dX5_readHas_17 fl5_18 rfl c0 (w5_0 hW c0) ?_
  refine g_iconst (v := 0) dX5_readHas_20 (by decide) ?_
  refine g_aload_n 1 dX5_readHas_21 rfl rfl ?_
  refine g_getR dX5_readHas_22 fl5_12 rfl c0 (w5_1 hW c0) ?_
  refine g_getI dX5_readHas_25 fl5_81 (s5_1 c0) ?_
  refine g_iconst (v := 1) dX5_readHas_28 (by decide) ?_
  refine g_isub dX5_readHas_29 ?_
  refine g_ls [1, 0] (ls2 := [(0, .ref a0), (1, .int (mI m 1 2))]) rfl ?_
  exact g_callV (As := [.int (0 : Int32), .int ((mI m (a0 + 1) 3) - (1 : Int32))]) (st := []) dX5_readHas_30 clX5_87 sh1 rfl rfl (Nat.le_of_ble_eq_true rfl) (rmSH (by decide) (by decide)) h1
theorem bX5_readHas_33 {X : pX} {Q : Option Value → pMem → Prop} {m : pMem} {a0 : Nat} {x1 : Int32} {xs0 : Int32} (hW : Wf m) (c0 : SH[a0]? = some (.inl 5))
    (h1 : ¬ xs0 = (-1 : Int32) → Cl X 0 mX5_manyOf [.ref a0, .int xs0] m (fun v m2 => Go X 2 mX5_readHas Q 46 [(0, .ref a0), (1, .int x1), (2, .int xs0)] (v.toList ++ []) m2))
    (h2 : xs0 = (-1 : Int32) → Q (some (.int (0 : Int32))) m) :
    Go X 2 mX5_readHas Q 33 [(0, .ref a0), (1, .int x1)] [.int xs0] m := by
  refine g_istore_n (ls2 := [(2, .int xs0), (0, .ref a0), (1, .int x1)]) dX5_readHas_33 rfl (by decide) rfl ?_
  refine g_iload_n 0 dX5_readHas_34 rfl rfl ?_
  refine g_iconst (v := -1) dX5_readHas_35 (by decide) ?_
  refine g_icmp_ne 41 dX5_readHas_36 (by decide) (fun q1 => ?_) (fun q1 => ?_)
  · refine g_aload_n 1 dX5_readHas_41 rfl rfl ?_
    refine g_iload_n 0 dX5_readHas_42 rfl rfl ?_
    refine g_ls [1, 2, 0] (ls2 := [(0, .ref a0), (1, .int x1), (2, .int xs0)]) rfl ?_
    exact g_callV (As := [.int xs0]) (st := []) dX5_readHas_43 clX5_110 c0 rfl rfl (Nat.le_of_ble_eq_true rfl) (rmSH (by decide) (by decide)) (h1 q1)
  · refine g_iconst (v := 0) dX5_readHas_39 (by decide) ?_
    exact g_bret dX5_readHas_40 rfl (Or.inl rfl) enSH (h2 q1)
theorem bX5_readHas_46 {X : pX} {Q : Option Value → pMem → Prop} {m : pMem} {a0 : Nat} {x1 : Int32} {x2 : Int32} {xs0 : Int32} (hW : Wf m) (c0 : SH[a0]? = some (.inl 5))
    (h1 : xs0 < (mI m (a0 + 1) 1) → Cl X 1 mX9_next [.ref 1] m (fun v m2 => Go X 2 mX5_readHas Q 73 [(0, .ref a0), (1, .int x1), (2, .int x2)] (v.toList ++ []) m2))
    (h2 : ¬ (xs0 < (mI m (a0 + 1) 1)) → Cl X 0 mX9_fail [.ref 1, .int x1, .int (1 : Int32)] m (fun v m2 => Go X 2 mX5_readHas Q 65 [(0, .ref a0), (1, .int x1), (2, .int x2)] (v.toList ++ []) m2)) :
    Go X 2 mX5_readHas Q 46 [(0, .ref a0), (1, .int x1), (2, .int x2)] [.int xs0] m := by
  refine g_aload_n 0 dX5_readHas_46 rfl rfl ?_
  refine g_getR dX5_readHas_47 fl5_12 rfl c0 (w5_1 hW c0) ?_
  refine g_getI dX5_readHas_50 fl5_91 (s5_1 c0) ?_
  refine g_icmp_lt 66 dX5_readHas_53 (by decide) (fun q1 => ?_) (fun q1 => ?_)
  · refine g_aload_n 0 dX5_readHas_66 rfl rfl ?_
    refine g_getR dX5_readHas_67 fl5_18 rfl c0 (w5_0 hW c0) ?_
    exact g_callV (As := []) (st := []) dX5_readHas_70 clX5_34 sh1 rfl rfl (Nat.le_of_ble_eq_true rfl) (rmSH (by decide) (by decide)) (h1 q1)
  · refine g_aload_n 0 dX5_readHas_56 rfl rfl ?_
    refine g_getR dX5_readHas_57 fl5_18 rfl c0 (w5_0 hW c0) ?_
    refine g_iload_n 1 dX5_readHas_60 rfl rfl ?_
    refine g_iconst (v := 1) dX5_readHas_61 (by decide) ?_
    exact g_callV (As := [.int x1, .int (1 : Int32)]) (st := []) dX5_readHas_62 clX5_49 sh1 rfl rfl (Nat.le_of_ble_eq_true rfl) (rmSH (by decide) (by decide)) (h2 q1)
theorem bX5_readHas_73 {X : pX} {Q : Option Value → pMem → Prop} {m : pMem} {a0 : Nat} {x1 : Int32} {x2 : Int32} {xs0 : Int32} (hW : Wf m) (c0 : SH[a0]? = some (.inl 5))
    (h1 : Cl X 1 mX9_number [.ref 1, .int (0 : Int32), .int ((mI m (a0 + 1) 4) - (1 : Int32))] m (fun v m2 => Go X 2 mX5_readHas Q 99 [(0, .ref a0), (1, .int x1), (2, .int x2), (3, .int (mI m 1 2))] (v.toList ++ []) m2)) :
    Go X 2 mX5_readHas Q 73 [(0, .ref a0), (1, .int x1), (2, .int x2)] [.int xs0] m := by
  refine g_pop dX5_readHas_73 rfl ?_
  refine g_aload_n 0 dX5_readHas_74 rfl rfl ?_
  refine g_getR dX5_readHas_75 fl5_18 rfl c0 (w5_0 hW c0) ?_
  refine g_getI dX5_readHas_78 fl5_45 sh1 ?_
  refine g_istore_n (ls2 := [(3, .int (mI m 1 2)), (0, .ref a0), (1, .int x1), (2, .int x2)]) dX5_readHas_81 rfl (by decide) rfl ?_
  refine g_aload_n 1 dX5_readHas_82 rfl rfl ?_
  refine g_getR dX5_readHas_83 fl5_18 rfl c0 (w5_0 hW c0) ?_
  refine g_iconst (v := 0) dX5_readHas_86 (by decide) ?_
  refine g_aload_n 1 dX5_readHas_87 rfl rfl ?_
  refine g_getR dX5_readHas_88 fl5_12 rfl c0 (w5_1 hW c0) ?_
  refine g_getI dX5_readHas_91 fl5_84 (s5_1 c0) ?_
  refine g_iconst (v := 1) dX5_readHas_94 (by decide) ?_
  refine g_isub dX5_readHas_95 ?_
  refine g_ls [1, 2, 3, 0] (ls2 := [(0, .ref a0), (1, .int x1), (2, .int x2), (3, .int (mI m 1 2))]) rfl ?_
  exact g_callV (As := [.int (0 : Int32), .int ((mI m (a0 + 1) 4) - (1 : Int32))]) (st := []) dX5_readHas_96 clX5_87 sh1 rfl rfl (Nat.le_of_ble_eq_true rfl) (rmSH (by decide) (by decide)) h1
theorem bX5_readHas_65 {X : pX} {Q : Option Value → pMem → Prop} {m : pMem} {a0 : Nat} {x1 : Int32} {x2 : Int32} {xs0 : Int32} (hW : Wf m) (c0 : SH[a0]? = some (.inl 5))
    (h1 : xs0 = 0 ∨ xs0 = 1)
    (h2 : Q (some (.int xs0)) m) :
    Go X 2 mX5_readHas Q 65 [(0, .ref a0), (1, .int x1), (2, .int x2)] [.int xs0] m := by
  exact g_bret dX5_readHas_65 rfl h1 enSH h2
theorem bX5_readHas_99 {X : pX} {Q : Option Value → pMem → Prop} {m : pMem} {a0 : Nat} {x1 : Int32} {x2 : Int32} {x3 : Int32} {xs0 : Int32} (hW : Wf m) (c0 : SH[a0]? = some (.inl 5))
    (h1 : ¬ xs0 = (-1 : Int32) → vp_in xs0 6)
    (h2 : ¬ xs0 = (-1 : Int32) → (mI m (a0 + 6) xs0.toNatClampNeg) = (10 : Int32) → vp_in xs0 6)
    (h3 : ¬ xs0 = (-1 : Int32) → (mI m (a0 + 6) xs0.toNatClampNeg) = (10 : Int32) → Q (some (.int (1 : Int32))) (uI m (a0 + 6) xs0.toNatClampNeg x2))
    (h4 : ¬ xs0 = (-1 : Int32) → ¬ ((mI m (a0 + 6) xs0.toNatClampNeg) = (10 : Int32)) → Cl X 0 mX9_fail [.ref 1, .int x3, .int (1 : Int32)] m (fun v m2 => Go X 2 mX5_readHas Q 133 [(0, .ref a0), (1, .int x1), (2, .int x2), (3, .int x3), (4, .int xs0)] (v.toList ++ []) m2))
    (h5 : xs0 = (-1 : Int32) → Q (some (.int (0 : Int32))) m) :
    Go X 2 mX5_readHas Q 99 [(0, .ref a0), (1, .int x1), (2, .int x2), (3, .int x3)] [.int xs0] m := by
  refine g_istore (ls2 := [(4, .int xs0), (0, .ref a0), (1, .int x1), (2, .int x2), (3, .int x3)]) dX5_readHas_99 (by decide) rfl ?_
  refine g_iload 0 dX5_readHas_101 rfl ?_
  refine g_iconst (v := -1) dX5_readHas_103 (by decide) ?_
  refine g_icmp_ne 109 dX5_readHas_104 (by decide) (fun q1 => ?_) (fun q1 => ?_)
  · refine g_aload_n 1 dX5_readHas_109 rfl rfl ?_
    refine g_getR dX5_readHas_110 fl5_12 rfl c0 (w5_1 hW c0) ?_
    refine g_getR dX5_readHas_113 fl5_107 rfl (s5_1 c0) (w4_9 hW (s5_1 c0)) ?_
    refine g_iload 0 dX5_readHas_116 rfl ?_
    refine g_iald (j := xs0.toNatClampNeg) dX5_readHas_118 (s4_9 (s5_1 c0)) (h1 q1) rfl ?_
    refine g_bipush (v := 10) dX5_readHas_119 (by decide) ?_
    refine g_icmp_eq 134 dX5_readHas_121 (by decide) (fun q2 => ?_) (fun q2 => ?_)
    · refine g_aload_n 1 dX5_readHas_134 rfl rfl ?_
      refine g_getR dX5_readHas_135 fl5_12 rfl c0 (w5_1 hW c0) ?_
      refine g_getR dX5_readHas_138 fl5_107 rfl (s5_1 c0) (w4_9 hW (s5_1 c0)) ?_
      refine g_iload 0 dX5_readHas_141 rfl ?_
      refine g_iload_n 3 dX5_readHas_143 rfl rfl ?_
      refine g_iast (j := xs0.toNatClampNeg) dX5_readHas_144 (s4_9 (s5_1 c0)) (h2 q1 q2) rfl ?_
      refine g_iconst (v := 1) dX5_readHas_145 (by decide) ?_
      exact g_bret dX5_readHas_146 rfl (Or.inr rfl) enSH (h3 q1 q2)
    · refine g_aload_n 1 dX5_readHas_124 rfl rfl ?_
      refine g_getR dX5_readHas_125 fl5_18 rfl c0 (w5_0 hW c0) ?_
      refine g_iload_n 4 dX5_readHas_128 rfl rfl ?_
      refine g_iconst (v := 1) dX5_readHas_129 (by decide) ?_
      refine g_ls [1, 2, 3, 4, 0] (ls2 := [(0, .ref a0), (1, .int x1), (2, .int x2), (3, .int x3), (4, .int xs0)]) rfl ?_
      exact g_callV (As := [.int x3, .int (1 : Int32)]) (st := []) dX5_readHas_130 clX5_49 sh1 rfl rfl (Nat.le_of_ble_eq_true rfl) (rmSH (by decide) (by decide)) (h4 q1 q2)
  · refine g_iconst (v := 0) dX5_readHas_107 (by decide) ?_
    exact g_bret dX5_readHas_108 rfl (Or.inl rfl) enSH (h5 q1)
theorem bX5_readHas_133 {X : pX} {Q : Option Value → pMem → Prop} {m : pMem} {a0 : Nat} {x1 : Int32} {x2 : Int32} {x3 : Int32} {x4 : Int32} {xs0 : Int32} (hW : Wf m) (c0 : SH[a0]? = some (.inl 5))
    (h1 : xs0 = 0 ∨ xs0 = 1)
    (h2 : Q (some (.int xs0)) m) :
    Go X 2 mX5_readHas Q 133 [(0, .ref a0), (1, .int x1), (2, .int x2), (3, .int x3), (4, .int x4)] [.int xs0] m := by
  exact g_bret dX5_readHas_133 rfl h1 enSH h2
theorem bX5_manyOf_0 {X : pX} {Q : Option Value → pMem → Prop} {m : pMem} {a0 : Nat} {x1 : Int32} (hW : Wf m) (c0 : SH[a0]? = some (.inl 5))
    (h1 : Go X 0 mX5_manyOf Q 17 [(1, .int x1), (2, .int (0 : Int32)), (3, .ref (a0 + 6)), (4, .int (6 : Int32)), (5, .int (0 : Int32))] [] m) :
    Go X 0 mX5_manyOf Q 0 [(0, .ref a0), (1, .int x1)] [] m := by
  refine g_iconst (v := 0) dX5_manyOf_0 (by decide) ?_
  refine g_istore_n (ls2 := [(2, .int (0 : Int32)), (0, .ref a0), (1, .int x1)]) dX5_manyOf_1 rfl (by decide) rfl ?_
  refine g_aload_n 1 dX5_manyOf_2 rfl rfl ?_
  refine g_getR dX5_manyOf_3 fl5_12 rfl c0 (w5_1 hW c0) ?_
  refine g_getR dX5_manyOf_6 fl5_107 rfl (s5_1 c0) (w4_9 hW (s5_1 c0)) ?_
  refine g_astore_n (ls2 := [(3, .ref (a0 + 6)), (2, .int (0 : Int32)), (0, .ref a0), (1, .int x1)]) dX5_manyOf_9 rfl (by decide) rfl ?_
  refine g_aload_n 0 dX5_manyOf_10 rfl rfl ?_
  refine g_alen (v := (6 : Int32)) dX5_manyOf_11 (s4_9 (s5_1 c0)) (by decide) (by first | rfl | decide) ?_
  refine g_istore (ls2 := [(4, .int (6 : Int32)), (3, .ref (a0 + 6)), (2, .int (0 : Int32)), (0, .ref a0), (1, .int x1)]) dX5_manyOf_12 (by decide) rfl ?_
  refine g_iconst (v := 0) dX5_manyOf_14 (by decide) ?_
  refine g_istore (ls2 := [(5, .int (0 : Int32)), (4, .int (6 : Int32)), (3, .ref (a0 + 6)), (2, .int (0 : Int32)), (0, .ref a0), (1, .int x1)]) dX5_manyOf_15 (by decide) rfl ?_
  exact g_ls [5, 3, 2, 1, 0] rfl h1
theorem bX5_manyOf_17 {X : pX} {Q : Option Value → pMem → Prop} {m : pMem} {x1 : Int32} {x2 : Int32} {a3 : Nat} {x4 : Int32} {x5 : Int32} (hW : Wf m) (c3 : SH[a3]? = some (.inr (.int, 6)))
    (h1 : x4 ≤ x5 → Q (some (.int x2)) m)
    (h2 : ¬ (x4 ≤ x5) → vp_in x5 6)
    (h3 : ¬ (x4 ≤ x5) → ¬ (mI m a3 x5.toNatClampNeg) = x1 → Go X 0 mX5_manyOf Q 17 [(1, .int x1), (2, .int x2), (3, .ref a3), (4, .int x4), (5, .int (x5 + (1 : Int32)))] [] m)
    (h4 : ¬ (x4 ≤ x5) → (mI m a3 x5.toNatClampNeg) = x1 → Go X 0 mX5_manyOf Q 17 [(1, .int x1), (2, .int (x2 + (1 : Int32))), (3, .ref a3), (4, .int x4), (5, .int (x5 + (1 : Int32)))] [] m) :
    Go X 0 mX5_manyOf Q 17 [(1, .int x1), (2, .int x2), (3, .ref a3), (4, .int x4), (5, .int x5)] [] m := by
  refine g_iload 4 dX5_manyOf_17 rfl ?_
  refine g_iload 3 dX5_manyOf_19 rfl ?_
  refine g_icmp_ge 45 dX5_manyOf_21 (by decide) (fun q1 => ?_) (fun q1 => ?_)
  · refine g_iload_n 1 dX5_manyOf_45 rfl rfl ?_
    exact g_iret dX5_manyOf_46 rfl enSH (h1 q1)
  · refine g_aload_n 2 dX5_manyOf_24 rfl rfl ?_
    refine g_iload 4 dX5_manyOf_25 rfl ?_
    refine g_iald (j := x5.toNatClampNeg) dX5_manyOf_27 c3 (h2 q1) rfl ?_
    refine g_istore (ls2 := [(6, .int (mI m a3 x5.toNatClampNeg)), (1, .int x1), (2, .int x2), (3, .ref a3), (4, .int x4), (5, .int x5)]) dX5_manyOf_28 (by decide) rfl ?_
    refine g_iload 0 dX5_manyOf_30 rfl ?_
    refine g_iload_n 1 dX5_manyOf_32 rfl rfl ?_
    refine g_icmp_ne 39 dX5_manyOf_33 (by decide) (fun q2 => ?_) (fun q2 => ?_)
    · refine g_iinc (v := x5 + (1 : Int32)) (ls2 := [(5, .int (x5 + (1 : Int32))), (6, .int (mI m a3 x5.toNatClampNeg)), (1, .int x1), (2, .int x2), (3, .ref a3), (4, .int x4)]) 5 dX5_manyOf_39 rfl rfl (by decide) rfl ?_
      refine g_goto 17 dX5_manyOf_42 (by decide) ?_
      exact g_ls [2, 3, 4, 5, 0] rfl (h3 q1 q2)
    · refine g_iinc (v := x2 + (1 : Int32)) (ls2 := [(2, .int (x2 + (1 : Int32))), (6, .int (mI m a3 x5.toNatClampNeg)), (1, .int x1), (3, .ref a3), (4, .int x4), (5, .int x5)]) 2 dX5_manyOf_36 rfl rfl (by decide) rfl ?_
      refine g_iinc (v := x5 + (1 : Int32)) (ls2 := [(5, .int (x5 + (1 : Int32))), (2, .int (x2 + (1 : Int32))), (6, .int (mI m a3 x5.toNatClampNeg)), (1, .int x1), (3, .ref a3), (4, .int x4)]) 5 dX5_manyOf_39 rfl rfl (by decide) rfl ?_
      refine g_goto 17 dX5_manyOf_42 (by decide) ?_
      exact g_ls [3, 1, 4, 5, 0] rfl (h4 q1 q2)
