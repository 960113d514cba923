theorem bX9_next_0 {X : pX} {Q : Option Value → pMem → Prop} {m : pMem} (hW : Wf m)
    (h1 : (mI m 1 1) ≤ (mI m 1 2) → Cl X 0 mX9_byteAt [.ref 1, .int (mI m 1 2)] m (fun v m2 => Go X 1 mX9_next Q 46 [(0, .ref 1)] (v.toList ++ []) m2))
    (h2 : ¬ ((mI m 1 1) ≤ (mI m 1 2)) → vp_in (mI m 1 2) 400)
    (h3 : ¬ ((mI m 1 1) ≤ (mI m 1 2)) → ¬ (mI m 2 ((mI m 1 2).toNatClampNeg)) = (32 : Int32) → Cl X 0 mX9_byteAt [.ref 1, .int (mI m 1 2)] m (fun v m2 => Go X 1 mX9_next Q 46 [(0, .ref 1)] (v.toList ++ []) m2))
    (h4 : ¬ ((mI m 1 1) ≤ (mI m 1 2)) → (mI m 2 ((mI m 1 2).toNatClampNeg)) = (32 : Int32) → Go X 1 mX9_next Q 0 [(0, .ref 1)] [] (uI m 1 2 ((mI m 1 2) + (1 : Int32)))) :
    Go X 1 mX9_next Q 0 [(0, .ref 1)] [] m := by
  refine g_aload_n 0 dX9_next_0 rfl rfl ?_
  refine g_getI dX9_next_1 fl9_19 sh1 ?_
  refine g_aload_n 0 dX9_next_4 rfl rfl ?_
  refine g_getI dX9_next_5 fl9_15 sh1 ?_
  refine g_icmp_ge 38 dX9_next_8 (by decide) (fun q1 => ?_) (fun q1 => ?_)
  · refine g_aload_n 0 dX9_next_38 rfl rfl ?_
    refine g_aload_n 0 dX9_next_39 rfl rfl ?_
    refine g_getI dX9_next_40 fl9_19 sh1 ?_
    exact g_callV (As := [.int (mI m 1 2)]) (st := []) dX9_next_43 clX9_25 sh1 rfl rfl (Nat.le_of_ble_eq_true rfl) (rmSH (by decide) (by decide)) (h1 q1)
  · refine g_aload_n 0 dX9_next_11 rfl rfl ?_
    refine g_getR dX9_next_12 fl9_11 rfl sh1 (w9_0 hW sh1) ?_
    refine g_aload_n 0 dX9_next_15 rfl rfl ?_
    refine g_getI dX9_next_16 fl9_19 sh1 ?_
    refine g_iald (j := (mI m 1 2).toNatClampNeg) dX9_next_19 (s9_0 sh1) (h2 q1) rfl ?_
    refine g_bipush (v := 32) dX9_next_20 (by decide) ?_
    refine g_icmp_ne 38 dX9_next_22 (by decide) (fun q2 => ?_) (fun q2 => ?_)
    · refine g_aload_n 0 dX9_next_38 rfl rfl ?_
      refine g_aload_n 0 dX9_next_39 rfl rfl ?_
      refine g_getI dX9_next_40 fl9_19 sh1 ?_
      exact g_callV (As := [.int (mI m 1 2)]) (st := []) dX9_next_43 clX9_25 sh1 rfl rfl (Nat.le_of_ble_eq_true rfl) (rmSH (by decide) (by decide)) (h3 q1 q2)
    · refine g_aload_n 0 dX9_next_25 rfl rfl ?_
      refine g_dup dX9_next_26 rfl ?_
      refine g_getI dX9_next_27 fl9_19 sh1 ?_
      refine g_iconst (v := 1) dX9_next_30 (by decide) ?_
      refine g_iadd dX9_next_31 ?_
      refine g_putI dX9_next_32 fl9_19 (fun h => by cases h) sh1 ?_
      refine g_goto 0 dX9_next_35 (by decide) ?_
      exact g_ls [0] rfl (h4 q1 q2)
theorem bX9_next_46 {X : pX} {Q : Option Value → pMem → Prop} {m : pMem} {xs0 : Int32} (hW : Wf m)
    (h1 : Q (some (.int xs0)) m) :
    Go X 1 mX9_next Q 46 [(0, .ref 1)] [.int xs0] m := by
  exact g_iret dX9_next_46 rfl enSH h1
theorem bX9_takeSignAtOnce_0 {X : pX} {Q : Option Value → pMem → Prop} {m : pMem} {x1 : Int32} (hW : Wf m)
    (h1 : Cl X 0 mX9_byteAt [.ref 1, .int (mI m 1 2)] m (fun v m2 => Go X 1 mX9_takeSignAtOnce Q 8 [(0, .ref 1), (1, .int x1)] (v.toList ++ []) m2)) :
    Go X 1 mX9_takeSignAtOnce Q 0 [(0, .ref 1), (1, .int x1)] [] m := by
  refine g_aload_n 0 dX9_takeSignAtOnce_0 rfl rfl ?_
  refine g_aload_n 0 dX9_takeSignAtOnce_1 rfl rfl ?_
  refine g_getI dX9_takeSignAtOnce_2 fl9_19 sh1 ?_
  exact g_callV (As := [.int (mI m 1 2)]) (st := []) dX9_takeSignAtOnce_5 clX9_25 sh1 rfl rfl (Nat.le_of_ble_eq_true rfl) (rmSH (by decide) (by decide)) h1
theorem bX9_takeSignAtOnce_8 {X : pX} {Q : Option Value → pMem → Prop} {m : pMem} {x1 : Int32} {xs0 : Int32} (hW : Wf m)
    (h1 : xs0 = x1 → Q (some (.int (1 : Int32))) (uI m 1 2 ((mI m 1 2) + (1 : Int32))))
    (h2 : ¬ (xs0 = x1) → Q (some (.int (0 : Int32))) m) :
    Go X 1 mX9_takeSignAtOnce Q 8 [(0, .ref 1), (1, .int x1)] [.int xs0] m := by
  refine g_iload_n 1 dX9_takeSignAtOnce_8 rfl rfl ?_
  refine g_icmp_eq 14 dX9_takeSignAtOnce_9 (by decide) (fun q1 => ?_) (fun q1 => ?_)
  · refine g_aload_n 0 dX9_takeSignAtOnce_14 rfl rfl ?_
    refine g_dup dX9_takeSignAtOnce_15 rfl ?_
    refine g_getI dX9_takeSignAtOnce_16 fl9_19 sh1 ?_
    refine g_iconst (v := 1) dX9_takeSignAtOnce_19 (by decide) ?_
    refine g_iadd dX9_takeSignAtOnce_20 ?_
    refine g_putI dX9_takeSignAtOnce_21 fl9_19 (fun h => by cases h) sh1 ?_
    refine g_iconst (v := 1) dX9_takeSignAtOnce_24 (by decide) ?_
    exact g_bret dX9_takeSignAtOnce_25 rfl (Or.inr rfl) enSH (h1 q1)
  · refine g_iconst (v := 0) dX9_takeSignAtOnce_12 (by decide) ?_
    exact g_bret dX9_takeSignAtOnce_13 rfl (Or.inl rfl) enSH (h2 q1)
theorem bX9_takeSign_0 {X : pX} {Q : Option Value → pMem → Prop} {m : pMem} {x1 : Int32} (hW : Wf m)
    (h1 : Cl X 1 mX9_next [.ref 1] m (fun v m2 => Go X 2 mX9_takeSign Q 4 [(0, .ref 1), (1, .int x1)] (v.toList ++ []) m2)) :
    Go X 2 mX9_takeSign Q 0 [(0, .ref 1), (1, .int x1)] [] m := by
  refine g_aload_n 0 dX9_takeSign_0 rfl rfl ?_
  exact g_callV (As := []) (st := []) dX9_takeSign_1 clX9_29 sh1 rfl rfl (Nat.le_of_ble_eq_true rfl) (rmSH (by decide) (by decide)) h1
theorem bX9_takeSign_4 {X : pX} {Q : Option Value → pMem → Prop} {m : pMem} {x1 : Int32} {xs0 : Int32} (hW : Wf m)
    (h1 : Cl X 1 mX9_takeSignAtOnce [.ref 1, .int x1] m (fun v m2 => Go X 2 mX9_takeSign Q 10 [(0, .ref 1), (1, .int x1)] (v.toList ++ []) m2)) :
    Go X 2 mX9_takeSign Q 4 [(0, .ref 1), (1, .int x1)] [.int xs0] m := by
  refine g_pop dX9_takeSign_4 rfl ?_
  refine g_aload_n 0 dX9_takeSign_5 rfl rfl ?_
  refine g_iload_n 1 dX9_takeSign_6 rfl rfl ?_
  exact g_callV (As := [.int x1]) (st := []) dX9_takeSign_7 clX9_33 sh1 rfl rfl (Nat.le_of_ble_eq_true rfl) (rmSH (by decide) (by decide)) h1
theorem bX9_takeSign_10 {X : pX} {Q : Option Value → pMem → Prop} {m : pMem} {x1 : Int32} {xs0 : Int32} (hW : Wf m)
    (h1 : xs0 = 0 ∨ xs0 = 1)
    (h2 : Q (some (.int xs0)) m) :
    Go X 2 mX9_takeSign Q 10 [(0, .ref 1), (1, .int x1)] [.int xs0] m := by
  exact g_bret dX9_takeSign_10 rfl h1 enSH h2
theorem bX9_stands_0 {X : pX} {Q : Option Value → pMem → Prop} {m : pMem} {k1 : Nat} {x2 : Int32} {x3 : Int32} (hW : Wf m)
    (h1 : (((mI m 1 2) + x3) - x2) ≤ (mI m 1 1) → Go X 5 mX9_stands Q 20 [(0, .ref 1), (1, .retAddr k1), (2, .int x2), (3, .int x3), (4, .int x2)] [] m)
    (h2 : ¬ ((((mI m 1 2) + x3) - x2) ≤ (mI m 1 1)) → Q (some (.int (0 : Int32))) m) :
    Go X 5 mX9_stands Q 0 [(0, .ref 1), (1, .retAddr k1), (2, .int x2), (3, .int x3)] [] m := by
  refine g_aload_n 0 dX9_stands_0 rfl rfl ?_
  refine g_getI dX9_stands_1 fl9_19 sh1 ?_
  refine g_iload_n 3 dX9_stands_4 rfl rfl ?_
  refine g_iadd dX9_stands_5 ?_
  refine g_iload_n 2 dX9_stands_6 rfl rfl ?_
  refine g_isub dX9_stands_7 ?_
  refine g_aload_n 0 dX9_stands_8 rfl rfl ?_
  refine g_getI dX9_stands_9 fl9_15 sh1 ?_
  refine g_icmp_le 17 dX9_stands_12 (by decide) (fun q1 => ?_) (fun q1 => ?_)
  · refine g_iload_n 2 dX9_stands_17 rfl rfl ?_
    refine g_istore (ls2 := [(4, .int x2), (0, .ref 1), (1, .retAddr k1), (2, .int x2), (3, .int x3)]) dX9_stands_18 (by decide) rfl ?_
    exact g_ls [1, 2, 3, 4, 0] rfl (h1 q1)
  · refine g_iconst (v := 0) dX9_stands_15 (by decide) ?_
    exact g_bret dX9_stands_16 rfl (Or.inl rfl) enSH (h2 q1)
theorem bX9_stands_20 {X : pX} {Q : Option Value → pMem → Prop} {m : pMem} {k1 : Nat} {x2 : Int32} {x3 : Int32} {x4 : Int32} (hW : Wf m)
    (h1 : x3 ≤ x4 → Q (some (.int (1 : Int32))) m)
    (h2 : ¬ (x3 ≤ x4) → 1 ≤ k1 ∧ k1 ≤ 25)
    (h3 : ¬ (x3 ≤ x4) → Cl X 1 mJ0_length_8abf5 [.retAddr k1] m (fun v m2 => Go X 5 mX9_stands Q 32 [(0, .ref 1), (1, .retAddr k1), (2, .int x2), (3, .int x3), (4, .int x4)] (v.toList ++ [.int x4]) m2)) :
    Go X 5 mX9_stands Q 20 [(0, .ref 1), (1, .retAddr k1), (2, .int x2), (3, .int x3), (4, .int x4)] [] m := by
  refine g_iload 4 dX9_stands_20 rfl ?_
  refine g_iload_n 3 dX9_stands_22 rfl rfl ?_
  refine g_icmp_ge 66 dX9_stands_23 (by decide) (fun q1 => ?_) (fun q1 => ?_)
  · refine g_iconst (v := 1) dX9_stands_66 (by decide) ?_
    exact g_bret dX9_stands_67 rfl (Or.inr rfl) enSH (h1 q1)
  · refine g_iload 4 dX9_stands_26 rfl ?_
    refine g_aload_nO 1 dX9_stands_28 rfl rfl ?_
    exact g_callVO (As := []) (st := [.int x4]) dX9_stands_29 coX9_37 rfl (h2 q1) rfl rfl (Nat.le_of_ble_eq_true rfl) (rmSH (by decide) (by decide)) (h3 q1)
theorem bX9_stands_32 {X : pX} {Q : Option Value → pMem → Prop} {m : pMem} {k1 : Nat} {x2 : Int32} {x3 : Int32} {x4 : Int32} {xs0 : Int32} {xs1 : Int32} (hW : Wf m)
    (h1 : xs0 ≤ xs1 → Q (some (.int (1 : Int32))) m)
    (h2 : ¬ (xs0 ≤ xs1) → vp_in (((mI m 1 2) + x4) - x2) 400)
    (h3 : ¬ (xs0 ≤ xs1) → 1 ≤ k1 ∧ k1 ≤ 25)
    (h4 : ¬ (xs0 ≤ xs1) → Cl X 4 mJ0_charAt_5068e [.retAddr k1, .int x4] m (fun v m2 => Go X 5 mX9_stands Q 55 [(0, .ref 1), (1, .retAddr k1), (2, .int x2), (3, .int x3), (4, .int x4)] (v.toList ++ [.int (mI m 2 ((((mI m 1 2) + x4) - x2).toNatClampNeg))]) m2)) :
    Go X 5 mX9_stands Q 32 [(0, .ref 1), (1, .retAddr k1), (2, .int x2), (3, .int x3), (4, .int x4)] [.int xs0, .int xs1] m := by
  refine g_icmp_ge 66 dX9_stands_32 (by decide) (fun q1 => ?_) (fun q1 => ?_)
  · refine g_iconst (v := 1) dX9_stands_66 (by decide) ?_
    exact g_bret dX9_stands_67 rfl (Or.inr rfl) enSH (h1 q1)
  · refine g_aload_n 0 dX9_stands_35 rfl rfl ?_
    refine g_getR dX9_stands_36 fl9_11 rfl sh1 (w9_0 hW sh1) ?_
    refine g_aload_n 0 dX9_stands_39 rfl rfl ?_
    refine g_getI dX9_stands_40 fl9_19 sh1 ?_
    refine g_iload 4 dX9_stands_43 rfl ?_
    refine g_iadd dX9_stands_45 ?_
    refine g_iload_n 2 dX9_stands_46 rfl rfl ?_
    refine g_isub dX9_stands_47 ?_
    refine g_iald (j := (((mI m 1 2) + x4) - x2).toNatClampNeg) dX9_stands_48 (s9_0 sh1) (h2 q1) rfl ?_
    refine g_aload_nO 1 dX9_stands_49 rfl rfl ?_
    refine g_iload 4 dX9_stands_50 rfl ?_
    exact g_callVO (As := [.int x4]) (st := [.int (mI m 2 ((((mI m 1 2) + x4) - x2).toNatClampNeg))]) dX9_stands_52 coX9_48 rfl (h3 q1) rfl rfl (Nat.le_of_ble_eq_true rfl) (rmSH (by decide) (by decide)) (h4 q1)
theorem bX9_stands_55 {X : pX} {Q : Option Value → pMem → Prop} {m : pMem} {k1 : Nat} {x2 : Int32} {x3 : Int32} {x4 : Int32} {xs0 : Int32} {xs1 : Int32} (hW : Wf m)
    (h1 : xs1 = xs0 → Go X 5 mX9_stands Q 20 [(0, .ref 1), (1, .retAddr k1), (2, .int x2), (3, .int x3), (4, .int (x4 + (1 : Int32)))] [] m)
    (h2 : ¬ (xs1 = xs0) → Q (some (.int (0 : Int32))) m) :
    Go X 5 mX9_stands Q 55 [(0, .ref 1), (1, .retAddr k1), (2, .int x2), (3, .int x3), (4, .int x4)] [.int xs0, .int xs1] m := by
  refine g_icmp_eq 60 dX9_stands_55 (by decide) (fun q1 => ?_) (fun q1 => ?_)
  · refine g_iinc (v := x4 + (1 : Int32)) (ls2 := [(4, .int (x4 + (1 : Int32))), (0, .ref 1), (1, .retAddr k1), (2, .int x2), (3, .int x3)]) 4 dX9_stands_60 rfl rfl (by decide) rfl ?_
    refine g_goto 20 dX9_stands_63 (by decide) ?_
    exact g_ls [1, 2, 3, 4, 0] rfl (h1 q1)
  · refine g_iconst (v := 0) dX9_stands_58 (by decide) ?_
    exact g_bret dX9_stands_59 rfl (Or.inl rfl) enSH (h2 q1)
theorem bX9_takeWord_0 {X : pX} {Q : Option Value → pMem → Prop} {m : pMem} {k1 : Nat} (hW : Wf m)
    (h1 : Cl X 1 mX9_next [.ref 1] m (fun v m2 => Go X 6 mX9_takeWord Q 4 [(0, .ref 1), (1, .retAddr k1)] (v.toList ++ []) m2)) :
    Go X 6 mX9_takeWord Q 0 [(0, .ref 1), (1, .retAddr k1)] [] m := by
  refine g_aload_n 0 dX9_takeWord_0 rfl rfl ?_
  exact g_callV (As := []) (st := []) dX9_takeWord_1 clX9_29 sh1 rfl rfl (Nat.le_of_ble_eq_true rfl) (rmSH (by decide) (by decide)) h1
theorem bX9_takeWord_4 {X : pX} {Q : Option Value → pMem → Prop} {m : pMem} {k1 : Nat} {xs0 : Int32} (hW : Wf m)
    (h1 : 1 ≤ k1 ∧ k1 ≤ 25)
    (h2 : Cl X 1 mJ0_length_8abf5 [.retAddr k1] m (fun v m2 => Go X 6 mX9_takeWord Q 13 [(0, .ref 1), (1, .retAddr k1)] (v.toList ++ [.int (mI m 1 2)]) m2)) :
    Go X 6 mX9_takeWord Q 4 [(0, .ref 1), (1, .retAddr k1)] [.int xs0] m := by
  refine g_pop dX9_takeWord_4 rfl ?_
  refine g_aload_n 0 dX9_takeWord_5 rfl rfl ?_
  refine g_getI dX9_takeWord_6 fl9_19 sh1 ?_
  refine g_aload_nO 1 dX9_takeWord_9 rfl rfl ?_
  exact g_callVO (As := []) (st := [.int (mI m 1 2)]) dX9_takeWord_10 coX9_37 rfl h1 rfl rfl (Nat.le_of_ble_eq_true rfl) (rmSH (by decide) (by decide)) h2
theorem bX9_takeWord_13 {X : pX} {Q : Option Value → pMem → Prop} {m : pMem} {k1 : Nat} {xs0 : Int32} {xs1 : Int32} (hW : Wf m)
    (h1 : 1 ≤ k1 ∧ k1 ≤ 25)
    (h2 : Cl X 1 mJ0_length_8abf5 [.retAddr k1] m (fun v m2 => Go X 6 mX9_takeWord Q 22 [(0, .ref 1), (1, .retAddr k1), (2, .int (xs1 + xs0))] (v.toList ++ [.int (0 : Int32), .retAddr k1, .ref 1]) m2)) :
    Go X 6 mX9_takeWord Q 13 [(0, .ref 1), (1, .retAddr k1)] [.int xs0, .int xs1] m := by
  refine g_iadd dX9_takeWord_13 ?_
  refine g_istore_n (ls2 := [(2, .int (xs1 + xs0)), (0, .ref 1), (1, .retAddr k1)]) dX9_takeWord_14 rfl (by decide) rfl ?_
  refine g_aload_n 1 dX9_takeWord_15 rfl rfl ?_
  refine g_aload_nO 2 dX9_takeWord_16 rfl rfl ?_
  refine g_iconst (v := 0) dX9_takeWord_17 (by decide) ?_
  refine g_aload_nO 2 dX9_takeWord_18 rfl rfl ?_
  refine g_ls [1, 2, 0] (ls2 := [(0, .ref 1), (1, .retAddr k1), (2, .int (xs1 + xs0))]) rfl ?_
  exact g_callVO (As := []) (st := [.int (0 : Int32), .retAddr k1, .ref 1]) dX9_takeWord_19 coX9_37 rfl h1 rfl rfl (Nat.le_of_ble_eq_true rfl) (rmSH (by decide) (by decide)) h2
theorem bX9_takeWord_22 {X : pX} {Q : Option Value → pMem → Prop} {m : pMem} {k1 : Nat} {x2 : Int32} {xs0 : Int32} {ks2 : Nat} (hW : Wf m)
    (h1 : Cl X 5 mX9_stands [.ref 1, .retAddr ks2, .int (0 : Int32), .int xs0] m (fun v m2 => Go X 6 mX9_takeWord Q 25 [(0, .ref 1), (1, .retAddr k1), (2, .int x2)] (v.toList ++ []) m2)) :
    Go X 6 mX9_takeWord Q 22 [(0, .ref 1), (1, .retAddr k1), (2, .int x2)] [.int xs0, .int (0 : Int32), .retAddr ks2, .ref 1] m := by
  exact g_callV (As := [.retAddr ks2, .int (0 : Int32), .int xs0]) (st := []) dX9_takeWord_22 clX9_41 sh1 rfl rfl (Nat.le_of_ble_eq_true rfl) (rmSH (by decide) (by decide)) h1
theorem bX9_takeWord_25 {X : pX} {Q : Option Value → pMem → Prop} {m : pMem} {k1 : Nat} {x2 : Int32} {xs0 : Int32} (hW : Wf m)
    (h1 : xs0 = 0 → Q (some (.int (0 : Int32))) m)
    (h2 : ¬ (xs0 = 0) → Cl X 0 mX9_byteAt [.ref 1, .int x2] m (fun v m2 => Go X 6 mX9_takeWord Q 33 [(0, .ref 1), (1, .retAddr k1), (2, .int x2)] (v.toList ++ []) m2)) :
    Go X 6 mX9_takeWord Q 25 [(0, .ref 1), (1, .retAddr k1), (2, .int x2)] [.int xs0] m := by
  refine g_if_eq 39 dX9_takeWord_25 (by decide) (fun q1 => ?_) (fun q1 => ?_)
  · refine g_iconst (v := 0) dX9_takeWord_39 (by decide) ?_
    exact g_bret dX9_takeWord_40 rfl (Or.inl rfl) enSH (h1 q1)
  · refine g_aload_n 0 dX9_takeWord_28 rfl rfl ?_
    refine g_iload_n 2 dX9_takeWord_29 rfl rfl ?_
    exact g_callV (As := [.int x2]) (st := []) dX9_takeWord_30 clX9_25 sh1 rfl rfl (Nat.le_of_ble_eq_true rfl) (rmSH (by decide) (by decide)) (h2 q1)
theorem bX9_takeWord_33 {X : pX} {Q : Option Value → pMem → Prop} {m : pMem} {k1 : Nat} {x2 : Int32} {xs0 : Int32} (hW : Wf m)
    (h1 : Cl X 0 mX9_isLetter [.int xs0] m (fun v m2 => Go X 6 mX9_takeWord Q 36 [(0, .ref 1), (1, .retAddr k1), (2, .int x2)] (v.toList ++ []) m2)) :
    Go X 6 mX9_takeWord Q 33 [(0, .ref 1), (1, .retAddr k1), (2, .int x2)] [.int xs0] m := by
  exact g_callS (As := [.int xs0]) (st := []) dX9_takeWord_33 clX9_45 rfl rfl (Nat.le_of_ble_eq_true rfl) (rmSH (by decide) (by decide)) h1
theorem bX9_takeWord_36 {X : pX} {Q : Option Value → pMem → Prop} {m : pMem} {k1 : Nat} {x2 : Int32} {xs0 : Int32} (hW : Wf m)
    (h1 : xs0 = 0 → Q (some (.int (1 : Int32))) (uI m 1 2 x2))
    (h2 : ¬ (xs0 = 0) → Q (some (.int (0 : Int32))) m) :
    Go X 6 mX9_takeWord Q 36 [(0, .ref 1), (1, .retAddr k1), (2, .int x2)] [.int xs0] m := by
  refine g_if_eq 41 dX9_takeWord_36 (by decide) (fun q1 => ?_) (fun q1 => ?_)
  · refine g_aload_n 0 dX9_takeWord_41 rfl rfl ?_
    refine g_iload_n 2 dX9_takeWord_42 rfl rfl ?_
    refine g_putI dX9_takeWord_43 fl9_19 (fun h => by cases h) sh1 ?_
    refine g_iconst (v := 1) dX9_takeWord_46 (by decide) ?_
    exact g_bret dX9_takeWord_47 rfl (Or.inr rfl) enSH (h1 q1)
  · refine g_iconst (v := 0) dX9_takeWord_39 (by decide) ?_
    exact g_bret dX9_takeWord_40 rfl (Or.inl rfl) enSH (h2 q1)
theorem bX9_takeWordOf_0 {X : pX} {Q : Option Value → pMem → Prop} {m : pMem} {k1 : Nat} (hW : Wf m)
    (h1 : Go X 6 mX9_takeWordOf Q 7 [(0, .ref 1), (1, .retAddr k1), (2, .int (0 : Int32)), (3, .int (0 : Int32)), (4, .int (0 : Int32))] [] m) :
    Go X 6 mX9_takeWordOf Q 0 [(0, .ref 1), (1, .retAddr k1)] [] m := by
  refine g_iconst (v := 0) dX9_takeWordOf_0 (by decide) ?_
  refine g_istore_n (ls2 := [(2, .int (0 : Int32)), (0, .ref 1), (1, .retAddr k1)]) dX9_takeWordOf_1 rfl (by decide) rfl ?_
  refine g_iconst (v := 0) dX9_takeWordOf_2 (by decide) ?_
  refine g_istore_n (ls2 := [(3, .int (0 : Int32)), (2, .int (0 : Int32)), (0, .ref 1), (1, .retAddr k1)]) dX9_takeWordOf_3 rfl (by decide) rfl ?_
  refine g_iconst (v := 0) dX9_takeWordOf_4 (by decide) ?_
  refine g_istore (ls2 := [(4, .int (0 : Int32)), (3, .int (0 : Int32)), (2, .int (0 : Int32)), (0, .ref 1), (1, .retAddr k1)]) dX9_takeWordOf_5 (by decide) rfl ?_
  exact g_ls [3, 4, 2, 1, 0] rfl h1
theorem bX9_takeWordOf_7 {X : pX} {Q : Option Value → pMem → Prop} {m : pMem} {k1 : Nat} {x2 : Int32} {x3 : Int32} {x4 : Int32} (hW : Wf m)
    (h1 : 1 ≤ k1 ∧ k1 ≤ 25)
    (h2 : Cl X 1 mJ0_length_8abf5 [.retAddr k1] m (fun v m2 => Go X 6 mX9_takeWordOf Q 13 [(0, .ref 1), (1, .retAddr k1), (2, .int x2), (3, .int x3), (4, .int x4)] (v.toList ++ [.int x4]) m2)) :
    Go X 6 mX9_takeWordOf Q 7 [(0, .ref 1), (1, .retAddr k1), (2, .int x2), (3, .int x3), (4, .int x4)] [] m := by
  refine g_iload 4 dX9_takeWordOf_7 rfl ?_
  refine g_aload_nO 1 dX9_takeWordOf_9 rfl rfl ?_
  exact g_callVO (As := []) (st := [.int x4]) dX9_takeWordOf_10 coX9_37 rfl h1 rfl rfl (Nat.le_of_ble_eq_true rfl) (rmSH (by decide) (by decide)) h2
theorem bX9_takeWordOf_13 {X : pX} {Q : Option Value → pMem → Prop} {m : pMem} {k1 : Nat} {x2 : Int32} {x3 : Int32} {x4 : Int32} {xs0 : Int32} {xs1 : Int32} (hW : Wf m)
    (h1 : xs0 ≤ xs1 → Q (some (.int (-1 : Int32))) m)
    (h2 : ¬ (xs0 ≤ xs1) → 1 ≤ k1 ∧ k1 ≤ 25)
    (h3 : ¬ (xs0 ≤ xs1) → Cl X 4 mJ0_charAt_5068e [.retAddr k1, .int x4] m (fun v m2 => Go X 6 mX9_takeWordOf Q 22 [(0, .ref 1), (1, .retAddr k1), (2, .int x2), (3, .int x3), (4, .int x4)] (v.toList ++ []) m2)) :
    Go X 6 mX9_takeWordOf Q 13 [(0, .ref 1), (1, .retAddr k1), (2, .int x2), (3, .int x3), (4, .int x4)] [.int xs0, .int xs1] m := by
  refine g_icmp_ge 83 dX9_takeWordOf_13 (by decide) (fun q1 => ?_) (fun q1 => ?_)
  · refine g_iconst (v := -1) dX9_takeWordOf_83 (by decide) ?_
    exact g_iret dX9_takeWordOf_84 rfl enSH (h1 q1)
  · refine g_aload_nO 1 dX9_takeWordOf_16 rfl rfl ?_
    refine g_iload 4 dX9_takeWordOf_17 rfl ?_
    exact g_callVO (As := [.int x4]) (st := []) dX9_takeWordOf_19 coX9_48 rfl (h2 q1) rfl rfl (Nat.le_of_ble_eq_true rfl) (rmSH (by decide) (by decide)) (h3 q1)
theorem bX9_takeWordOf_22 {X : pX} {Q : Option Value → pMem → Prop} {m : pMem} {k1 : Nat} {x2 : Int32} {x3 : Int32} {x4 : Int32} {xs0 : Int32} (hW : Wf m)
    (h1 : ¬ xs0 = (32 : Int32) → Go X 6 mX9_takeWordOf Q 7 [(0, .ref 1), (1, .retAddr k1), (2, .int x2), (3, .int x3), (4, .int (x4 + (1 : Int32)))] [] m)
    (h2 : xs0 = (32 : Int32) → Cl X 5 mX9_stands [.ref 1, .retAddr k1, .int x3, .int x4] m (fun v m2 => Go X 6 mX9_takeWordOf Q 46 [(0, .ref 1), (1, .retAddr k1), (2, .int x2), (3, .int x3), (4, .int x4), (5, .int (((mI m 1 2) + x4) - x3))] (v.toList ++ []) m2)) :
    Go X 6 mX9_takeWordOf Q 22 [(0, .ref 1), (1, .retAddr k1), (2, .int x2), (3, .int x3), (4, .int x4)] [.int xs0] m := by
  refine g_bipush (v := 32) dX9_takeWordOf_22 (by decide) ?_
  refine g_icmp_ne 77 dX9_takeWordOf_24 (by decide) (fun q1 => ?_) (fun q1 => ?_)
  · refine g_iinc (v := x4 + (1 : Int32)) (ls2 := [(4, .int (x4 + (1 : Int32))), (0, .ref 1), (1, .retAddr k1), (2, .int x2), (3, .int x3)]) 4 dX9_takeWordOf_77 rfl rfl (by decide) rfl ?_
    refine g_goto 7 dX9_takeWordOf_80 (by decide) ?_
    exact g_ls [1, 2, 3, 4, 0] rfl (h1 q1)
  · refine g_aload_n 0 dX9_takeWordOf_27 rfl rfl ?_
    refine g_getI dX9_takeWordOf_28 fl9_19 sh1 ?_
    refine g_iload 4 dX9_takeWordOf_31 rfl ?_
    refine g_iadd dX9_takeWordOf_33 ?_
    refine g_iload_n 3 dX9_takeWordOf_34 rfl rfl ?_
    refine g_isub dX9_takeWordOf_35 ?_
    refine g_istore (ls2 := [(5, .int (((mI m 1 2) + x4) - x3)), (0, .ref 1), (1, .retAddr k1), (2, .int x2), (3, .int x3), (4, .int x4)]) dX9_takeWordOf_36 (by decide) rfl ?_
    refine g_aload_n 1 dX9_takeWordOf_38 rfl rfl ?_
    refine g_aload_nO 2 dX9_takeWordOf_39 rfl rfl ?_
    refine g_iload_n 4 dX9_takeWordOf_40 rfl rfl ?_
    refine g_iload 5 dX9_takeWordOf_41 rfl ?_
    refine g_ls [1, 2, 3, 4, 5, 0] (ls2 := [(0, .ref 1), (1, .retAddr k1), (2, .int x2), (3, .int x3), (4, .int x4), (5, .int (((mI m 1 2) + x4) - x3))]) rfl ?_
    exact g_callV (As := [.retAddr k1, .int x3, .int x4]) (st := []) dX9_takeWordOf_43 clX9_41 sh1 rfl rfl (Nat.le_of_ble_eq_true rfl) (rmSH (by decide) (by decide)) (h2 q1)
theorem bX9_takeWordOf_46 {X : pX} {Q : Option Value → pMem → Prop} {m : pMem} {k1 : Nat} {x2 : Int32} {x3 : Int32} {x4 : Int32} {x5 : Int32} {xs0 : Int32} (hW : Wf m)
    (h1 : xs0 = 0 → Go X 6 mX9_takeWordOf Q 7 [(0, .ref 1), (1, .retAddr k1), (2, .int (x2 + (1 : Int32))), (3, .int (x4 + (1 : Int32))), (4, .int (x4 + (1 : Int32)))] [] m)
    (h2 : ¬ (xs0 = 0) → Cl X 0 mX9_byteAt [.ref 1, .int x5] m (fun v m2 => Go X 6 mX9_takeWordOf Q 55 [(0, .ref 1), (1, .retAddr k1), (2, .int x2), (3, .int x3), (4, .int x4), (5, .int x5)] (v.toList ++ []) m2)) :
    Go X 6 mX9_takeWordOf Q 46 [(0, .ref 1), (1, .retAddr k1), (2, .int x2), (3, .int x3), (4, .int x4), (5, .int x5)] [.int xs0] m := by
  refine g_if_eq 69 dX9_takeWordOf_46 (by decide) (fun q1 => ?_) (fun q1 => ?_)
  · refine g_iinc (v := x2 + (1 : Int32)) (ls2 := [(2, .int (x2 + (1 : Int32))), (0, .ref 1), (1, .retAddr k1), (3, .int x3), (4, .int x4), (5, .int x5)]) 2 dX9_takeWordOf_69 rfl rfl (by decide) rfl ?_
    refine g_iload 4 dX9_takeWordOf_72 rfl ?_
    refine g_iconst (v := 1) dX9_takeWordOf_74 (by decide) ?_
    refine g_iadd dX9_takeWordOf_75 ?_
    refine g_istore_n (ls2 := [(3, .int (x4 + (1 : Int32))), (2, .int (x2 + (1 : Int32))), (0, .ref 1), (1, .retAddr k1), (4, .int x4), (5, .int x5)]) dX9_takeWordOf_76 rfl (by decide) rfl ?_
    refine g_iinc (v := x4 + (1 : Int32)) (ls2 := [(4, .int (x4 + (1 : Int32))), (3, .int (x4 + (1 : Int32))), (2, .int (x2 + (1 : Int32))), (0, .ref 1), (1, .retAddr k1), (5, .int x5)]) 4 dX9_takeWordOf_77 rfl rfl (by decide) rfl ?_
    refine g_goto 7 dX9_takeWordOf_80 (by decide) ?_
    exact g_ls [3, 4, 2, 1, 0] rfl (h1 q1)
  · refine g_aload_n 0 dX9_takeWordOf_49 rfl rfl ?_
    refine g_iload 5 dX9_takeWordOf_50 rfl ?_
    exact g_callV (As := [.int x5]) (st := []) dX9_takeWordOf_52 clX9_25 sh1 rfl rfl (Nat.le_of_ble_eq_true rfl) (rmSH (by decide) (by decide)) (h2 q1)
theorem bX9_takeWordOf_55 {X : pX} {Q : Option Value → pMem → Prop} {m : pMem} {k1 : Nat} {x2 : Int32} {x3 : Int32} {x4 : Int32} {x5 : Int32} {xs0 : Int32} (hW : Wf m)
    (h1 : Cl X 0 mX9_isLetter [.int xs0] m (fun v m2 => Go X 6 mX9_takeWordOf Q 58 [(0, .ref 1), (1, .retAddr k1), (2, .int x2), (3, .int x3), (4, .int x4), (5, .int x5)] (v.toList ++ []) m2)) :
    Go X 6 mX9_takeWordOf Q 55 [(0, .ref 1), (1, .retAddr k1), (2, .int x2), (3, .int x3), (4, .int x4), (5, .int x5)] [.int xs0] m := by
  exact g_callS (As := [.int xs0]) (st := []) dX9_takeWordOf_55 clX9_45 rfl rfl (Nat.le_of_ble_eq_true rfl) (rmSH (by decide) (by decide)) h1
theorem bX9_takeWordOf_58 {X : pX} {Q : Option Value → pMem → Prop} {m : pMem} {k1 : Nat} {x2 : Int32} {x3 : Int32} {x4 : Int32} {x5 : Int32} {xs0 : Int32} (hW : Wf m)
    (h1 : ¬ xs0 = 0 → Go X 6 mX9_takeWordOf Q 7 [(0, .ref 1), (1, .retAddr k1), (2, .int (x2 + (1 : Int32))), (3, .int (x4 + (1 : Int32))), (4, .int (x4 + (1 : Int32)))] [] m)
    (h2 : xs0 = 0 → Q (some (.int x2)) (uI m 1 2 x5)) :
    Go X 6 mX9_takeWordOf Q 58 [(0, .ref 1), (1, .retAddr k1), (2, .int x2), (3, .int x3), (4, .int x4), (5, .int x5)] [.int xs0] m := by
  refine g_if_ne 69 dX9_takeWordOf_58 (by decide) (fun q1 => ?_) (fun q1 => ?_)
  · refine g_iinc (v := x2 + (1 : Int32)) (ls2 := [(2, .int (x2 + (1 : Int32))), (0, .ref 1), (1, .retAddr k1), (3, .int x3), (4, .int x4), (5, .int x5)]) 2 dX9_takeWordOf_69 rfl rfl (by decide) rfl ?_
    refine g_iload 4 dX9_takeWordOf_72 rfl ?_
    refine g_iconst (v := 1) dX9_takeWordOf_74 (by decide) ?_
    refine g_iadd dX9_takeWordOf_75 ?_
    refine g_istore_n (ls2 := [(3, .int (x4 + (1 : Int32))), (2, .int (x2 + (1 : Int32))), (0, .ref 1), (1, .retAddr k1), (4, .int x4), (5, .int x5)]) dX9_takeWordOf_76 rfl (by decide) rfl ?_
    refine g_iinc (v := x4 + (1 : Int32)) (ls2 := [(4, .int (x4 + (1 : Int32))), (3, .int (x4 + (1 : Int32))), (2, .int (x2 + (1 : Int32))), (0, .ref 1), (1, .retAddr k1), (5, .int x5)]) 4 dX9_takeWordOf_77 rfl rfl (by decide) rfl ?_
    refine g_goto 7 dX9_takeWordOf_80 (by decide) ?_
    exact g_ls [3, 4, 2, 1, 0] rfl (h1 q1)
  · refine g_aload_n 0 dX9_takeWordOf_61 rfl rfl ?_
    refine g_iload 5 dX9_takeWordOf_62 rfl ?_
    refine g_putI dX9_takeWordOf_64 fl9_19 (fun h => by cases h) sh1 ?_
    refine g_iload_n 2 dX9_takeWordOf_67 rfl rfl ?_
    exact g_iret dX9_takeWordOf_68 rfl enSH (h2 q1)
theorem bX9_number_0 {X : pX} {Q : Option Value → pMem → Prop} {m : pMem} {x1 : Int32} {x2 : Int32} (hW : Wf m)
    (h1 : Go X 1 mX9_number Q 8 [(0, .ref 1), (1, .int x1), (2, .int x2), (3, .int (mI m 1 2)), (4, .int (0 : Int32))] [] m) :
    Go X 1 mX9_number Q 0 [(0, .ref 1), (1, .int x1), (2, .int x2)] [] m := by
  refine g_aload_n 0 dX9_number_0 rfl rfl ?_
  refine g_getI dX9_number_1 fl9_19 sh1 ?_
  refine g_istore_n (ls2 := [(3, .int (mI m 1 2)), (0, .ref 1), (1, .int x1), (2, .int x2)]) dX9_number_4 rfl (by decide) rfl ?_
  refine g_iconst (v := 0) dX9_number_5 (by decide) ?_
  refine g_istore (ls2 := [(4, .int (0 : Int32)), (3, .int (mI m 1 2)), (0, .ref 1), (1, .int x1), (2, .int x2)]) dX9_number_6 (by decide) rfl ?_
  exact g_ls [2, 3, 4, 1, 0] rfl h1
theorem bX9_number_8 {X : pX} {Q : Option Value → pMem → Prop} {m : pMem} {x1 : Int32} {x2 : Int32} {x3 : Int32} {x4 : Int32} (hW : Wf m)
    (h1 : (mI m 1 1) ≤ (mI m 1 2) → Go X 1 mX9_number Q 77 [(0, .ref 1), (1, .int x1), (2, .int x2), (3, .int x3), (4, .int x4)] [] m)
    (h2 : ¬ ((mI m 1 1) ≤ (mI m 1 2)) → vp_in (mI m 1 2) 400)
    (h3 : ¬ ((mI m 1 1) ≤ (mI m 1 2)) → Cl X 0 mX9_isDigit [.int (mI m 2 ((mI m 1 2).toNatClampNeg))] m (fun v m2 => Go X 1 mX9_number Q 31 [(0, .ref 1), (1, .int x1), (2, .int x2), (3, .int x3), (4, .int x4)] (v.toList ++ []) m2)) :
    Go X 1 mX9_number Q 8 [(0, .ref 1), (1, .int x1), (2, .int x2), (3, .int x3), (4, .int x4)] [] m := by
  refine g_aload_n 0 dX9_number_8 rfl rfl ?_
  refine g_getI dX9_number_9 fl9_19 sh1 ?_
  refine g_aload_n 0 dX9_number_12 rfl rfl ?_
  refine g_getI dX9_number_13 fl9_15 sh1 ?_
  refine g_icmp_ge 77 dX9_number_16 (by decide) (fun q1 => ?_) (fun q1 => ?_)
  · exact g_ls [0, 1, 2, 3, 4] rfl (h1 q1)
  · refine g_aload_n 0 dX9_number_19 rfl rfl ?_
    refine g_getR dX9_number_20 fl9_11 rfl sh1 (w9_0 hW sh1) ?_
    refine g_aload_n 0 dX9_number_23 rfl rfl ?_
    refine g_getI dX9_number_24 fl9_19 sh1 ?_
    refine g_iald (j := (mI m 1 2).toNatClampNeg) dX9_number_27 (s9_0 sh1) (h2 q1) rfl ?_
    exact g_callS (As := [.int (mI m 2 ((mI m 1 2).toNatClampNeg))]) (st := []) dX9_number_28 clX9_52 rfl rfl (Nat.le_of_ble_eq_true rfl) (rmSH (by decide) (by decide)) (h3 q1)
theorem bX9_number_77 {X : pX} {Q : Option Value → pMem → Prop} {m : pMem} {x1 : Int32} {x2 : Int32} {x3 : Int32} {x4 : Int32} (hW : Wf m)
    (h1 : ¬ (mI m 1 2) = x3 → (5 : Int32) < ((mI m 1 2) - x3) → Cl X 0 mX9_fail [.ref 1, .int x3, .int (1 : Int32)] m (fun v m2 => Go X 1 mX9_number Q 122 [(0, .ref 1), (1, .int x1), (2, .int x2), (3, .int x3), (4, .int x4)] (v.toList ++ []) m2))
    (h2 : ¬ (mI m 1 2) = x3 → ¬ ((5 : Int32) < ((mI m 1 2) - x3)) → x4 < x1 → Cl X 0 mX9_fail [.ref 1, .int x3, .int (1 : Int32)] m (fun v m2 => Go X 1 mX9_number Q 122 [(0, .ref 1), (1, .int x1), (2, .int x2), (3, .int x3), (4, .int x4)] (v.toList ++ []) m2))
    (h3 : ¬ (mI m 1 2) = x3 → ¬ ((5 : Int32) < ((mI m 1 2) - x3)) → ¬ (x4 < x1) → x4 ≤ x2 → Q (some (.int x4)) m)
    (h4 : ¬ (mI m 1 2) = x3 → ¬ ((5 : Int32) < ((mI m 1 2) - x3)) → ¬ (x4 < x1) → ¬ (x4 ≤ x2) → Cl X 0 mX9_fail [.ref 1, .int x3, .int (1 : Int32)] m (fun v m2 => Go X 1 mX9_number Q 122 [(0, .ref 1), (1, .int x1), (2, .int x2), (3, .int x3), (4, .int x4)] (v.toList ++ []) m2))
    (h5 : (mI m 1 2) = x3 → Cl X 0 mX9_fail [.ref 1, .int x3, .int (0 : Int32)] m (fun v m2 => Go X 1 mX9_number Q 91 [(0, .ref 1), (1, .int x1), (2, .int x2), (3, .int x3), (4, .int x4)] (v.toList ++ []) m2)) :
    Go X 1 mX9_number Q 77 [(0, .ref 1), (1, .int x1), (2, .int x2), (3, .int x3), (4, .int x4)] [] m := by
  refine g_aload_n 0 dX9_number_77 rfl rfl ?_
  refine g_getI dX9_number_78 fl9_19 sh1 ?_
  refine g_iload_n 3 dX9_number_81 rfl rfl ?_
  refine g_icmp_ne 94 dX9_number_82 (by decide) (fun q1 => ?_) (fun q1 => ?_)
  · refine g_aload_n 0 dX9_number_94 rfl rfl ?_
    refine g_getI dX9_number_95 fl9_19 sh1 ?_
    refine g_iload_n 3 dX9_number_98 rfl rfl ?_
    refine g_isub dX9_number_99 ?_
    refine g_iconst (v := 5) dX9_number_100 (by decide) ?_
    refine g_icmp_gt 116 dX9_number_101 (by decide) (fun q2 => ?_) (fun q2 => ?_)
    · refine g_aload_n 0 dX9_number_116 rfl rfl ?_
      refine g_iload_n 3 dX9_number_117 rfl rfl ?_
      refine g_iconst (v := 1) dX9_number_118 (by decide) ?_
      exact g_callV (As := [.int x3, .int (1 : Int32)]) (st := []) dX9_number_119 clX9_55 sh1 rfl rfl (Nat.le_of_ble_eq_true rfl) (rmSH (by decide) (by decide)) (h1 q1 q2)
    · refine g_iload 4 dX9_number_104 rfl ?_
      refine g_iload_n 1 dX9_number_106 rfl rfl ?_
      refine g_icmp_lt 116 dX9_number_107 (by decide) (fun q3 => ?_) (fun q3 => ?_)
      · refine g_aload_n 0 dX9_number_116 rfl rfl ?_
        refine g_iload_n 3 dX9_number_117 rfl rfl ?_
        refine g_iconst (v := 1) dX9_number_118 (by decide) ?_
        exact g_callV (As := [.int x3, .int (1 : Int32)]) (st := []) dX9_number_119 clX9_55 sh1 rfl rfl (Nat.le_of_ble_eq_true rfl) (rmSH (by decide) (by decide)) (h2 q1 q2 q3)
      · refine g_iload 4 dX9_number_110 rfl ?_
        refine g_iload_n 2 dX9_number_112 rfl rfl ?_
        refine g_icmp_le 125 dX9_number_113 (by decide) (fun q4 => ?_) (fun q4 => ?_)
        · refine g_iload 4 dX9_number_125 rfl ?_
          exact g_iret dX9_number_127 rfl enSH (h3 q1 q2 q3 q4)
        · refine g_aload_n 0 dX9_number_116 rfl rfl ?_
          refine g_iload_n 3 dX9_number_117 rfl rfl ?_
          refine g_iconst (v := 1) dX9_number_118 (by decide) ?_
          exact g_callV (As := [.int x3, .int (1 : Int32)]) (st := []) dX9_number_119 clX9_55 sh1 rfl rfl (Nat.le_of_ble_eq_true rfl) (rmSH (by decide) (by decide)) (h4 q1 q2 q3 q4)
  · refine g_aload_n 0 dX9_number_85 rfl rfl ?_
    refine g_iload_n 3 dX9_number_86 rfl rfl ?_
    refine g_iconst (v := 0) dX9_number_87 (by decide) ?_
    exact g_callV (As := [.int x3, .int (0 : Int32)]) (st := []) dX9_number_88 clX9_55 sh1 rfl rfl (Nat.le_of_ble_eq_true rfl) (rmSH (by decide) (by decide)) (h5 q1)
theorem bX9_number_31 {X : pX} {Q : Option Value → pMem → Prop} {m : pMem} {x1 : Int32} {x2 : Int32} {x3 : Int32} {x4 : Int32} {xs0 : Int32} (hW : Wf m)
    (h1 : xs0 = 0 → Go X 1 mX9_number Q 77 [(0, .ref 1), (1, .int x1), (2, .int x2), (3, .int x3), (4, .int x4)] [] m)
    (h2 : ¬ (xs0 = 0) → (5 : Int32) ≤ ((mI m 1 2) - x3) → Go X 1 mX9_number Q 8 [(0, .ref 1), (1, .int x1), (2, .int x2), (3, .int x3), (4, .int x4)] [] (uI m 1 2 ((mI m 1 2) + (1 : Int32))))
    (h3 : ¬ (xs0 = 0) → ¬ ((5 : Int32) ≤ ((mI m 1 2) - x3)) → vp_in (mI m 1 2) 400)
    (h4 : ¬ (xs0 = 0) → ¬ ((5 : Int32) ≤ ((mI m 1 2) - x3)) → Go X 1 mX9_number Q 8 [(0, .ref 1), (1, .int x1), (2, .int x2), (3, .int x3), (4, .int (((x4 * (10 : Int32)) + (mI m 2 ((mI m 1 2).toNatClampNeg))) - (48 : Int32)))] [] (uI m 1 2 ((mI m 1 2) + (1 : Int32)))) :
    Go X 1 mX9_number Q 31 [(0, .ref 1), (1, .int x1), (2, .int x2), (3, .int x3), (4, .int x4)] [.int xs0] m := by
  refine g_if_eq 77 dX9_number_31 (by decide) (fun q1 => ?_) (fun q1 => ?_)
  · exact g_ls [0, 1, 2, 3, 4] rfl (h1 q1)
  · refine g_aload_n 0 dX9_number_34 rfl rfl ?_
    refine g_getI dX9_number_35 fl9_19 sh1 ?_
    refine g_iload_n 3 dX9_number_38 rfl rfl ?_
    refine g_isub dX9_number_39 ?_
    refine g_iconst (v := 5) dX9_number_40 (by decide) ?_
    refine g_icmp_ge 64 dX9_number_41 (by decide) (fun q2 => ?_) (fun q2 => ?_)
    · refine g_aload_n 0 dX9_number_64 rfl rfl ?_
      refine g_dup dX9_number_65 rfl ?_
      refine g_getI dX9_number_66 fl9_19 sh1 ?_
      refine g_iconst (v := 1) dX9_number_69 (by decide) ?_
      refine g_iadd dX9_number_70 ?_
      refine g_putI dX9_number_71 fl9_19 (fun h => by cases h) sh1 ?_
      refine g_goto 8 dX9_number_74 (by decide) ?_
      exact g_ls [0, 1, 2, 3, 4] rfl (h2 q1 q2)
    · refine g_iload 4 dX9_number_44 rfl ?_
      refine g_bipush (v := 10) dX9_number_46 (by decide) ?_
      refine g_imul dX9_number_48 ?_
      refine g_aload_n 0 dX9_number_49 rfl rfl ?_
      refine g_getR dX9_number_50 fl9_11 rfl sh1 (w9_0 hW sh1) ?_
      refine g_aload_n 0 dX9_number_53 rfl rfl ?_
      refine g_getI dX9_number_54 fl9_19 sh1 ?_
      refine g_iald (j := (mI m 1 2).toNatClampNeg) dX9_number_57 (s9_0 sh1) (h3 q1 q2) rfl ?_
      refine g_iadd dX9_number_58 ?_
      refine g_bipush (v := 48) dX9_number_59 (by decide) ?_
      refine g_isub dX9_number_61 ?_
      refine g_istore (ls2 := [(4, .int (((x4 * (10 : Int32)) + (mI m 2 ((mI m 1 2).toNatClampNeg))) - (48 : Int32))), (0, .ref 1), (1, .int x1), (2, .int x2), (3, .int x3)]) dX9_number_62 (by decide) rfl ?_
      refine g_aload_n 1 dX9_number_64 rfl rfl ?_
      refine g_dup dX9_number_65 rfl ?_
      refine g_getI dX9_number_66 fl9_19 sh1 ?_
      refine g_iconst (v := 1) dX9_number_69 (by decide) ?_
      refine g_iadd dX9_number_70 ?_
      refine g_putI dX9_number_71 fl9_19 (fun h => by cases h) sh1 ?_
      refine g_goto 8 dX9_number_74 (by decide) ?_
      exact g_ls [1, 2, 3, 4, 0] rfl (h4 q1 q2)
theorem bX9_number_122 {X : pX} {Q : Option Value → pMem → Prop} {m : pMem} {x1 : Int32} {x2 : Int32} {x3 : Int32} {x4 : Int32} {xs0 : Int32} (hW : Wf m)
    (h1 : Q (some (.int (-1 : Int32))) m) :
    Go X 1 mX9_number Q 122 [(0, .ref 1), (1, .int x1), (2, .int x2), (3, .int x3), (4, .int x4)] [.int xs0] m := by
  refine g_pop dX9_number_122 rfl ?_
  refine g_iconst (v := -1) dX9_number_123 (by decide) ?_
  exact g_iret dX9_number_124 rfl enSH h1
theorem bX9_number_91 {X : pX} {Q : Option Value → pMem → Prop} {m : pMem} {x1 : Int32} {x2 : Int32} {x3 : Int32} {x4 : Int32} {xs0 : Int32} (hW : Wf m)
    (h1 : Q (some (.int (-1 : Int32))) m) :
    Go X 1 mX9_number Q 91 [(0, .ref 1), (1, .int x1), (2, .int x2), (3, .int x3), (4, .int x4)] [.int xs0] m := by
  refine g_pop dX9_number_91 rfl ?_
  refine g_iconst (v := -1) dX9_number_92 (by decide) ?_
  exact g_iret dX9_number_93 rfl enSH h1
theorem bX12_blanks_0 {X : pX} {Q : Option Value → pMem → Prop} {m : pMem} (hW : Wf m)
    (h1 : Cl X 0 mX12_sign [.ref 535] m (fun v m2 => Go X 1 mX12_blanks Q 4 [(0, .ref 535)] (v.toList ++ []) m2)) :
    Go X 1 mX12_blanks Q 0 [(0, .ref 535)] [] m := by
  refine g_aload_n 0 dX12_blanks_0 rfl rfl ?_
  exact g_callV (As := []) (st := []) dX12_blanks_1 clX12_166 sh535 rfl rfl (Nat.le_of_ble_eq_true rfl) (rmSH (by decide) (by decide)) h1
theorem bX12_blanks_4 {X : pX} {Q : Option Value → pMem → Prop} {m : pMem} {xs0 : Int32} (hW : Wf m)
    (h1 : ¬ xs0 = (32 : Int32) → Q none m)
    (h2 : xs0 = (32 : Int32) → Go X 1 mX12_blanks Q 0 [(0, .ref 535)] [] (uI m 535 20 ((mI m 535 20) + (1 : Int32)))) :
    Go X 1 mX12_blanks Q 4 [(0, .ref 535)] [.int xs0] m := by
  refine g_bipush (v := 32) dX12_blanks_4 (by decide) ?_
  refine g_icmp_ne 22 dX12_blanks_6 (by decide) (fun q1 => ?_) (fun q1 => ?_)
  · exact g_vret dX12_blanks_22 rfl enSH (h1 q1)
  · refine g_aload_n 0 dX12_blanks_9 rfl rfl ?_
    refine g_dup dX12_blanks_10 rfl ?_
    refine g_getI dX12_blanks_11 fl12_163 sh535 ?_
    refine g_iconst (v := 1) dX12_blanks_14 (by decide) ?_
    refine g_iadd dX12_blanks_15 ?_
    refine g_putI dX12_blanks_16 fl12_163 (fun h => by cases h) sh535 ?_
    refine g_goto 0 dX12_blanks_19 (by decide) ?_
    exact g_ls [0] rfl (h2 q1)
theorem bX12_isDigit_0 {X : pX} {Q : Option Value → pMem → Prop} {m : pMem} (hW : Wf m)
    (h1 : Cl X 0 mX12_sign [.ref 535] m (fun v m2 => Go X 1 mX12_isDigit Q 4 [(0, .ref 535)] (v.toList ++ []) m2)) :
    Go X 1 mX12_isDigit Q 0 [(0, .ref 535)] [] m := by
  refine g_aload_n 0 dX12_isDigit_0 rfl rfl ?_
  exact g_callV (As := []) (st := []) dX12_isDigit_1 clX12_166 sh535 rfl rfl (Nat.le_of_ble_eq_true rfl) (rmSH (by decide) (by decide)) h1
theorem bX12_isDigit_4 {X : pX} {Q : Option Value → pMem → Prop} {m : pMem} {xs0 : Int32} (hW : Wf m)
    (h1 : ¬ xs0 < (48 : Int32) ∧ ¬ (57 : Int32) < xs0 → Q (some (.int (1 : Int32))) m)
    (h2 : ¬ (¬ xs0 < (48 : Int32) ∧ ¬ (57 : Int32) < xs0) → Q (some (.int (0 : Int32))) m) :
    Go X 1 mX12_isDigit Q 4 [(0, .ref 535)] [.int xs0] m := by
  refine g_i2l dX12_isDigit_4 ?_
  refine g_ldc2 (v := 48) dX12_isDigit_5 cjX12_170 ?_
  refine g_ldc2 (v := 57) dX12_isDigit_8 cjX12_172 ?_
  refine g_callS (As := [.long xs0.toInt64, .long (48 : Int64), .long (57 : Int64)]) (st := []) dX12_isDigit_11 clX12_128 rfl rfl (Nat.le_of_ble_eq_true rfl) (rmSH (by decide) (by decide)) (s_in (x := xs0) (lo := (48 : Int32)) (hi := (57 : Int32)) hW (by first | rfl | decide) (by first | rfl | decide) (by first | rfl | decide) (fun q1 => ?_) (fun q1 => ?_))
  · exact g_bret dX12_isDigit_14 rfl (Or.inr rfl) enSH (h1 q1)
  · exact g_bret dX12_isDigit_14 rfl (Or.inl rfl) enSH (h2 q1)
theorem bX12_stood_0 {X : pX} {Q : Option Value → pMem → Prop} {m : pMem} {k1 : Nat} (hW : Wf m)
    (h1 : Go X 5 mX12_stood Q 5 [(0, .ref 535), (1, .retAddr k1), (2, .int (mI m 535 20))] [] m) :
    Go X 5 mX12_stood Q 0 [(0, .ref 535), (1, .retAddr k1)] [] m := by
  refine g_aload_n 0 dX12_stood_0 rfl rfl ?_
  refine g_getI dX12_stood_1 fl12_163 sh535 ?_
  refine g_istore_n (ls2 := [(2, .int (mI m 535 20)), (0, .ref 535), (1, .retAddr k1)]) dX12_stood_4 rfl (by decide) rfl ?_
  exact g_ls [1, 2, 0] rfl h1
theorem bX12_stood_5 {X : pX} {Q : Option Value → pMem → Prop} {m : pMem} {k1 : Nat} {x2 : Int32} (hW : Wf m)
    (h1 : (mI m 535 19) ≤ x2 → 1 ≤ k1 ∧ k1 ≤ 25)
    (h2 : (mI m 535 19) ≤ x2 → Cl X 1 mJ0_length_8abf5 [.retAddr k1] m (fun v m2 => Go X 5 mX12_stood Q 51 [(0, .ref 535), (1, .retAddr k1), (2, .int x2)] (v.toList ++ [.int (x2 - (mI m 535 20))]) m2))
    (h3 : ¬ ((mI m 535 19) ≤ x2) → vp_in x2 400)
    (h4 : ¬ ((mI m 535 19) ≤ x2) → (mI m 554 x2.toNatClampNeg) < (97 : Int32) → 1 ≤ k1 ∧ k1 ≤ 25)
    (h5 : ¬ ((mI m 535 19) ≤ x2) → (mI m 554 x2.toNatClampNeg) < (97 : Int32) → Cl X 1 mJ0_length_8abf5 [.retAddr k1] m (fun v m2 => Go X 5 mX12_stood Q 51 [(0, .ref 535), (1, .retAddr k1), (2, .int x2)] (v.toList ++ [.int (x2 - (mI m 535 20))]) m2))
    (h6 : ¬ ((mI m 535 19) ≤ x2) → ¬ ((mI m 554 x2.toNatClampNeg) < (97 : Int32)) → vp_in x2 400)
    (h7 : ¬ ((mI m 535 19) ≤ x2) → ¬ ((mI m 554 x2.toNatClampNeg) < (97 : Int32)) → (122 : Int32) < (mI m 554 x2.toNatClampNeg) → 1 ≤ k1 ∧ k1 ≤ 25)
    (h8 : ¬ ((mI m 535 19) ≤ x2) → ¬ ((mI m 554 x2.toNatClampNeg) < (97 : Int32)) → (122 : Int32) < (mI m 554 x2.toNatClampNeg) → Cl X 1 mJ0_length_8abf5 [.retAddr k1] m (fun v m2 => Go X 5 mX12_stood Q 51 [(0, .ref 535), (1, .retAddr k1), (2, .int x2)] (v.toList ++ [.int (x2 - (mI m 535 20))]) m2))
    (h9 : ¬ ((mI m 535 19) ≤ x2) → ¬ ((mI m 554 x2.toNatClampNeg) < (97 : Int32)) → ¬ ((122 : Int32) < (mI m 554 x2.toNatClampNeg)) → Go X 5 mX12_stood Q 5 [(0, .ref 535), (1, .retAddr k1), (2, .int (x2 + (1 : Int32)))] [] m) :
    Go X 5 mX12_stood Q 5 [(0, .ref 535), (1, .retAddr k1), (2, .int x2)] [] m := by
  refine g_iload_n 2 dX12_stood_5 rfl rfl ?_
  refine g_aload_n 0 dX12_stood_6 rfl rfl ?_
  refine g_getI dX12_stood_7 fl12_132 sh535 ?_
  refine g_icmp_ge 41 dX12_stood_10 (by decide) (fun q1 => ?_) (fun q1 => ?_)
  · refine g_iload_n 2 dX12_stood_41 rfl rfl ?_
    refine g_aload_n 0 dX12_stood_42 rfl rfl ?_
    refine g_getI dX12_stood_43 fl12_163 sh535 ?_
    refine g_isub dX12_stood_46 ?_
    refine g_aload_nO 1 dX12_stood_47 rfl rfl ?_
    exact g_callVO (As := []) (st := [.int (x2 - (mI m 535 20))]) dX12_stood_48 coX12_174 rfl (h1 q1) rfl rfl (Nat.le_of_ble_eq_true rfl) (rmSH (by decide) (by decide)) (h2 q1)
  · refine g_aload_n 0 dX12_stood_13 rfl rfl ?_
    refine g_getR dX12_stood_14 fl12_68 rfl sh535 (w12_29 hW sh535) ?_
    refine g_iload_n 2 dX12_stood_17 rfl rfl ?_
    refine g_bald (j := x2.toNatClampNeg) dX12_stood_18 (s12_29 sh535) (h3 q1) rfl ?_
    refine g_bipush (v := 97) dX12_stood_19 (by decide) ?_
    refine g_icmp_lt 41 dX12_stood_21 (by decide) (fun q2 => ?_) (fun q2 => ?_)
    · refine g_iload_n 2 dX12_stood_41 rfl rfl ?_
      refine g_aload_n 0 dX12_stood_42 rfl rfl ?_
      refine g_getI dX12_stood_43 fl12_163 sh535 ?_
      refine g_isub dX12_stood_46 ?_
      refine g_aload_nO 1 dX12_stood_47 rfl rfl ?_
      exact g_callVO (As := []) (st := [.int (x2 - (mI m 535 20))]) dX12_stood_48 coX12_174 rfl (h4 q1 q2) rfl rfl (Nat.le_of_ble_eq_true rfl) (rmSH (by decide) (by decide)) (h5 q1 q2)
    · refine g_aload_n 0 dX12_stood_24 rfl rfl ?_
      refine g_getR dX12_stood_25 fl12_68 rfl sh535 (w12_29 hW sh535) ?_
      refine g_iload_n 2 dX12_stood_28 rfl rfl ?_
      refine g_bald (j := x2.toNatClampNeg) dX12_stood_29 (s12_29 sh535) (h6 q1 q2) rfl ?_
      refine g_bipush (v := 122) dX12_stood_30 (by decide) ?_
      refine g_icmp_gt 41 dX12_stood_32 (by decide) (fun q3 => ?_) (fun q3 => ?_)
      · refine g_iload_n 2 dX12_stood_41 rfl rfl ?_
        refine g_aload_n 0 dX12_stood_42 rfl rfl ?_
        refine g_getI dX12_stood_43 fl12_163 sh535 ?_
        refine g_isub dX12_stood_46 ?_
        refine g_aload_nO 1 dX12_stood_47 rfl rfl ?_
        exact g_callVO (As := []) (st := [.int (x2 - (mI m 535 20))]) dX12_stood_48 coX12_174 rfl (h7 q1 q2 q3) rfl rfl (Nat.le_of_ble_eq_true rfl) (rmSH (by decide) (by decide)) (h8 q1 q2 q3)
      · refine g_iinc (v := x2 + (1 : Int32)) (ls2 := [(2, .int (x2 + (1 : Int32))), (0, .ref 535), (1, .retAddr k1)]) 2 dX12_stood_35 rfl rfl (by decide) rfl ?_
        refine g_goto 5 dX12_stood_38 (by decide) ?_
        exact g_ls [1, 2, 0] rfl (h9 q1 q2 q3)
theorem bX12_stood_51 {X : pX} {Q : Option Value → pMem → Prop} {m : pMem} {k1 : Nat} {x2 : Int32} {xs0 : Int32} {xs1 : Int32} (hW : Wf m)
    (h1 : ¬ xs1 = xs0 → Go X 5 mX12_stood Q 63 [(0, .ref 535), (1, .retAddr k1), (3, .int (0 : Int32)), (4, .int (0 : Int32))] [] m)
    (h2 : xs1 = xs0 → Go X 5 mX12_stood Q 63 [(0, .ref 535), (1, .retAddr k1), (3, .int (1 : Int32)), (4, .int (0 : Int32))] [] m) :
    Go X 5 mX12_stood Q 51 [(0, .ref 535), (1, .retAddr k1), (2, .int x2)] [.int xs0, .int xs1] m := by
  refine g_icmp_ne 58 dX12_stood_51 (by decide) (fun q1 => ?_) (fun q1 => ?_)
  · refine g_iconst (v := 0) dX12_stood_58 (by decide) ?_
    refine g_istore_n (ls2 := [(3, .int (0 : Int32)), (0, .ref 535), (1, .retAddr k1), (2, .int x2)]) dX12_stood_59 rfl (by decide) rfl ?_
    refine g_iconst (v := 0) dX12_stood_60 (by decide) ?_
    refine g_istore (ls2 := [(4, .int (0 : Int32)), (3, .int (0 : Int32)), (0, .ref 535), (1, .retAddr k1), (2, .int x2)]) dX12_stood_61 (by decide) rfl ?_
    exact g_ls [2, 3, 1, 0] rfl (h1 q1)
  · refine g_iconst (v := 1) dX12_stood_54 (by decide) ?_
    refine g_goto 59 dX12_stood_55 (by decide) ?_
    refine g_istore_n (ls2 := [(3, .int (1 : Int32)), (0, .ref 535), (1, .retAddr k1), (2, .int x2)]) dX12_stood_59 rfl (by decide) rfl ?_
    refine g_iconst (v := 0) dX12_stood_60 (by decide) ?_
    refine g_istore (ls2 := [(4, .int (0 : Int32)), (3, .int (1 : Int32)), (0, .ref 535), (1, .retAddr k1), (2, .int x2)]) dX12_stood_61 (by decide) rfl ?_
    exact g_ls [2, 3, 1, 0] rfl (h2 q1)
theorem bX12_stood_63 {X : pX} {Q : Option Value → pMem → Prop} {m : pMem} {k1 : Nat} {x3 : Int32} {x4 : Int32} (hW : Wf m)
    (h1 : 1 ≤ k1 ∧ k1 ≤ 25)
    (h2 : Cl X 1 mJ0_length_8abf5 [.retAddr k1] m (fun v m2 => Go X 5 mX12_stood Q 69 [(0, .ref 535), (1, .retAddr k1), (3, .int x3), (4, .int x4)] (v.toList ++ [.int x4]) m2)) :
    Go X 5 mX12_stood Q 63 [(0, .ref 535), (1, .retAddr k1), (3, .int x3), (4, .int x4)] [] m := by
  refine g_iload 3 dX12_stood_63 rfl ?_
  refine g_aload_nO 1 dX12_stood_65 rfl rfl ?_
  exact g_callVO (As := []) (st := [.int x4]) dX12_stood_66 coX12_174 rfl h1 rfl rfl (Nat.le_of_ble_eq_true rfl) (rmSH (by decide) (by decide)) h2
theorem bX12_stood_69 {X : pX} {Q : Option Value → pMem → Prop} {m : pMem} {k1 : Nat} {x3 : Int32} {x4 : Int32} {xs0 : Int32} {xs1 : Int32} (hW : Wf m)
    (h1 : xs0 ≤ xs1 → x3 = 0 ∨ x3 = 1)
    (h2 : xs0 ≤ xs1 → Q (some (.int x3)) m)
    (h3 : ¬ (xs0 ≤ xs1) → x3 = 0 → x3 = 0 ∨ x3 = 1)
    (h4 : ¬ (xs0 ≤ xs1) → x3 = 0 → Q (some (.int x3)) m)
    (h5 : ¬ (xs0 ≤ xs1) → ¬ (x3 = 0) → vp_in ((mI m 535 20) + x4) 400)
    (h6 : ¬ (xs0 ≤ xs1) → ¬ (x3 = 0) → 1 ≤ k1 ∧ k1 ≤ 25)
    (h7 : ¬ (xs0 ≤ xs1) → ¬ (x3 = 0) → Cl X 4 mJ0_charAt_5068e [.retAddr k1, .int x4] m (fun v m2 => Go X 5 mX12_stood Q 94 [(0, .ref 535), (1, .retAddr k1), (3, .int x3), (4, .int x4)] (v.toList ++ [.int (mI m 554 (((mI m 535 20) + x4).toNatClampNeg))]) m2)) :
    Go X 5 mX12_stood Q 69 [(0, .ref 535), (1, .retAddr k1), (3, .int x3), (4, .int x4)] [.int xs0, .int xs1] m := by
  refine g_icmp_ge 109 dX12_stood_69 (by decide) (fun q1 => ?_) (fun q1 => ?_)
  · refine g_iload_n 2 dX12_stood_109 rfl rfl ?_
    exact g_bret dX12_stood_110 rfl (h1 q1) enSH (h2 q1)
  · refine g_iload_n 2 dX12_stood_72 rfl rfl ?_
    refine g_if_eq 109 dX12_stood_73 (by decide) (fun q2 => ?_) (fun q2 => ?_)
    · refine g_iload_n 2 dX12_stood_109 rfl rfl ?_
      exact g_bret dX12_stood_110 rfl (h3 q1 q2) enSH (h4 q1 q2)
    · refine g_aload_n 0 dX12_stood_76 rfl rfl ?_
      refine g_getR dX12_stood_77 fl12_68 rfl sh535 (w12_29 hW sh535) ?_
      refine g_aload_n 0 dX12_stood_80 rfl rfl ?_
      refine g_getI dX12_stood_81 fl12_163 sh535 ?_
      refine g_iload 3 dX12_stood_84 rfl ?_
      refine g_iadd dX12_stood_86 ?_
      refine g_bald (j := ((mI m 535 20) + x4).toNatClampNeg) dX12_stood_87 (s12_29 sh535) (h5 q1 q2) rfl ?_
      refine g_aload_nO 1 dX12_stood_88 rfl rfl ?_
      refine g_iload 3 dX12_stood_89 rfl ?_
      exact g_callVO (As := [.int x4]) (st := [.int (mI m 554 (((mI m 535 20) + x4).toNatClampNeg))]) dX12_stood_91 coX12_179 rfl (h6 q1 q2) rfl rfl (Nat.le_of_ble_eq_true rfl) (rmSH (by decide) (by decide)) (h7 q1 q2)
theorem bX12_stood_94 {X : pX} {Q : Option Value → pMem → Prop} {m : pMem} {k1 : Nat} {x3 : Int32} {x4 : Int32} {xs0 : Int32} {xs1 : Int32} (hW : Wf m)
    (h1 : ¬ xs1 = xs0 → Go X 5 mX12_stood Q 63 [(0, .ref 535), (1, .retAddr k1), (3, .int (0 : Int32)), (4, .int (x4 + (1 : Int32)))] [] m)
    (h2 : xs1 = xs0 → Go X 5 mX12_stood Q 63 [(0, .ref 535), (1, .retAddr k1), (3, .int (1 : Int32)), (4, .int (x4 + (1 : Int32)))] [] m) :
    Go X 5 mX12_stood Q 94 [(0, .ref 535), (1, .retAddr k1), (3, .int x3), (4, .int x4)] [.int xs0, .int xs1] m := by
  refine g_icmp_ne 101 dX12_stood_94 (by decide) (fun q1 => ?_) (fun q1 => ?_)
  · refine g_iconst (v := 0) dX12_stood_101 (by decide) ?_
    refine g_istore_n (ls2 := [(3, .int (0 : Int32)), (0, .ref 535), (1, .retAddr k1), (4, .int x4)]) dX12_stood_102 rfl (by decide) rfl ?_
    refine g_iinc (v := x4 + (1 : Int32)) (ls2 := [(4, .int (x4 + (1 : Int32))), (3, .int (0 : Int32)), (0, .ref 535), (1, .retAddr k1)]) 3 dX12_stood_103 rfl rfl (by decide) rfl ?_
    refine g_goto 63 dX12_stood_106 (by decide) ?_
    exact g_ls [2, 3, 1, 0] rfl (h1 q1)
  · refine g_iconst (v := 1) dX12_stood_97 (by decide) ?_
    refine g_goto 102 dX12_stood_98 (by decide) ?_
    refine g_istore_n (ls2 := [(3, .int (1 : Int32)), (0, .ref 535), (1, .retAddr k1), (4, .int x4)]) dX12_stood_102 rfl (by decide) rfl ?_
    refine g_iinc (v := x4 + (1 : Int32)) (ls2 := [(4, .int (x4 + (1 : Int32))), (3, .int (1 : Int32)), (0, .ref 535), (1, .retAddr k1)]) 3 dX12_stood_103 rfl rfl (by decide) rfl ?_
    refine g_goto 63 dX12_stood_106 (by decide) ?_
    exact g_ls [2, 3, 1, 0] rfl (h2 q1)
theorem bX12_takes_0 {X : pX} {Q : Option Value → pMem → Prop} {m : pMem} {k1 : Nat} (hW : Wf m)
    (h1 : Cl X 1 mX12_blanks [.ref 535] m (fun v m2 => Go X 6 mX12_takes Q 4 [(0, .ref 535), (1, .retAddr k1)] (v.toList ++ []) m2)) :
    Go X 6 mX12_takes Q 0 [(0, .ref 535), (1, .retAddr k1)] [] m := by
  refine g_aload_n 0 dX12_takes_0 rfl rfl ?_
  exact g_callV (As := []) (st := []) dX12_takes_1 clX12_183 sh535 rfl rfl (Nat.le_of_ble_eq_true rfl) (rmSH (by decide) (by decide)) h1
theorem bX12_takes_4 {X : pX} {Q : Option Value → pMem → Prop} {m : pMem} {k1 : Nat} (hW : Wf m)
    (h1 : Cl X 5 mX12_stood [.ref 535, .retAddr k1] m (fun v m2 => Go X 6 mX12_takes Q 9 [(0, .ref 535), (1, .retAddr k1)] (v.toList ++ []) m2)) :
    Go X 6 mX12_takes Q 4 [(0, .ref 535), (1, .retAddr k1)] [] m := by
  refine g_aload_n 0 dX12_takes_4 rfl rfl ?_
  refine g_aload_nO 1 dX12_takes_5 rfl rfl ?_
  exact g_callV (As := [.retAddr k1]) (st := []) dX12_takes_6 clX12_186 sh535 rfl rfl (Nat.le_of_ble_eq_true rfl) (rmSH (by decide) (by decide)) h1
theorem bX12_takes_9 {X : pX} {Q : Option Value → pMem → Prop} {m : pMem} {k1 : Nat} {xs0 : Int32} (hW : Wf m)
    (h1 : xs0 = 0 → xs0 = 0 ∨ xs0 = 1)
    (h2 : xs0 = 0 → Q (some (.int xs0)) (uI m 535 20 ((mI m 535 20) + (0 : Int32))))
    (h3 : ¬ (xs0 = 0) → 1 ≤ k1 ∧ k1 ≤ 25)
    (h4 : ¬ (xs0 = 0) → Cl X 1 mJ0_length_8abf5 [.retAddr k1] m (fun v m2 => Go X 6 mX12_takes Q 23 [(0, .ref 535), (1, .retAddr k1), (2, .int xs0)] (v.toList ++ [.int (mI m 535 20), .ref 535]) m2)) :
    Go X 6 mX12_takes Q 9 [(0, .ref 535), (1, .retAddr k1)] [.int xs0] m := by
  refine g_istore_n (ls2 := [(2, .int xs0), (0, .ref 535), (1, .retAddr k1)]) dX12_takes_9 rfl (by decide) rfl ?_
  refine g_aload_n 1 dX12_takes_10 rfl rfl ?_
  refine g_dup dX12_takes_11 rfl ?_
  refine g_getI dX12_takes_12 fl12_163 sh535 ?_
  refine g_iload_n 0 dX12_takes_15 rfl rfl ?_
  refine g_if_eq 26 dX12_takes_16 (by decide) (fun q1 => ?_) (fun q1 => ?_)
  · refine g_iconst (v := 0) dX12_takes_26 (by decide) ?_
    refine g_iadd dX12_takes_27 ?_
    refine g_putI dX12_takes_28 fl12_163 (fun h => by cases h) sh535 ?_
    refine g_iload_n 0 dX12_takes_31 rfl rfl ?_
    exact g_bret dX12_takes_32 rfl (h1 q1) enSH (h2 q1)
  · refine g_aload_nO 2 dX12_takes_19 rfl rfl ?_
    refine g_ls [1, 2, 0] (ls2 := [(0, .ref 535), (1, .retAddr k1), (2, .int xs0)]) rfl ?_
    exact g_callVO (As := []) (st := [.int (mI m 535 20), .ref 535]) dX12_takes_20 coX12_174 rfl (h3 q1) rfl rfl (Nat.le_of_ble_eq_true rfl) (rmSH (by decide) (by decide)) (h4 q1)
theorem bX12_takes_23 {X : pX} {Q : Option Value → pMem → Prop} {m : pMem} {k1 : Nat} {x2 : Int32} {xs0 : Int32} {xs1 : Int32} (hW : Wf m)
    (h1 : x2 = 0 ∨ x2 = 1)
    (h2 : Q (some (.int x2)) (uI m 535 20 (xs1 + xs0))) :
    Go X 6 mX12_takes Q 23 [(0, .ref 535), (1, .retAddr k1), (2, .int x2)] [.int xs0, .int xs1, .ref 535] m := by
  refine g_goto 27 dX12_takes_23 (by decide) ?_
  refine g_iadd dX12_takes_27 ?_
  refine g_putI dX12_takes_28 fl12_163 (fun h => by cases h) sh535 ?_
  refine g_iload_n 2 dX12_takes_31 rfl rfl ?_
  exact g_bret dX12_takes_32 rfl h1 enSH h2
theorem bX12_digits_0 {X : pX} {Q : Option Value → pMem → Prop} {m : pMem} {x1 : Int32} (hW : Wf m)
    (h1 : Cl X 1 mX12_isDigit [.ref 535] m (fun v m2 => Go X 2 mX12_digits Q 4 [(0, .ref 535), (1, .int x1)] (v.toList ++ []) m2)) :
    Go X 2 mX12_digits Q 0 [(0, .ref 535), (1, .int x1)] [] m := by
  refine g_aload_n 0 dX12_digits_0 rfl rfl ?_
  exact g_callV (As := []) (st := []) dX12_digits_1 clX12_203 sh535 rfl rfl (Nat.le_of_ble_eq_true rfl) (rmSH (by decide) (by decide)) h1
theorem bX12_digits_4 {X : pX} {Q : Option Value → pMem → Prop} {m : pMem} {x1 : Int32} {xs0 : Int32} (hW : Wf m)
    (h1 : ¬ xs0 = 0 → Go X 2 mX12_digits Q 25 [(0, .ref 535), (1, .int x1), (2, .int (mI m 535 20)), (3, .int (0 : Int32))] [] m)
    (h2 : xs0 = 0 → Cl X 0 mX12_fails [.ref 535, .int (0 : Int32), .int (mI m 535 20)] m (fun v m2 => Go X 2 mX12_digits Q 16 [(0, .ref 535), (1, .int x1)] (v.toList ++ []) m2)) :
    Go X 2 mX12_digits Q 4 [(0, .ref 535), (1, .int x1)] [.int xs0] m := by
  refine g_if_ne 18 dX12_digits_4 (by decide) (fun q1 => ?_) (fun q1 => ?_)
  · refine g_aload_n 0 dX12_digits_18 rfl rfl ?_
    refine g_getI dX12_digits_19 fl12_163 sh535 ?_
    refine g_istore_n (ls2 := [(2, .int (mI m 535 20)), (0, .ref 535), (1, .int x1)]) dX12_digits_22 rfl (by decide) rfl ?_
    refine g_iconst (v := 0) dX12_digits_23 (by decide) ?_
    refine g_istore_n (ls2 := [(3, .int (0 : Int32)), (2, .int (mI m 535 20)), (0, .ref 535), (1, .int x1)]) dX12_digits_24 rfl (by decide) rfl ?_
    exact g_ls [2, 3, 1, 0] rfl (h1 q1)
  · refine g_aload_n 0 dX12_digits_7 rfl rfl ?_
    refine g_iconst (v := 0) dX12_digits_8 (by decide) ?_
    refine g_aload_n 0 dX12_digits_9 rfl rfl ?_
    refine g_getI dX12_digits_10 fl12_163 sh535 ?_
    exact g_callV (As := [.int (0 : Int32), .int (mI m 535 20)]) (st := []) dX12_digits_13 clX12_199 sh535 rfl rfl (Nat.le_of_ble_eq_true rfl) (rmSH (by decide) (by decide)) (h2 q1)
theorem bX12_digits_25 {X : pX} {Q : Option Value → pMem → Prop} {m : pMem} {x1 : Int32} {x2 : Int32} {x3 : Int32} (hW : Wf m)
    (h1 : Cl X 1 mX12_isDigit [.ref 535] m (fun v m2 => Go X 2 mX12_digits Q 29 [(0, .ref 535), (1, .int x1), (2, .int x2), (3, .int x3)] (v.toList ++ []) m2)) :
    Go X 2 mX12_digits Q 25 [(0, .ref 535), (1, .int x1), (2, .int x2), (3, .int x3)] [] m := by
  refine g_aload_n 0 dX12_digits_25 rfl rfl ?_
  exact g_callV (As := []) (st := []) dX12_digits_26 clX12_203 sh535 rfl rfl (Nat.le_of_ble_eq_true rfl) (rmSH (by decide) (by decide)) h1
theorem bX12_digits_16 {X : pX} {Q : Option Value → pMem → Prop} {m : pMem} {x1 : Int32} (hW : Wf m)
    (h1 : Q (some (.int (0 : Int32))) m) :
    Go X 2 mX12_digits Q 16 [(0, .ref 535), (1, .int x1)] [] m := by
  refine g_iconst (v := 0) dX12_digits_16 (by decide) ?_
  exact g_iret dX12_digits_17 rfl enSH h1
theorem bX12_digits_29 {X : pX} {Q : Option Value → pMem → Prop} {m : pMem} {x1 : Int32} {x2 : Int32} {x3 : Int32} {xs0 : Int32} (hW : Wf m)
    (h1 : xs0 = 0 → (5 : Int32) < ((mI m 535 20) - x2) → Cl X 0 mX12_fails [.ref 535, .int (1 : Int32), .int x2] m (fun v m2 => Go X 2 mX12_digits Q 93 [(0, .ref 535), (1, .int x1), (2, .int x2), (3, .int x3)] (v.toList ++ []) m2))
    (h2 : xs0 = 0 → ¬ ((5 : Int32) < ((mI m 535 20) - x2)) → x3 ≤ x1 → Q (some (.int x3)) m)
    (h3 : xs0 = 0 → ¬ ((5 : Int32) < ((mI m 535 20) - x2)) → ¬ (x3 ≤ x1) → Cl X 0 mX12_fails [.ref 535, .int (1 : Int32), .int x2] m (fun v m2 => Go X 2 mX12_digits Q 93 [(0, .ref 535), (1, .int x1), (2, .int x2), (3, .int x3)] (v.toList ++ []) m2))
    (h4 : ¬ (xs0 = 0) → (5 : Int32) ≤ ((mI m 535 20) - x2) → Go X 2 mX12_digits Q 25 [(0, .ref 535), (1, .int x1), (2, .int x2), (3, .int x3)] [] (uI m 535 20 ((mI m 535 20) + (1 : Int32))))
    (h5 : ¬ (xs0 = 0) → ¬ ((5 : Int32) ≤ ((mI m 535 20) - x2)) → Cl X 0 mX12_sign [.ref 535] m (fun v m2 => Go X 2 mX12_digits Q 50 [(0, .ref 535), (1, .int x1), (2, .int x2), (3, .int x3)] (v.toList ++ [.int ((10 : Int32) * x3)]) m2)) :
    Go X 2 mX12_digits Q 29 [(0, .ref 535), (1, .int x1), (2, .int x2), (3, .int x3)] [.int xs0] m := by
  refine g_if_eq 72 dX12_digits_29 (by decide) (fun q1 => ?_) (fun q1 => ?_)
  · refine g_aload_n 0 dX12_digits_72 rfl rfl ?_
    refine g_getI dX12_digits_73 fl12_163 sh535 ?_
    refine g_iload_n 2 dX12_digits_76 rfl rfl ?_
    refine g_isub dX12_digits_77 ?_
    refine g_iconst (v := 5) dX12_digits_78 (by decide) ?_
    refine g_icmp_gt 87 dX12_digits_79 (by decide) (fun q2 => ?_) (fun q2 => ?_)
    · refine g_aload_n 0 dX12_digits_87 rfl rfl ?_
      refine g_iconst (v := 1) dX12_digits_88 (by decide) ?_
      refine g_iload_n 2 dX12_digits_89 rfl rfl ?_
      exact g_callV (As := [.int (1 : Int32), .int x2]) (st := []) dX12_digits_90 clX12_199 sh535 rfl rfl (Nat.le_of_ble_eq_true rfl) (rmSH (by decide) (by decide)) (h1 q1 q2)
    · refine g_iload_n 3 dX12_digits_82 rfl rfl ?_
      refine g_iload_n 1 dX12_digits_83 rfl rfl ?_
      refine g_icmp_le 93 dX12_digits_84 (by decide) (fun q3 => ?_) (fun q3 => ?_)
      · refine g_iload_n 3 dX12_digits_93 rfl rfl ?_
        exact g_iret dX12_digits_94 rfl enSH (h2 q1 q2 q3)
      · refine g_aload_n 0 dX12_digits_87 rfl rfl ?_
        refine g_iconst (v := 1) dX12_digits_88 (by decide) ?_
        refine g_iload_n 2 dX12_digits_89 rfl rfl ?_
        exact g_callV (As := [.int (1 : Int32), .int x2]) (st := []) dX12_digits_90 clX12_199 sh535 rfl rfl (Nat.le_of_ble_eq_true rfl) (rmSH (by decide) (by decide)) (h3 q1 q2 q3)
  · refine g_aload_n 0 dX12_digits_32 rfl rfl ?_
    refine g_getI dX12_digits_33 fl12_163 sh535 ?_
    refine g_iload_n 2 dX12_digits_36 rfl rfl ?_
    refine g_isub dX12_digits_37 ?_
    refine g_iconst (v := 5) dX12_digits_38 (by decide) ?_
    refine g_icmp_ge 57 dX12_digits_39 (by decide) (fun q4 => ?_) (fun q4 => ?_)
    · refine g_iload_n 3 dX12_digits_57 rfl rfl ?_
      refine g_istore_n (ls2 := [(3, .int x3), (0, .ref 535), (1, .int x1), (2, .int x2)]) dX12_digits_58 rfl (by decide) rfl ?_
      refine g_aload_n 1 dX12_digits_59 rfl rfl ?_
      refine g_dup dX12_digits_60 rfl ?_
      refine g_getI dX12_digits_61 fl12_163 sh535 ?_
      refine g_iconst (v := 1) dX12_digits_64 (by decide) ?_
      refine g_iadd dX12_digits_65 ?_
      refine g_putI dX12_digits_66 fl12_163 (fun h => by cases h) sh535 ?_
      refine g_goto 25 dX12_digits_69 (by decide) ?_
      exact g_ls [1, 2, 3, 0] rfl (h4 q1 q4)
    · refine g_bipush (v := 10) dX12_digits_42 (by decide) ?_
      refine g_iload_n 3 dX12_digits_44 rfl rfl ?_
      refine g_imul dX12_digits_45 ?_
      refine g_aload_n 0 dX12_digits_46 rfl rfl ?_
      exact g_callV (As := []) (st := [.int ((10 : Int32) * x3)]) dX12_digits_47 clX12_166 sh535 rfl rfl (Nat.le_of_ble_eq_true rfl) (rmSH (by decide) (by decide)) (h5 q1 q4)
theorem bX12_digits_93 {X : pX} {Q : Option Value → pMem → Prop} {m : pMem} {x1 : Int32} {x2 : Int32} {x3 : Int32} (hW : Wf m)
    (h1 : Q (some (.int x3)) m) :
    Go X 2 mX12_digits Q 93 [(0, .ref 535), (1, .int x1), (2, .int x2), (3, .int x3)] [] m := by
  refine g_iload_n 3 dX12_digits_93 rfl rfl ?_
  exact g_iret dX12_digits_94 rfl enSH h1
theorem bX12_digits_50 {X : pX} {Q : Option Value → pMem → Prop} {m : pMem} {x1 : Int32} {x2 : Int32} {x3 : Int32} {xs0 : Int32} {xs1 : Int32} (hW : Wf m)
    (h1 : Go X 2 mX12_digits Q 25 [(0, .ref 535), (1, .int x1), (2, .int x2), (3, .int ((xs1 + xs0) - (48 : Int32)))] [] (uI m 535 20 ((mI m 535 20) + (1 : Int32)))) :
    Go X 2 mX12_digits Q 50 [(0, .ref 535), (1, .int x1), (2, .int x2), (3, .int x3)] [.int xs0, .int xs1] m := by
  refine g_iadd dX12_digits_50 ?_
  refine g_bipush (v := 48) dX12_digits_51 (by decide) ?_
  refine g_isub dX12_digits_53 ?_
  refine g_goto 58 dX12_digits_54 (by decide) ?_
  refine g_istore_n (ls2 := [(3, .int ((xs1 + xs0) - (48 : Int32))), (0, .ref 535), (1, .int x1), (2, .int x2)]) dX12_digits_58 rfl (by decide) rfl ?_
  refine g_aload_n 1 dX12_digits_59 rfl rfl ?_
  refine g_dup dX12_digits_60 rfl ?_
  refine g_getI dX12_digits_61 fl12_163 sh535 ?_
  refine g_iconst (v := 1) dX12_digits_64 (by decide) ?_
  refine g_iadd dX12_digits_65 ?_
  refine g_putI dX12_digits_66 fl12_163 (fun h => by cases h) sh535 ?_
  refine g_goto 25 dX12_digits_69 (by decide) ?_
  exact g_ls [1, 2, 3, 0] rfl h1
