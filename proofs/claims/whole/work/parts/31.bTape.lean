theorem bX9_hasRoom_0 {X : pX} {Q : Option Value → pMem → Prop} {m : pMem} {a0 : Nat} {x1 : Int32} (hW : Wf m) (c0 : SH[a0]? = some (.inl 9))
    (h1 : (400 : Int32) < ((mI m a0 1) + x1) → Q (some (.int (0 : Int32))) m)
    (h2 : ¬ ((400 : Int32) < ((mI m a0 1) + x1)) → Q (some (.int (1 : Int32))) m) :
    Go X 0 mX9_hasRoom Q 0 [(0, .ref a0), (1, .int x1)] [] m := by
  refine g_aload_n 0 dX9_hasRoom_0 rfl rfl ?_
  refine g_getI dX9_hasRoom_1 fl9_15 c0 ?_
  refine g_iload_n 1 dX9_hasRoom_4 rfl rfl ?_
  refine g_iadd dX9_hasRoom_5 ?_
  refine g_sipush (v := 400) dX9_hasRoom_6 (by decide) ?_
  refine g_icmp_gt 16 dX9_hasRoom_9 (by decide) (fun q1 => ?_) (fun q1 => ?_)
  · refine g_iconst (v := 0) dX9_hasRoom_16 (by decide) ?_
    exact g_bret dX9_hasRoom_17 rfl (Or.inl rfl) enSH (h1 q1)
  · refine g_iconst (v := 1) dX9_hasRoom_12 (by decide) ?_
    refine g_goto 17 dX9_hasRoom_13 (by decide) ?_
    exact g_bret dX9_hasRoom_17 rfl (Or.inr rfl) enSH (h2 q1)
theorem bX9_add_0 {X : pX} {Q : Option Value → pMem → Prop} {m : pMem} {a0 : Nat} {x1 : Int32} (hW : Wf m) (c0 : SH[a0]? = some (.inl 9))
    (h1 : Go X 0 mX9_add Q 3 [(0, .ref a0), (1, .int x1), (2, .int (24 : Int32))] [] m) :
    Go X 0 mX9_add Q 0 [(0, .ref a0), (1, .int x1)] [] m := by
  refine g_bipush (v := 24) dX9_add_0 (by decide) ?_
  refine g_istore_n (ls2 := [(2, .int (24 : Int32)), (0, .ref a0), (1, .int x1)]) dX9_add_2 rfl (by decide) rfl ?_
  exact g_ls [1, 2, 0] rfl h1
theorem bX9_add_3 {X : pX} {Q : Option Value → pMem → Prop} {m : pMem} {a0 : Nat} {x1 : Int32} {x2 : Int32} (hW : Wf m) (c0 : SH[a0]? = some (.inl 9))
    (h1 : x2 < 0 → Q none m)
    (h2 : ¬ (x2 < 0) → (400 : Int32) ≤ (mI m a0 1) → Go X 0 mX9_add Q 3 [(0, .ref a0), (1, .int x1), (2, .int (x2 + (-8 : Int32)))] [] m)
    (h3 : ¬ (x2 < 0) → ¬ ((400 : Int32) ≤ (mI m a0 1)) → vp_in (mI m a0 1) 400)
    (h4 : ¬ (x2 < 0) → ¬ ((400 : Int32) ≤ (mI m a0 1)) → Go X 0 mX9_add Q 3 [(0, .ref a0), (1, .int x1), (2, .int (x2 + (-8 : Int32)))] [] (uI (uI m (a0 + 1) ((mI m a0 1).toNatClampNeg) ((x1 >>> (x2 &&& 31)) &&& (255 : Int32))) a0 1 ((mI (uI m (a0 + 1) ((mI m a0 1).toNatClampNeg) ((x1 >>> (x2 &&& 31)) &&& (255 : Int32))) a0 1) + (1 : Int32)))) :
    Go X 0 mX9_add Q 3 [(0, .ref a0), (1, .int x1), (2, .int x2)] [] m := by
  refine g_iload_n 2 dX9_add_3 rfl rfl ?_
  refine g_if_lt 49 dX9_add_4 (by decide) (fun q1 => ?_) (fun q1 => ?_)
  · exact g_vret dX9_add_49 rfl enSH (h1 q1)
  · refine g_aload_n 0 dX9_add_7 rfl rfl ?_
    refine g_getI dX9_add_8 fl9_15 c0 ?_
    refine g_sipush (v := 400) dX9_add_11 (by decide) ?_
    refine g_icmp_ge 43 dX9_add_14 (by decide) (fun q2 => ?_) (fun q2 => ?_)
    · refine g_iinc (v := x2 + (-8 : Int32)) (ls2 := [(2, .int (x2 + (-8 : Int32))), (0, .ref a0), (1, .int x1)]) 2 dX9_add_43 rfl rfl (by decide) rfl ?_
      refine g_goto 3 dX9_add_46 (by decide) ?_
      exact g_ls [1, 2, 0] rfl (h2 q1 q2)
    · refine g_aload_n 0 dX9_add_17 rfl rfl ?_
      refine g_getR dX9_add_18 fl9_11 rfl c0 (w9_0 hW c0) ?_
      refine g_aload_n 0 dX9_add_21 rfl rfl ?_
      refine g_getI dX9_add_22 fl9_15 c0 ?_
      refine g_iload_n 1 dX9_add_25 rfl rfl ?_
      refine g_iload_n 2 dX9_add_26 rfl rfl ?_
      refine g_ishr dX9_add_27 ?_
      refine g_sipush (v := 255) dX9_add_28 (by decide) ?_
      refine g_iand dX9_add_31 ?_
      refine g_iast (j := (mI m a0 1).toNatClampNeg) dX9_add_32 (s9_0 c0) (h3 q1 q2) rfl ?_
      refine g_aload_n 0 dX9_add_33 rfl rfl ?_
      refine g_dup dX9_add_34 rfl ?_
      refine g_getI dX9_add_35 fl9_15 c0 ?_
      refine g_iconst (v := 1) dX9_add_38 (by decide) ?_
      refine g_iadd dX9_add_39 ?_
      refine g_putI dX9_add_40 fl9_15 (fun h => by cases h) c0 ?_
      refine g_iinc (v := x2 + (-8 : Int32)) (ls2 := [(2, .int (x2 + (-8 : Int32))), (0, .ref a0), (1, .int x1)]) 2 dX9_add_43 rfl rfl (by decide) rfl ?_
      refine g_goto 3 dX9_add_46 (by decide) ?_
      exact g_ls [1, 2, 0] rfl (h4 q1 q2)
theorem bX9_rewind_0 {X : pX} {Q : Option Value → pMem → Prop} {m : pMem} {a0 : Nat} (hW : Wf m) (c0 : SH[a0]? = some (.inl 9))
    (h1 : Q none (uI (uI m a0 2 (0 : Int32)) a0 3 (0 : Int32))) :
    Go X 0 mX9_rewind Q 0 [(0, .ref a0)] [] m := by
  refine g_aload_n 0 dX9_rewind_0 rfl rfl ?_
  refine g_iconst (v := 0) dX9_rewind_1 (by decide) ?_
  refine g_putI dX9_rewind_2 fl9_19 (fun h => by cases h) c0 ?_
  refine g_aload_n 0 dX9_rewind_5 rfl rfl ?_
  refine g_iconst (v := 0) dX9_rewind_6 (by decide) ?_
  refine g_putI dX9_rewind_7 fl9_22 (fun h => by cases h) c0 ?_
  exact g_vret dX9_rewind_10 rfl enSH h1
theorem bX9_fail_0 {X : pX} {Q : Option Value → pMem → Prop} {m : pMem} {a0 : Nat} {x1 : Int32} {x2 : Int32} (hW : Wf m) (c0 : SH[a0]? = some (.inl 9))
    (h1 : ¬ (mI m a0 3) = 0 → Q (some (.int (0 : Int32))) m)
    (h2 : (mI m a0 3) = 0 → Q (some (.int (0 : Int32))) (uI m a0 3 (((1 : Int32) + ((8 : Int32) * x1)) + x2))) :
    Go X 0 mX9_fail Q 0 [(0, .ref a0), (1, .int x1), (2, .int x2)] [] m := by
  refine g_aload_n 0 dX9_fail_0 rfl rfl ?_
  refine g_getI dX9_fail_1 fl9_22 c0 ?_
  refine g_if_ne 19 dX9_fail_4 (by decide) (fun q1 => ?_) (fun q1 => ?_)
  · refine g_iconst (v := 0) dX9_fail_19 (by decide) ?_
    exact g_bret dX9_fail_20 rfl (Or.inl rfl) enSH (h1 q1)
  · refine g_aload_n 0 dX9_fail_7 rfl rfl ?_
    refine g_iconst (v := 1) dX9_fail_8 (by decide) ?_
    refine g_bipush (v := 8) dX9_fail_9 (by decide) ?_
    refine g_iload_n 1 dX9_fail_11 rfl rfl ?_
    refine g_imul dX9_fail_12 ?_
    refine g_iadd dX9_fail_13 ?_
    refine g_iload_n 2 dX9_fail_14 rfl rfl ?_
    refine g_iadd dX9_fail_15 ?_
    refine g_putI dX9_fail_16 fl9_22 (fun h => by cases h) c0 ?_
    refine g_iconst (v := 0) dX9_fail_19 (by decide) ?_
    exact g_bret dX9_fail_20 rfl (Or.inl rfl) enSH (h2 q1)
theorem bX9_next_0 {X : pX} {Q : Option Value → pMem → Prop} {m : pMem} {a0 : Nat} (hW : Wf m) (c0 : SH[a0]? = some (.inl 9))
    (h1 : (mI m a0 1) ≤ (mI m a0 2) → Cl X 0 mX9_byteAt [.ref a0, .int (mI m a0 2)] m (fun v m2 => Go X 1 mX9_next Q 46 [(0, .ref a0)] (v.toList ++ []) m2))
    (h2 : ¬ ((mI m a0 1) ≤ (mI m a0 2)) → vp_in (mI m a0 2) 400)
    (h3 : ¬ ((mI m a0 1) ≤ (mI m a0 2)) → ¬ (mI m (a0 + 1) ((mI m a0 2).toNatClampNeg)) = (32 : Int32) → Cl X 0 mX9_byteAt [.ref a0, .int (mI m a0 2)] m (fun v m2 => Go X 1 mX9_next Q 46 [(0, .ref a0)] (v.toList ++ []) m2))
    (h4 : ¬ ((mI m a0 1) ≤ (mI m a0 2)) → (mI m (a0 + 1) ((mI m a0 2).toNatClampNeg)) = (32 : Int32) → Go X 1 mX9_next Q 0 [(0, .ref a0)] [] (uI m a0 2 ((mI m a0 2) + (1 : Int32)))) :
    Go X 1 mX9_next Q 0 [(0, .ref a0)] [] m := by
  refine g_aload_n 0 dX9_next_0 rfl rfl ?_
  refine g_getI dX9_next_1 fl9_19 c0 ?_
  refine g_aload_n 0 dX9_next_4 rfl rfl ?_
  refine g_getI dX9_next_5 fl9_15 c0 ?_
  refine g_icmp_ge 38 dX9_next_8 (by decide) (fun q1 => ?_) (fun q1 => ?_)
  · refine g_aload_n 0 dX9_next_38 rfl rfl ?_
    refine g_aload_n 0 dX9_next_39 rfl rfl ?_
    refine g_getI dX9_next_40 fl9_19 c0 ?_
    exact g_callV (As := [.int (mI m a0 2)]) (st := []) dX9_next_43 clX9_25 c0 rfl rfl (Nat.le_of_ble_eq_true rfl) (rmSH (by decide) (by decide)) (h1 q1)
  · refine g_aload_n 0 dX9_next_11 rfl rfl ?_
    refine g_getR dX9_next_12 fl9_11 rfl c0 (w9_0 hW c0) ?_
    refine g_aload_n 0 dX9_next_15 rfl rfl ?_
    refine g_getI dX9_next_16 fl9_19 c0 ?_
    refine g_iald (j := (mI m a0 2).toNatClampNeg) dX9_next_19 (s9_0 c0) (h2 q1) rfl ?_
    refine g_bipush (v := 32) dX9_next_20 (by decide) ?_
    refine g_icmp_ne 38 dX9_next_22 (by decide) (fun q2 => ?_) (fun q2 => ?_)
    · refine g_aload_n 0 dX9_next_38 rfl rfl ?_
      refine g_aload_n 0 dX9_next_39 rfl rfl ?_
      refine g_getI dX9_next_40 fl9_19 c0 ?_
      exact g_callV (As := [.int (mI m a0 2)]) (st := []) dX9_next_43 clX9_25 c0 rfl rfl (Nat.le_of_ble_eq_true rfl) (rmSH (by decide) (by decide)) (h3 q1 q2)
    · refine g_aload_n 0 dX9_next_25 rfl rfl ?_
      refine g_dup dX9_next_26 rfl ?_
      refine g_getI dX9_next_27 fl9_19 c0 ?_
      refine g_iconst (v := 1) dX9_next_30 (by decide) ?_
      refine g_iadd dX9_next_31 ?_
      refine g_putI dX9_next_32 fl9_19 (fun h => by cases h) c0 ?_
      refine g_goto 0 dX9_next_35 (by decide) ?_
      exact g_ls [0] rfl (h4 q1 q2)
theorem bX9_next_46 {X : pX} {Q : Option Value → pMem → Prop} {m : pMem} {a0 : Nat} {xs0 : Int32} (hW : Wf m) (c0 : SH[a0]? = some (.inl 9))
    (h1 : Q (some (.int xs0)) m) :
    Go X 1 mX9_next Q 46 [(0, .ref a0)] [.int xs0] m := by
  exact g_iret dX9_next_46 rfl enSH h1
theorem bX9_byteAt_0 {X : pX} {Q : Option Value → pMem → Prop} {m : pMem} {a0 : Nat} {x1 : Int32} (hW : Wf m) (c0 : SH[a0]? = some (.inl 9))
    (h1 : x1 < 0 → Q (some (.int (-1 : Int32))) m)
    (h2 : ¬ (x1 < 0) → (mI m a0 1) ≤ x1 → Q (some (.int (-1 : Int32))) m)
    (h3 : ¬ (x1 < 0) → ¬ ((mI m a0 1) ≤ x1) → vp_in x1 400)
    (h4 : ¬ (x1 < 0) → ¬ ((mI m a0 1) ≤ x1) → Q (some (.int (mI m (a0 + 1) x1.toNatClampNeg))) m) :
    Go X 0 mX9_byteAt Q 0 [(0, .ref a0), (1, .int x1)] [] m := by
  refine g_iload_n 1 dX9_byteAt_0 rfl rfl ?_
  refine g_if_lt 21 dX9_byteAt_1 (by decide) (fun q1 => ?_) (fun q1 => ?_)
  · refine g_iconst (v := -1) dX9_byteAt_21 (by decide) ?_
    exact g_iret dX9_byteAt_22 rfl enSH (h1 q1)
  · refine g_iload_n 1 dX9_byteAt_4 rfl rfl ?_
    refine g_aload_n 0 dX9_byteAt_5 rfl rfl ?_
    refine g_getI dX9_byteAt_6 fl9_15 c0 ?_
    refine g_icmp_ge 21 dX9_byteAt_9 (by decide) (fun q2 => ?_) (fun q2 => ?_)
    · refine g_iconst (v := -1) dX9_byteAt_21 (by decide) ?_
      exact g_iret dX9_byteAt_22 rfl enSH (h2 q1 q2)
    · refine g_aload_n 0 dX9_byteAt_12 rfl rfl ?_
      refine g_getR dX9_byteAt_13 fl9_11 rfl c0 (w9_0 hW c0) ?_
      refine g_iload_n 1 dX9_byteAt_16 rfl rfl ?_
      refine g_iald (j := x1.toNatClampNeg) dX9_byteAt_17 (s9_0 c0) (h3 q1 q2) rfl ?_
      refine g_goto 22 dX9_byteAt_18 (by decide) ?_
      exact g_iret dX9_byteAt_22 rfl enSH (h4 q1 q2)
theorem bX9_isDigit_0 {X : pX} {Q : Option Value → pMem → Prop} {m : pMem} {x0 : Int32} (hW : Wf m)
    (h1 : x0 < (48 : Int32) → Q (some (.int (0 : Int32))) m)
    (h2 : ¬ (x0 < (48 : Int32)) → (57 : Int32) < x0 → Q (some (.int (0 : Int32))) m)
    (h3 : ¬ (x0 < (48 : Int32)) → ¬ ((57 : Int32) < x0) → Q (some (.int (1 : Int32))) m) :
    Go X 0 mX9_isDigit Q 0 [(0, .int x0)] [] m := by
  refine g_iload_n 0 dX9_isDigit_0 rfl rfl ?_
  refine g_bipush (v := 48) dX9_isDigit_1 (by decide) ?_
  refine g_icmp_lt 16 dX9_isDigit_3 (by decide) (fun q1 => ?_) (fun q1 => ?_)
  · refine g_iconst (v := 0) dX9_isDigit_16 (by decide) ?_
    exact g_bret dX9_isDigit_17 rfl (Or.inl rfl) enSH (h1 q1)
  · refine g_iload_n 0 dX9_isDigit_6 rfl rfl ?_
    refine g_bipush (v := 57) dX9_isDigit_7 (by decide) ?_
    refine g_icmp_gt 16 dX9_isDigit_9 (by decide) (fun q2 => ?_) (fun q2 => ?_)
    · refine g_iconst (v := 0) dX9_isDigit_16 (by decide) ?_
      exact g_bret dX9_isDigit_17 rfl (Or.inl rfl) enSH (h2 q1 q2)
    · refine g_iconst (v := 1) dX9_isDigit_12 (by decide) ?_
      refine g_goto 17 dX9_isDigit_13 (by decide) ?_
      exact g_bret dX9_isDigit_17 rfl (Or.inr rfl) enSH (h3 q1 q2)
theorem bX9_isLetter_0 {X : pX} {Q : Option Value → pMem → Prop} {m : pMem} {x0 : Int32} (hW : Wf m)
    (h1 : x0 < (97 : Int32) → Q (some (.int (0 : Int32))) m)
    (h2 : ¬ (x0 < (97 : Int32)) → (122 : Int32) < x0 → Q (some (.int (0 : Int32))) m)
    (h3 : ¬ (x0 < (97 : Int32)) → ¬ ((122 : Int32) < x0) → Q (some (.int (1 : Int32))) m) :
    Go X 0 mX9_isLetter Q 0 [(0, .int x0)] [] m := by
  refine g_iload_n 0 dX9_isLetter_0 rfl rfl ?_
  refine g_bipush (v := 97) dX9_isLetter_1 (by decide) ?_
  refine g_icmp_lt 16 dX9_isLetter_3 (by decide) (fun q1 => ?_) (fun q1 => ?_)
  · refine g_iconst (v := 0) dX9_isLetter_16 (by decide) ?_
    exact g_bret dX9_isLetter_17 rfl (Or.inl rfl) enSH (h1 q1)
  · refine g_iload_n 0 dX9_isLetter_6 rfl rfl ?_
    refine g_bipush (v := 122) dX9_isLetter_7 (by decide) ?_
    refine g_icmp_gt 16 dX9_isLetter_9 (by decide) (fun q2 => ?_) (fun q2 => ?_)
    · refine g_iconst (v := 0) dX9_isLetter_16 (by decide) ?_
      exact g_bret dX9_isLetter_17 rfl (Or.inl rfl) enSH (h2 q1 q2)
    · refine g_iconst (v := 1) dX9_isLetter_12 (by decide) ?_
      refine g_goto 17 dX9_isLetter_13 (by decide) ?_
      exact g_bret dX9_isLetter_17 rfl (Or.inr rfl) enSH (h3 q1 q2)
theorem bX9_takeSign_0 {X : pX} {Q : Option Value → pMem → Prop} {m : pMem} {a0 : Nat} {x1 : Int32} (hW : Wf m) (c0 : SH[a0]? = some (.inl 9))
    (h1 : Cl X 1 mX9_next [.ref a0] m (fun v m2 => Go X 2 mX9_takeSign Q 4 [(0, .ref a0), (1, .int x1)] (v.toList ++ []) m2)) :
    Go X 2 mX9_takeSign Q 0 [(0, .ref a0), (1, .int x1)] [] m := by
  refine g_aload_n 0 dX9_takeSign_0 rfl rfl ?_
  exact g_callV (As := []) (st := []) dX9_takeSign_1 clX9_29 c0 rfl rfl (Nat.le_of_ble_eq_true rfl) (rmSH (by decide) (by decide)) h1
theorem bX9_takeSign_4 {X : pX} {Q : Option Value → pMem → Prop} {m : pMem} {a0 : Nat} {x1 : Int32} {xs0 : Int32} (hW : Wf m) (c0 : SH[a0]? = some (.inl 9))
    (h1 : Cl X 1 mX9_takeSignAtOnce [.ref a0, .int x1] m (fun v m2 => Go X 2 mX9_takeSign Q 10 [(0, .ref a0), (1, .int x1)] (v.toList ++ []) m2)) :
    Go X 2 mX9_takeSign Q 4 [(0, .ref a0), (1, .int x1)] [.int xs0] m := by
  refine g_pop dX9_takeSign_4 rfl ?_
  refine g_aload_n 0 dX9_takeSign_5 rfl rfl ?_
  refine g_iload_n 1 dX9_takeSign_6 rfl rfl ?_
  exact g_callV (As := [.int x1]) (st := []) dX9_takeSign_7 clX9_33 c0 rfl rfl (Nat.le_of_ble_eq_true rfl) (rmSH (by decide) (by decide)) h1
theorem bX9_takeSign_10 {X : pX} {Q : Option Value → pMem → Prop} {m : pMem} {a0 : Nat} {x1 : Int32} {xs0 : Int32} (hW : Wf m) (c0 : SH[a0]? = some (.inl 9))
    (h1 : xs0 = 0 ∨ xs0 = 1)
    (h2 : Q (some (.int xs0)) m) :
    Go X 2 mX9_takeSign Q 10 [(0, .ref a0), (1, .int x1)] [.int xs0] m := by
  exact g_bret dX9_takeSign_10 rfl h1 enSH h2
theorem bX9_takeSignAtOnce_0 {X : pX} {Q : Option Value → pMem → Prop} {m : pMem} {a0 : Nat} {x1 : Int32} (hW : Wf m) (c0 : SH[a0]? = some (.inl 9))
    (h1 : Cl X 0 mX9_byteAt [.ref a0, .int (mI m a0 2)] m (fun v m2 => Go X 1 mX9_takeSignAtOnce Q 8 [(0, .ref a0), (1, .int x1)] (v.toList ++ []) m2)) :
    Go X 1 mX9_takeSignAtOnce Q 0 [(0, .ref a0), (1, .int x1)] [] m := by
  refine g_aload_n 0 dX9_takeSignAtOnce_0 rfl rfl ?_
  refine g_aload_n 0 dX9_takeSignAtOnce_1 rfl rfl ?_
  refine g_getI dX9_takeSignAtOnce_2 fl9_19 c0 ?_
  exact g_callV (As := [.int (mI m a0 2)]) (st := []) dX9_takeSignAtOnce_5 clX9_25 c0 rfl rfl (Nat.le_of_ble_eq_true rfl) (rmSH (by decide) (by decide)) h1
theorem bX9_takeSignAtOnce_8 {X : pX} {Q : Option Value → pMem → Prop} {m : pMem} {a0 : Nat} {x1 : Int32} {xs0 : Int32} (hW : Wf m) (c0 : SH[a0]? = some (.inl 9))
    (h1 : xs0 = x1 → Q (some (.int (1 : Int32))) (uI m a0 2 ((mI m a0 2) + (1 : Int32))))
    (h2 : ¬ (xs0 = x1) → Q (some (.int (0 : Int32))) m) :
    Go X 1 mX9_takeSignAtOnce Q 8 [(0, .ref a0), (1, .int x1)] [.int xs0] m := by
  refine g_iload_n 1 dX9_takeSignAtOnce_8 rfl rfl ?_
  refine g_icmp_eq 14 dX9_takeSignAtOnce_9 (by decide) (fun q1 => ?_) (fun q1 => ?_)
  · refine g_aload_n 0 dX9_takeSignAtOnce_14 rfl rfl ?_
    refine g_dup dX9_takeSignAtOnce_15 rfl ?_
    refine g_getI dX9_takeSignAtOnce_16 fl9_19 c0 ?_
    refine g_iconst (v := 1) dX9_takeSignAtOnce_19 (by decide) ?_
    refine g_iadd dX9_takeSignAtOnce_20 ?_
    refine g_putI dX9_takeSignAtOnce_21 fl9_19 (fun h => by cases h) c0 ?_
    refine g_iconst (v := 1) dX9_takeSignAtOnce_24 (by decide) ?_
    exact g_bret dX9_takeSignAtOnce_25 rfl (Or.inr rfl) enSH (h1 q1)
  · refine g_iconst (v := 0) dX9_takeSignAtOnce_12 (by decide) ?_
    exact g_bret dX9_takeSignAtOnce_13 rfl (Or.inl rfl) enSH (h2 q1)
theorem bX9_takeWord_0 {X : pX} {Q : Option Value → pMem → Prop} {m : pMem} {a0 : Nat} {k1 : Nat} (hW : Wf m) (c0 : SH[a0]? = some (.inl 9))
    (h1 : Cl X 1 mX9_next [.ref a0] m (fun v m2 => Go X 6 mX9_takeWord Q 4 [(0, .ref a0), (1, .retAddr k1)] (v.toList ++ []) m2)) :
    Go X 6 mX9_takeWord Q 0 [(0, .ref a0), (1, .retAddr k1)] [] m := by
  refine g_aload_n 0 dX9_takeWord_0 rfl rfl ?_
  exact g_callV (As := []) (st := []) dX9_takeWord_1 clX9_29 c0 rfl rfl (Nat.le_of_ble_eq_true rfl) (rmSH (by decide) (by decide)) h1
theorem bX9_takeWord_4 {X : pX} {Q : Option Value → pMem → Prop} {m : pMem} {a0 : Nat} {k1 : Nat} {xs0 : Int32} (hW : Wf m) (c0 : SH[a0]? = some (.inl 9))
    (h1 : 1 ≤ k1 ∧ k1 ≤ 25)
    (h2 : Cl X 1 mJ0_length_8abf5 [.retAddr k1] m (fun v m2 => Go X 6 mX9_takeWord Q 13 [(0, .ref a0), (1, .retAddr k1)] (v.toList ++ [.int (mI m a0 2)]) m2)) :
    Go X 6 mX9_takeWord Q 4 [(0, .ref a0), (1, .retAddr k1)] [.int xs0] m := by
  refine g_pop dX9_takeWord_4 rfl ?_
  refine g_aload_n 0 dX9_takeWord_5 rfl rfl ?_
  refine g_getI dX9_takeWord_6 fl9_19 c0 ?_
  refine g_aload_nO 1 dX9_takeWord_9 rfl rfl ?_
  exact g_callVO (As := []) (st := [.int (mI m a0 2)]) dX9_takeWord_10 coX9_37 rfl h1 rfl rfl (Nat.le_of_ble_eq_true rfl) (rmSH (by decide) (by decide)) h2
theorem bX9_takeWord_13 {X : pX} {Q : Option Value → pMem → Prop} {m : pMem} {a0 : Nat} {k1 : Nat} {xs0 : Int32} {xs1 : Int32} (hW : Wf m) (c0 : SH[a0]? = some (.inl 9))
    (h1 : 1 ≤ k1 ∧ k1 ≤ 25)
    (h2 : Cl X 1 mJ0_length_8abf5 [.retAddr k1] m (fun v m2 => Go X 6 mX9_takeWord Q 22 [(0, .ref a0), (1, .retAddr k1), (2, .int (xs1 + xs0))] (v.toList ++ [.int (0 : Int32), .retAddr k1, .ref a0]) m2)) :
    Go X 6 mX9_takeWord Q 13 [(0, .ref a0), (1, .retAddr k1)] [.int xs0, .int xs1] m := by
  refine g_iadd dX9_takeWord_13 ?_
  refine g_istore_n (ls2 := [(2, .int (xs1 + xs0)), (0, .ref a0), (1, .retAddr k1)]) dX9_takeWord_14 rfl (by decide) rfl ?_
  refine g_aload_n 1 dX9_takeWord_15 rfl rfl ?_
  refine g_aload_nO 2 dX9_takeWord_16 rfl rfl ?_
  refine g_iconst (v := 0) dX9_takeWord_17 (by decide) ?_
  refine g_aload_nO 2 dX9_takeWord_18 rfl rfl ?_
  refine g_ls [1, 2, 0] (ls2 := [(0, .ref a0), (1, .retAddr k1), (2, .int (xs1 + xs0))]) rfl ?_
  exact g_callVO (As := []) (st := [.int (0 : Int32), .retAddr k1, .ref a0]) dX9_takeWord_19 coX9_37 rfl h1 rfl rfl (Nat.le_of_ble_eq_true rfl) (rmSH (by decide) (by decide)) h2
theorem bX9_takeWord_22 {X : pX} {Q : Option Value → pMem → Prop} {m : pMem} {a0 : Nat} {k1 : Nat} {x2 : Int32} {xs0 : Int32} {ks2 : Nat} {as3 : Nat} (hW : Wf m) (c0 : SH[a0]? = some (.inl 9)) (cs3 : SH[as3]? = some (.inl 9))
    (h1 : Cl X 5 mX9_stands [.ref as3, .retAddr ks2, .int (0 : Int32), .int xs0] m (fun v m2 => Go X 6 mX9_takeWord Q 25 [(0, .ref a0), (1, .retAddr k1), (2, .int x2)] (v.toList ++ []) m2)) :
    Go X 6 mX9_takeWord Q 22 [(0, .ref a0), (1, .retAddr k1), (2, .int x2)] [.int xs0, .int (0 : Int32), .retAddr ks2, .ref as3] m := by
  exact g_callV (As := [.retAddr ks2, .int (0 : Int32), .int xs0]) (st := []) dX9_takeWord_22 clX9_41 cs3 rfl rfl (Nat.le_of_ble_eq_true rfl) (rmSH (by decide) (by decide)) h1
theorem bX9_takeWord_25 {X : pX} {Q : Option Value → pMem → Prop} {m : pMem} {a0 : Nat} {k1 : Nat} {x2 : Int32} {xs0 : Int32} (hW : Wf m) (c0 : SH[a0]? = some (.inl 9))
    (h1 : xs0 = 0 → Q (some (.int (0 : Int32))) m)
    (h2 : ¬ (xs0 = 0) → Cl X 0 mX9_byteAt [.ref a0, .int x2] m (fun v m2 => Go X 6 mX9_takeWord Q 33 [(0, .ref a0), (1, .retAddr k1), (2, .int x2)] (v.toList ++ []) m2)) :
    Go X 6 mX9_takeWord Q 25 [(0, .ref a0), (1, .retAddr k1), (2, .int x2)] [.int xs0] m := by
  refine g_if_eq 39 dX9_takeWord_25 (by decide) (fun q1 => ?_) (fun q1 => ?_)
  · refine g_iconst (v := 0) dX9_takeWord_39 (by decide) ?_
    exact g_bret dX9_takeWord_40 rfl (Or.inl rfl) enSH (h1 q1)
  · refine g_aload_n 0 dX9_takeWord_28 rfl rfl ?_
    refine g_iload_n 2 dX9_takeWord_29 rfl rfl ?_
    exact g_callV (As := [.int x2]) (st := []) dX9_takeWord_30 clX9_25 c0 rfl rfl (Nat.le_of_ble_eq_true rfl) (rmSH (by decide) (by decide)) (h2 q1)
theorem bX9_takeWord_33 {X : pX} {Q : Option Value → pMem → Prop} {m : pMem} {a0 : Nat} {k1 : Nat} {x2 : Int32} {xs0 : Int32} (hW : Wf m) (c0 : SH[a0]? = some (.inl 9))
    (h1 : Cl X 0 mX9_isLetter [.int xs0] m (fun v m2 => Go X 6 mX9_takeWord Q 36 [(0, .ref a0), (1, .retAddr k1), (2, .int x2)] (v.toList ++ []) m2)) :
    Go X 6 mX9_takeWord Q 33 [(0, .ref a0), (1, .retAddr k1), (2, .int x2)] [.int xs0] m := by
  exact g_callS (As := [.int xs0]) (st := []) dX9_takeWord_33 clX9_45 rfl rfl (Nat.le_of_ble_eq_true rfl) (rmSH (by decide) (by decide)) h1
theorem bX9_takeWord_36 {X : pX} {Q : Option Value → pMem → Prop} {m : pMem} {a0 : Nat} {k1 : Nat} {x2 : Int32} {xs0 : Int32} (hW : Wf m) (c0 : SH[a0]? = some (.inl 9))
    (h1 : xs0 = 0 → Q (some (.int (1 : Int32))) (uI m a0 2 x2))
    (h2 : ¬ (xs0 = 0) → Q (some (.int (0 : Int32))) m) :
    Go X 6 mX9_takeWord Q 36 [(0, .ref a0), (1, .retAddr k1), (2, .int x2)] [.int xs0] m := by
  refine g_if_eq 41 dX9_takeWord_36 (by decide) (fun q1 => ?_) (fun q1 => ?_)
  · refine g_aload_n 0 dX9_takeWord_41 rfl rfl ?_
    refine g_iload_n 2 dX9_takeWord_42 rfl rfl ?_
    refine g_putI dX9_takeWord_43 fl9_19 (fun h => by cases h) c0 ?_
    refine g_iconst (v := 1) dX9_takeWord_46 (by decide) ?_
    exact g_bret dX9_takeWord_47 rfl (Or.inr rfl) enSH (h1 q1)
  · refine g_iconst (v := 0) dX9_takeWord_39 (by decide) ?_
    exact g_bret dX9_takeWord_40 rfl (Or.inl rfl) enSH (h2 q1)
theorem bX9_takeWordOf_0 {X : pX} {Q : Option Value → pMem → Prop} {m : pMem} {a0 : Nat} {k1 : Nat} (hW : Wf m) (c0 : SH[a0]? = some (.inl 9))
    (h1 : Go X 6 mX9_takeWordOf Q 7 [(0, .ref a0), (1, .retAddr k1), (2, .int (0 : Int32)), (3, .int (0 : Int32)), (4, .int (0 : Int32))] [] m) :
    Go X 6 mX9_takeWordOf Q 0 [(0, .ref a0), (1, .retAddr k1)] [] m := by
  refine g_iconst (v := 0) dX9_takeWordOf_0 (by decide) ?_
  refine g_istore_n (ls2 := [(2, .int (0 : Int32)), (0, .ref a0), (1, .retAddr k1)]) dX9_takeWordOf_1 rfl (by decide) rfl ?_
  refine g_iconst (v := 0) dX9_takeWordOf_2 (by decide) ?_
  refine g_istore_n (ls2 := [(3, .int (0 : Int32)), (2, .int (0 : Int32)), (0, .ref a0), (1, .retAddr k1)]) dX9_takeWordOf_3 rfl (by decide) rfl ?_
  refine g_iconst (v := 0) dX9_takeWordOf_4 (by decide) ?_
  refine g_istore (ls2 := [(4, .int (0 : Int32)), (3, .int (0 : Int32)), (2, .int (0 : Int32)), (0, .ref a0), (1, .retAddr k1)]) dX9_takeWordOf_5 (by decide) rfl ?_
  exact g_ls [3, 4, 2, 1, 0] rfl h1
theorem bX9_takeWordOf_7 {X : pX} {Q : Option Value → pMem → Prop} {m : pMem} {a0 : Nat} {k1 : Nat} {x2 : Int32} {x3 : Int32} {x4 : Int32} (hW : Wf m) (c0 : SH[a0]? = some (.inl 9))
    (h1 : 1 ≤ k1 ∧ k1 ≤ 25)
    (h2 : Cl X 1 mJ0_length_8abf5 [.retAddr k1] m (fun v m2 => Go X 6 mX9_takeWordOf Q 13 [(0, .ref a0), (1, .retAddr k1), (2, .int x2), (3, .int x3), (4, .int x4)] (v.toList ++ [.int x4]) m2)) :
    Go X 6 mX9_takeWordOf Q 7 [(0, .ref a0), (1, .retAddr k1), (2, .int x2), (3, .int x3), (4, .int x4)] [] m := by
  refine g_iload 4 dX9_takeWordOf_7 rfl ?_
  refine g_aload_nO 1 dX9_takeWordOf_9 rfl rfl ?_
  exact g_callVO (As := []) (st := [.int x4]) dX9_takeWordOf_10 coX9_37 rfl h1 rfl rfl (Nat.le_of_ble_eq_true rfl) (rmSH (by decide) (by decide)) h2
theorem bX9_takeWordOf_13 {X : pX} {Q : Option Value → pMem → Prop} {m : pMem} {a0 : Nat} {k1 : Nat} {x2 : Int32} {x3 : Int32} {x4 : Int32} {xs0 : Int32} {xs1 : Int32} (hW : Wf m) (c0 : SH[a0]? = some (.inl 9))
    (h1 : xs0 ≤ xs1 → Q (some (.int (-1 : Int32))) m)
    (h2 : ¬ (xs0 ≤ xs1) → 1 ≤ k1 ∧ k1 ≤ 25)
    (h3 : ¬ (xs0 ≤ xs1) → Cl X 4 mJ0_charAt_5068e [.retAddr k1, .int x4] m (fun v m2 => Go X 6 mX9_takeWordOf Q 22 [(0, .ref a0), (1, .retAddr k1), (2, .int x2), (3, .int x3), (4, .int x4)] (v.toList ++ []) m2)) :
    Go X 6 mX9_takeWordOf Q 13 [(0, .ref a0), (1, .retAddr k1), (2, .int x2), (3, .int x3), (4, .int x4)] [.int xs0, .int xs1] m := by
  refine g_icmp_ge 83 dX9_takeWordOf_13 (by decide) (fun q1 => ?_) (fun q1 => ?_)
  · refine g_iconst (v := -1) dX9_takeWordOf_83 (by decide) ?_
    exact g_iret dX9_takeWordOf_84 rfl enSH (h1 q1)
  · refine g_aload_nO 1 dX9_takeWordOf_16 rfl rfl ?_
    refine g_iload 4 dX9_takeWordOf_17 rfl ?_
    exact g_callVO (As := [.int x4]) (st := []) dX9_takeWordOf_19 coX9_48 rfl (h2 q1) rfl rfl (Nat.le_of_ble_eq_true rfl) (rmSH (by decide) (by decide)) (h3 q1)
theorem bX9_takeWordOf_22 {X : pX} {Q : Option Value → pMem → Prop} {m : pMem} {a0 : Nat} {k1 : Nat} {x2 : Int32} {x3 : Int32} {x4 : Int32} {xs0 : Int32} (hW : Wf m) (c0 : SH[a0]? = some (.inl 9))
    (h1 : ¬ xs0 = (32 : Int32) → Go X 6 mX9_takeWordOf Q 7 [(0, .ref a0), (1, .retAddr k1), (2, .int x2), (3, .int x3), (4, .int (x4 + (1 : Int32)))] [] m)
    (h2 : xs0 = (32 : Int32) → Cl X 5 mX9_stands [.ref a0, .retAddr k1, .int x3, .int x4] m (fun v m2 => Go X 6 mX9_takeWordOf Q 46 [(0, .ref a0), (1, .retAddr k1), (2, .int x2), (3, .int x3), (4, .int x4), (5, .int (((mI m a0 2) + x4) - x3))] (v.toList ++ []) m2)) :
    Go X 6 mX9_takeWordOf Q 22 [(0, .ref a0), (1, .retAddr k1), (2, .int x2), (3, .int x3), (4, .int x4)] [.int xs0] m := by
  refine g_bipush (v := 32) dX9_takeWordOf_22 (by decide) ?_
  refine g_icmp_ne 77 dX9_takeWordOf_24 (by decide) (fun q1 => ?_) (fun q1 => ?_)
  · refine g_iinc (v := x4 + (1 : Int32)) (ls2 := [(4, .int (x4 + (1 : Int32))), (0, .ref a0), (1, .retAddr k1), (2, .int x2), (3, .int x3)]) 4 dX9_takeWordOf_77 rfl rfl (by decide) rfl ?_
    refine g_goto 7 dX9_takeWordOf_80 (by decide) ?_
    exact g_ls [1, 2, 3, 4, 0] rfl (h1 q1)
  · refine g_aload_n 0 dX9_takeWordOf_27 rfl rfl ?_
    refine g_getI dX9_takeWordOf_28 fl9_19 c0 ?_
    refine g_iload 4 dX9_takeWordOf_31 rfl ?_
    refine g_iadd dX9_takeWordOf_33 ?_
    refine g_iload_n 3 dX9_takeWordOf_34 rfl rfl ?_
    refine g_isub dX9_takeWordOf_35 ?_
    refine g_istore (ls2 := [(5, .int (((mI m a0 2) + x4) - x3)), (0, .ref a0), (1, .retAddr k1), (2, .int x2), (3, .int x3), (4, .int x4)]) dX9_takeWordOf_36 (by decide) rfl ?_
    refine g_aload_n 1 dX9_takeWordOf_38 rfl rfl ?_
    refine g_aload_nO 2 dX9_takeWordOf_39 rfl rfl ?_
    refine g_iload_n 4 dX9_takeWordOf_40 rfl rfl ?_
    refine g_iload 5 dX9_takeWordOf_41 rfl ?_
    refine g_ls [1, 2, 3, 4, 5, 0] (ls2 := [(0, .ref a0), (1, .retAddr k1), (2, .int x2), (3, .int x3), (4, .int x4), (5, .int (((mI m a0 2) + x4) - x3))]) rfl ?_
    exact g_callV (As := [.retAddr k1, .int x3, .int x4]) (st := []) dX9_takeWordOf_43 clX9_41 c0 rfl rfl (Nat.le_of_ble_eq_true rfl) (rmSH (by decide) (by decide)) (h2 q1)
theorem bX9_takeWordOf_46 {X : pX} {Q : Option Value → pMem → Prop} {m : pMem} {a0 : Nat} {k1 : Nat} {x2 : Int32} {x3 : Int32} {x4 : Int32} {x5 : Int32} {xs0 : Int32} (hW : Wf m) (c0 : SH[a0]? = some (.inl 9))
    (h1 : xs0 = 0 → Go X 6 mX9_takeWordOf Q 7 [(0, .ref a0), (1, .retAddr k1), (2, .int (x2 + (1 : Int32))), (3, .int (x4 + (1 : Int32))), (4, .int (x4 + (1 : Int32)))] [] m)
    (h2 : ¬ (xs0 = 0) → Cl X 0 mX9_byteAt [.ref a0, .int x5] m (fun v m2 => Go X 6 mX9_takeWordOf Q 55 [(0, .ref a0), (1, .retAddr k1), (2, .int x2), (3, .int x3), (4, .int x4), (5, .int x5)] (v.toList ++ []) m2)) :
    Go X 6 mX9_takeWordOf Q 46 [(0, .ref a0), (1, .retAddr k1), (2, .int x2), (3, .int x3), (4, .int x4), (5, .int x5)] [.int xs0] m := by
  refine g_if_eq 69 dX9_takeWordOf_46 (by decide) (fun q1 => ?_) (fun q1 => ?_)
  · refine g_iinc (v := x2 + (1 : Int32)) (ls2 := [(2, .int (x2 + (1 : Int32))), (0, .ref a0), (1, .retAddr k1), (3, .int x3), (4, .int x4), (5, .int x5)]) 2 dX9_takeWordOf_69 rfl rfl (by decide) rfl ?_
    refine g_iload 4 dX9_takeWordOf_72 rfl ?_
    refine g_iconst (v := 1) dX9_takeWordOf_74 (by decide) ?_
    refine g_iadd dX9_takeWordOf_75 ?_
    refine g_istore_n (ls2 := [(3, .int (x4 + (1 : Int32))), (2, .int (x2 + (1 : Int32))), (0, .ref a0), (1, .retAddr k1), (4, .int x4), (5, .int x5)]) dX9_takeWordOf_76 rfl (by decide) rfl ?_
    refine g_iinc (v := x4 + (1 : Int32)) (ls2 := [(4, .int (x4 + (1 : Int32))), (3, .int (x4 + (1 : Int32))), (2, .int (x2 + (1 : Int32))), (0, .ref a0), (1, .retAddr k1), (5, .int x5)]) 4 dX9_takeWordOf_77 rfl rfl (by decide) rfl ?_
    refine g_goto 7 dX9_takeWordOf_80 (by decide) ?_
    exact g_ls [3, 4, 2, 1, 0] rfl (h1 q1)
  · refine g_aload_n 0 dX9_takeWordOf_49 rfl rfl ?_
    refine g_iload 5 dX9_takeWordOf_50 rfl ?_
    exact g_callV (As := [.int x5]) (st := []) dX9_takeWordOf_52 clX9_25 c0 rfl rfl (Nat.le_of_ble_eq_true rfl) (rmSH (by decide) (by decide)) (h2 q1)
theorem bX9_takeWordOf_55 {X : pX} {Q : Option Value → pMem → Prop} {m : pMem} {a0 : Nat} {k1 : Nat} {x2 : Int32} {x3 : Int32} {x4 : Int32} {x5 : Int32} {xs0 : Int32} (hW : Wf m) (c0 : SH[a0]? = some (.inl 9))
    (h1 : Cl X 0 mX9_isLetter [.int xs0] m (fun v m2 => Go X 6 mX9_takeWordOf Q 58 [(0, .ref a0), (1, .retAddr k1), (2, .int x2), (3, .int x3), (4, .int x4), (5, .int x5)] (v.toList ++ []) m2)) :
    Go X 6 mX9_takeWordOf Q 55 [(0, .ref a0), (1, .retAddr k1), (2, .int x2), (3, .int x3), (4, .int x4), (5, .int x5)] [.int xs0] m := by
  exact g_callS (As := [.int xs0]) (st := []) dX9_takeWordOf_55 clX9_45 rfl rfl (Nat.le_of_ble_eq_true rfl) (rmSH (by decide) (by decide)) h1
theorem bX9_takeWordOf_58 {X : pX} {Q : Option Value → pMem → Prop} {m : pMem} {a0 : Nat} {k1 : Nat} {x2 : Int32} {x3 : Int32} {x4 : Int32} {x5 : Int32} {xs0 : Int32} (hW : Wf m) (c0 : SH[a0]? = some (.inl 9))
    (h1 : ¬ xs0 = 0 → Go X 6 mX9_takeWordOf Q 7 [(0, .ref a0), (1, .retAddr k1), (2, .int (x2 + (1 : Int32))), (3, .int (x4 + (1 : Int32))), (4, .int (x4 + (1 : Int32)))] [] m)
    (h2 : xs0 = 0 → Q (some (.int x2)) (uI m a0 2 x5)) :
    Go X 6 mX9_takeWordOf Q 58 [(0, .ref a0), (1, .retAddr k1), (2, .int x2), (3, .int x3), (4, .int x4), (5, .int x5)] [.int xs0] m := by
  refine g_if_ne 69 dX9_takeWordOf_58 (by decide) (fun q1 => ?_) (fun q1 => ?_)
  · refine g_iinc (v := x2 + (1 : Int32)) (ls2 := [(2, .int (x2 + (1 : Int32))), (0, .ref a0), (1, .retAddr k1), (3, .int x3), (4, .int x4), (5, .int x5)]) 2 dX9_takeWordOf_69 rfl rfl (by decide) rfl ?_
    refine g_iload 4 dX9_takeWordOf_72 rfl ?_
    refine g_iconst (v := 1) dX9_takeWordOf_74 (by decide) ?_
    refine g_iadd dX9_takeWordOf_75 ?_
    refine g_istore_n (ls2 := [(3, .int (x4 + (1 : Int32))), (2, .int (x2 + (1 : Int32))), (0, .ref a0), (1, .retAddr k1), (4, .int x4), (5, .int x5)]) dX9_takeWordOf_76 rfl (by decide) rfl ?_
    refine g_iinc (v := x4 + (1 : Int32)) (ls2 := [(4, .int (x4 + (1 : Int32))), (3, .int (x4 + (1 : Int32))), (2, .int (x2 + (1 : Int32))), (0, .ref a0), (1, .retAddr k1), (5, .int x5)]) 4 dX9_takeWordOf_77 rfl rfl (by decide) rfl ?_
    refine g_goto 7 dX9_takeWordOf_80 (by decide) ?_
    exact g_ls [3, 4, 2, 1, 0] rfl (h1 q1)
  · refine g_aload_n 0 dX9_takeWordOf_61 rfl rfl ?_
    refine g_iload 5 dX9_takeWordOf_62 rfl ?_
    refine g_putI dX9_takeWordOf_64 fl9_19 (fun h => by cases h) c0 ?_
    refine g_iload_n 2 dX9_takeWordOf_67 rfl rfl ?_
    exact g_iret dX9_takeWordOf_68 rfl enSH (h2 q1)
theorem bX9_stands_0 {X : pX} {Q : Option Value → pMem → Prop} {m : pMem} {a0 : Nat} {k1 : Nat} {x2 : Int32} {x3 : Int32} (hW : Wf m) (c0 : SH[a0]? = some (.inl 9))
    (h1 : (((mI m a0 2) + x3) - x2) ≤ (mI m a0 1) → Go X 5 mX9_stands Q 20 [(0, .ref a0), (1, .retAddr k1), (2, .int x2), (3, .int x3), (4, .int x2)] [] m)
    (h2 : ¬ ((((mI m a0 2) + x3) - x2) ≤ (mI m a0 1)) → Q (some (.int (0 : Int32))) m) :
    Go X 5 mX9_stands Q 0 [(0, .ref a0), (1, .retAddr k1), (2, .int x2), (3, .int x3)] [] m := by
  refine g_aload_n 0 dX9_stands_0 rfl rfl ?_
  refine g_getI dX9_stands_1 fl9_19 c0 ?_
  refine g_iload_n 3 dX9_stands_4 rfl rfl ?_
  refine g_iadd dX9_stands_5 ?_
  refine g_iload_n 2 dX9_stands_6 rfl rfl ?_
  refine g_isub dX9_stands_7 ?_
  refine g_aload_n 0 dX9_stands_8 rfl rfl ?_
  refine g_getI dX9_stands_9 fl9_15 c0 ?_
  refine g_icmp_le 17 dX9_stands_12 (by decide) (fun q1 => ?_) (fun q1 => ?_)
  · refine g_iload_n 2 dX9_stands_17 rfl rfl ?_
    refine g_istore (ls2 := [(4, .int x2), (0, .ref a0), (1, .retAddr k1), (2, .int x2), (3, .int x3)]) dX9_stands_18 (by decide) rfl ?_
    exact g_ls [1, 2, 3, 4, 0] rfl (h1 q1)
  · refine g_iconst (v := 0) dX9_stands_15 (by decide) ?_
    exact g_bret dX9_stands_16 rfl (Or.inl rfl) enSH (h2 q1)
theorem bX9_stands_20 {X : pX} {Q : Option Value → pMem → Prop} {m : pMem} {a0 : Nat} {k1 : Nat} {x2 : Int32} {x3 : Int32} {x4 : Int32} (hW : Wf m) (c0 : SH[a0]? = some (.inl 9))
    (h1 : x3 ≤ x4 → Q (some (.int (1 : Int32))) m)
    (h2 : ¬ (x3 ≤ x4) → 1 ≤ k1 ∧ k1 ≤ 25)
    (h3 : ¬ (x3 ≤ x4) → Cl X 1 mJ0_length_8abf5 [.retAddr k1] m (fun v m2 => Go X 5 mX9_stands Q 32 [(0, .ref a0), (1, .retAddr k1), (2, .int x2), (3, .int x3), (4, .int x4)] (v.toList ++ [.int x4]) m2)) :
    Go X 5 mX9_stands Q 20 [(0, .ref a0), (1, .retAddr k1), (2, .int x2), (3, .int x3), (4, .int x4)] [] m := by
  refine g_iload 4 dX9_stands_20 rfl ?_
  refine g_iload_n 3 dX9_stands_22 rfl rfl ?_
  refine g_icmp_ge 66 dX9_stands_23 (by decide) (fun q1 => ?_) (fun q1 => ?_)
  · refine g_iconst (v := 1) dX9_stands_66 (by decide) ?_
    exact g_bret dX9_stands_67 rfl (Or.inr rfl) enSH (h1 q1)
  · refine g_iload 4 dX9_stands_26 rfl ?_
    refine g_aload_nO 1 dX9_stands_28 rfl rfl ?_
    exact g_callVO (As := []) (st := [.int x4]) dX9_stands_29 coX9_37 rfl (h2 q1) rfl rfl (Nat.le_of_ble_eq_true rfl) (rmSH (by decide) (by decide)) (h3 q1)
theorem bX9_stands_32 {X : pX} {Q : Option Value → pMem → Prop} {m : pMem} {a0 : Nat} {k1 : Nat} {x2 : Int32} {x3 : Int32} {x4 : Int32} {xs0 : Int32} {xs1 : Int32} (hW : Wf m) (c0 : SH[a0]? = some (.inl 9))
    (h1 : xs0 ≤ xs1 → Q (some (.int (1 : Int32))) m)
    (h2 : ¬ (xs0 ≤ xs1) → vp_in (((mI m a0 2) + x4) - x2) 400)
    (h3 : ¬ (xs0 ≤ xs1) → 1 ≤ k1 ∧ k1 ≤ 25)
    (h4 : ¬ (xs0 ≤ xs1) → Cl X 4 mJ0_charAt_5068e [.retAddr k1, .int x4] m (fun v m2 => Go X 5 mX9_stands Q 55 [(0, .ref a0), (1, .retAddr k1), (2, .int x2), (3, .int x3), (4, .int x4)] (v.toList ++ [.int (mI m (a0 + 1) ((((mI m a0 2) + x4) - x2).toNatClampNeg))]) m2)) :
    Go X 5 mX9_stands Q 32 [(0, .ref a0), (1, .retAddr k1), (2, .int x2), (3, .int x3), (4, .int x4)] [.int xs0, .int xs1] m := by
  refine g_icmp_ge 66 dX9_stands_32 (by decide) (fun q1 => ?_) (fun q1 => ?_)
  · refine g_iconst (v := 1) dX9_stands_66 (by decide) ?_
    exact g_bret dX9_stands_67 rfl (Or.inr rfl) enSH (h1 q1)
  · refine g_aload_n 0 dX9_stands_35 rfl rfl ?_
    refine g_getR dX9_stands_36 fl9_11 rfl c0 (w9_0 hW c0) ?_
    refine g_aload_n 0 dX9_stands_39 rfl rfl ?_
    refine g_getI dX9_stands_40 fl9_19 c0 ?_
    refine g_iload 4 dX9_stands_43 rfl ?_
    refine g_iadd dX9_stands_45 ?_
    refine g_iload_n 2 dX9_stands_46 rfl rfl ?_
    refine g_isub dX9_stands_47 ?_
    refine g_iald (j := (((mI m a0 2) + x4) - x2).toNatClampNeg) dX9_stands_48 (s9_0 c0) (h2 q1) rfl ?_
    refine g_aload_nO 1 dX9_stands_49 rfl rfl ?_
    refine g_iload 4 dX9_stands_50 rfl ?_
    exact g_callVO (As := [.int x4]) (st := [.int (mI m (a0 + 1) ((((mI m a0 2) + x4) - x2).toNatClampNeg))]) dX9_stands_52 coX9_48 rfl (h3 q1) rfl rfl (Nat.le_of_ble_eq_true rfl) (rmSH (by decide) (by decide)) (h4 q1)
theorem bX9_stands_55 {X : pX} {Q : Option Value → pMem → Prop} {m : pMem} {a0 : Nat} {k1 : Nat} {x2 : Int32} {x3 : Int32} {x4 : Int32} {xs0 : Int32} {xs1 : Int32} (hW : Wf m) (c0 : SH[a0]? = some (.inl 9))
    (h1 : xs1 = xs0 → Go X 5 mX9_stands Q 20 [(0, .ref a0), (1, .retAddr k1), (2, .int x2), (3, .int x3), (4, .int (x4 + (1 : Int32)))] [] m)
    (h2 : ¬ (xs1 = xs0) → Q (some (.int (0 : Int32))) m) :
    Go X 5 mX9_stands Q 55 [(0, .ref a0), (1, .retAddr k1), (2, .int x2), (3, .int x3), (4, .int x4)] [.int xs0, .int xs1] m := by
  refine g_icmp_eq 60 dX9_stands_55 (by decide) (fun q1 => ?_) (fun q1 => ?_)
  · refine g_iinc (v := x4 + (1 : Int32)) (ls2 := [(4, .int (x4 + (1 : Int32))), (0, .ref a0), (1, .retAddr k1), (2, .int x2), (3, .int x3)]) 4 dX9_stands_60 rfl rfl (by decide) rfl ?_
    refine g_goto 20 dX9_stands_63 (by decide) ?_
    exact g_ls [1, 2, 3, 4, 0] rfl (h1 q1)
  · refine g_iconst (v := 0) dX9_stands_58 (by decide) ?_
    exact g_bret dX9_stands_59 rfl (Or.inl rfl) enSH (h2 q1)
theorem bX9_number_0 {X : pX} {Q : Option Value → pMem → Prop} {m : pMem} {a0 : Nat} {x1 : Int32} {x2 : Int32} (hW : Wf m) (c0 : SH[a0]? = some (.inl 9))
    (h1 : Go X 1 mX9_number Q 8 [(0, .ref a0), (1, .int x1), (2, .int x2), (3, .int (mI m a0 2)), (4, .int (0 : Int32))] [] m) :
    Go X 1 mX9_number Q 0 [(0, .ref a0), (1, .int x1), (2, .int x2)] [] m := by
  refine g_aload_n 0 dX9_number_0 rfl rfl ?_
  refine g_getI dX9_number_1 fl9_19 c0 ?_
  refine g_istore_n (ls2 := [(3, .int (mI m a0 2)), (0, .ref a0), (1, .int x1), (2, .int x2)]) dX9_number_4 rfl (by decide) rfl ?_
  refine g_iconst (v := 0) dX9_number_5 (by decide) ?_
  refine g_istore (ls2 := [(4, .int (0 : Int32)), (3, .int (mI m a0 2)), (0, .ref a0), (1, .int x1), (2, .int x2)]) dX9_number_6 (by decide) rfl ?_
  exact g_ls [2, 3, 4, 1, 0] rfl h1
theorem bX9_number_8 {X : pX} {Q : Option Value → pMem → Prop} {m : pMem} {a0 : Nat} {x1 : Int32} {x2 : Int32} {x3 : Int32} {x4 : Int32} (hW : Wf m) (c0 : SH[a0]? = some (.inl 9))
    (h1 : (mI m a0 1) ≤ (mI m a0 2) → Go X 1 mX9_number Q 77 [(0, .ref a0), (1, .int x1), (2, .int x2), (3, .int x3), (4, .int x4)] [] m)
    (h2 : ¬ ((mI m a0 1) ≤ (mI m a0 2)) → vp_in (mI m a0 2) 400)
    (h3 : ¬ ((mI m a0 1) ≤ (mI m a0 2)) → Cl X 0 mX9_isDigit [.int (mI m (a0 + 1) ((mI m a0 2).toNatClampNeg))] m (fun v m2 => Go X 1 mX9_number Q 31 [(0, .ref a0), (1, .int x1), (2, .int x2), (3, .int x3), (4, .int x4)] (v.toList ++ []) m2)) :
    Go X 1 mX9_number Q 8 [(0, .ref a0), (1, .int x1), (2, .int x2), (3, .int x3), (4, .int x4)] [] m := by
  refine g_aload_n 0 dX9_number_8 rfl rfl ?_
  refine g_getI dX9_number_9 fl9_19 c0 ?_
  refine g_aload_n 0 dX9_number_12 rfl rfl ?_
  refine g_getI dX9_number_13 fl9_15 c0 ?_
  refine g_icmp_ge 77 dX9_number_16 (by decide) (fun q1 => ?_) (fun q1 => ?_)
  · exact g_ls [0, 1, 2, 3, 4] rfl (h1 q1)
  · refine g_aload_n 0 dX9_number_19 rfl rfl ?_
    refine g_getR dX9_number_20 fl9_11 rfl c0 (w9_0 hW c0) ?_
    refine g_aload_n 0 dX9_number_23 rfl rfl ?_
    refine g_getI dX9_number_24 fl9_19 c0 ?_
    refine g_iald (j := (mI m a0 2).toNatClampNeg) dX9_number_27 (s9_0 c0) (h2 q1) rfl ?_
    exact g_callS (As := [.int (mI m (a0 + 1) ((mI m a0 2).toNatClampNeg))]) (st := []) dX9_number_28 clX9_52 rfl rfl (Nat.le_of_ble_eq_true rfl) (rmSH (by decide) (by decide)) (h3 q1)
theorem bX9_number_77 {X : pX} {Q : Option Value → pMem → Prop} {m : pMem} {a0 : Nat} {x1 : Int32} {x2 : Int32} {x3 : Int32} {x4 : Int32} (hW : Wf m) (c0 : SH[a0]? = some (.inl 9))
    (h1 : ¬ (mI m a0 2) = x3 → (5 : Int32) < ((mI m a0 2) - x3) → Cl X 0 mX9_fail [.ref a0, .int x3, .int (1 : Int32)] m (fun v m2 => Go X 1 mX9_number Q 122 [(0, .ref a0), (1, .int x1), (2, .int x2), (3, .int x3), (4, .int x4)] (v.toList ++ []) m2))
    (h2 : ¬ (mI m a0 2) = x3 → ¬ ((5 : Int32) < ((mI m a0 2) - x3)) → x4 < x1 → Cl X 0 mX9_fail [.ref a0, .int x3, .int (1 : Int32)] m (fun v m2 => Go X 1 mX9_number Q 122 [(0, .ref a0), (1, .int x1), (2, .int x2), (3, .int x3), (4, .int x4)] (v.toList ++ []) m2))
    (h3 : ¬ (mI m a0 2) = x3 → ¬ ((5 : Int32) < ((mI m a0 2) - x3)) → ¬ (x4 < x1) → x4 ≤ x2 → Q (some (.int x4)) m)
    (h4 : ¬ (mI m a0 2) = x3 → ¬ ((5 : Int32) < ((mI m a0 2) - x3)) → ¬ (x4 < x1) → ¬ (x4 ≤ x2) → Cl X 0 mX9_fail [.ref a0, .int x3, .int (1 : Int32)] m (fun v m2 => Go X 1 mX9_number Q 122 [(0, .ref a0), (1, .int x1), (2, .int x2), (3, .int x3), (4, .int x4)] (v.toList ++ []) m2))
    (h5 : (mI m a0 2) = x3 → Cl X 0 mX9_fail [.ref a0, .int x3, .int (0 : Int32)] m (fun v m2 => Go X 1 mX9_number Q 91 [(0, .ref a0), (1, .int x1), (2, .int x2), (3, .int x3), (4, .int x4)] (v.toList ++ []) m2)) :
    Go X 1 mX9_number Q 77 [(0, .ref a0), (1, .int x1), (2, .int x2), (3, .int x3), (4, .int x4)] [] m := by
  refine g_aload_n 0 dX9_number_77 rfl rfl ?_
  refine g_getI dX9_number_78 fl9_19 c0 ?_
  refine g_iload_n 3 dX9_number_81 rfl rfl ?_
  refine g_icmp_ne 94 dX9_number_82 (by decide) (fun q1 => ?_) (fun q1 => ?_)
  · refine g_aload_n 0 dX9_number_94 rfl rfl ?_
    refine g_getI dX9_number_95 fl9_19 c0 ?_
    refine g_iload_n 3 dX9_number_98 rfl rfl ?_
    refine g_isub dX9_number_99 ?_
    refine g_iconst (v := 5) dX9_number_100 (by decide) ?_
    refine g_icmp_gt 116 dX9_number_101 (by decide) (fun q2 => ?_) (fun q2 => ?_)
    · refine g_aload_n 0 dX9_number_116 rfl rfl ?_
      refine g_iload_n 3 dX9_number_117 rfl rfl ?_
      refine g_iconst (v := 1) dX9_number_118 (by decide) ?_
      exact g_callV (As := [.int x3, .int (1 : Int32)]) (st := []) dX9_number_119 clX9_55 c0 rfl rfl (Nat.le_of_ble_eq_true rfl) (rmSH (by decide) (by decide)) (h1 q1 q2)
    · refine g_iload 4 dX9_number_104 rfl ?_
      refine g_iload_n 1 dX9_number_106 rfl rfl ?_
      refine g_icmp_lt 116 dX9_number_107 (by decide) (fun q3 => ?_) (fun q3 => ?_)
      · refine g_aload_n 0 dX9_number_116 rfl rfl ?_
        refine g_iload_n 3 dX9_number_117 rfl rfl ?_
        refine g_iconst (v := 1) dX9_number_118 (by decide) ?_
        exact g_callV (As := [.int x3, .int (1 : Int32)]) (st := []) dX9_number_119 clX9_55 c0 rfl rfl (Nat.le_of_ble_eq_true rfl) (rmSH (by decide) (by decide)) (h2 q1 q2 q3)
      · refine g_iload 4 dX9_number_110 rfl ?_
        refine g_iload_n 2 dX9_number_112 rfl rfl ?_
        refine g_icmp_le 125 dX9_number_113 (by decide) (fun q4 => ?_) (fun q4 => ?_)
        · refine g_iload 4 dX9_number_125 rfl ?_
          exact g_iret dX9_number_127 rfl enSH (h3 q1 q2 q3 q4)
        · refine g_aload_n 0 dX9_number_116 rfl rfl ?_
          refine g_iload_n 3 dX9_number_117 rfl rfl ?_
          refine g_iconst (v := 1) dX9_number_118 (by decide) ?_
          exact g_callV (As := [.int x3, .int (1 : Int32)]) (st := []) dX9_number_119 clX9_55 c0 rfl rfl (Nat.le_of_ble_eq_true rfl) (rmSH (by decide) (by decide)) (h4 q1 q2 q3 q4)
  · refine g_aload_n 0 dX9_number_85 rfl rfl ?_
    refine g_iload_n 3 dX9_number_86 rfl rfl ?_
    refine g_iconst (v := 0) dX9_number_87 (by decide) ?_
    exact g_callV (As := [.int x3, .int (0 : Int32)]) (st := []) dX9_number_88 clX9_55 c0 rfl rfl (Nat.le_of_ble_eq_true rfl) (rmSH (by decide) (by decide)) (h5 q1)
theorem bX9_number_31 {X : pX} {Q : Option Value → pMem → Prop} {m : pMem} {a0 : Nat} {x1 : Int32} {x2 : Int32} {x3 : Int32} {x4 : Int32} {xs0 : Int32} (hW : Wf m) (c0 : SH[a0]? = some (.inl 9))
    (h1 : xs0 = 0 → Go X 1 mX9_number Q 77 [(0, .ref a0), (1, .int x1), (2, .int x2), (3, .int x3), (4, .int x4)] [] m)
    (h2 : ¬ (xs0 = 0) → (5 : Int32) ≤ ((mI m a0 2) - x3) → Go X 1 mX9_number Q 8 [(0, .ref a0), (1, .int x1), (2, .int x2), (3, .int x3), (4, .int x4)] [] (uI m a0 2 ((mI m a0 2) + (1 : Int32))))
    (h3 : ¬ (xs0 = 0) → ¬ ((5 : Int32) ≤ ((mI m a0 2) - x3)) → vp_in (mI m a0 2) 400)
    (h4 : ¬ (xs0 = 0) → ¬ ((5 : Int32) ≤ ((mI m a0 2) - x3)) → Go X 1 mX9_number Q 8 [(0, .ref a0), (1, .int x1), (2, .int x2), (3, .int x3), (4, .int (((x4 * (10 : Int32)) + (mI m (a0 + 1) ((mI m a0 2).toNatClampNeg))) - (48 : Int32)))] [] (uI m a0 2 ((mI m a0 2) + (1 : Int32)))) :
    Go X 1 mX9_number Q 31 [(0, .ref a0), (1, .int x1), (2, .int x2), (3, .int x3), (4, .int x4)] [.int xs0] m := by
  refine g_if_eq 77 dX9_number_31 (by decide) (fun q1 => ?_) (fun q1 => ?_)
  · exact g_ls [0, 1, 2, 3, 4] rfl (h1 q1)
  · refine g_aload_n 0 dX9_number_34 rfl rfl ?_
    refine g_getI dX9_number_35 fl9_19 c0 ?_
    refine g_iload_n 3 dX9_number_38 rfl rfl ?_
    refine g_isub dX9_number_39 ?_
    refine g_iconst (v := 5) dX9_number_40 (by decide) ?_
    refine g_icmp_ge 64 dX9_number_41 (by decide) (fun q2 => ?_) (fun q2 => ?_)
    · refine g_aload_n 0 dX9_number_64 rfl rfl ?_
      refine g_dup dX9_number_65 rfl ?_
      refine g_getI dX9_number_66 fl9_19 c0 ?_
      refine g_iconst (v := 1) dX9_number_69 (by decide) ?_
      refine g_iadd dX9_number_70 ?_
      refine g_putI dX9_number_71 fl9_19 (fun h => by cases h) c0 ?_
      refine g_goto 8 dX9_number_74 (by decide) ?_
      exact g_ls [0, 1, 2, 3, 4] rfl (h2 q1 q2)
    · refine g_iload 4 dX9_number_44 rfl ?_
      refine g_bipush (v := 10) dX9_number_46 (by decide) ?_
      refine g_imul dX9_number_48 ?_
      refine g_aload_n 0 dX9_number_49 rfl rfl ?_
      refine g_getR dX9_number_50 fl9_11 rfl c0 (w9_0 hW c0) ?_
      refine g_aload_n 0 dX9_number_53 rfl rfl ?_
      refine g_getI dX9_number_54 fl9_19 c0 ?_
      refine g_iald (j := (mI m a0 2).toNatClampNeg) dX9_number_57 (s9_0 c0) (h3 q1 q2) rfl ?_
      refine g_iadd dX9_number_58 ?_
      refine g_bipush (v := 48) dX9_number_59 (by decide) ?_
      refine g_isub dX9_number_61 ?_
      refine g_istore (ls2 := [(4, .int (((x4 * (10 : Int32)) + (mI m (a0 + 1) ((mI m a0 2).toNatClampNeg))) - (48 : Int32))), (0, .ref a0), (1, .int x1), (2, .int x2), (3, .int x3)]) dX9_number_62 (by decide) rfl ?_
      refine g_aload_n 1 dX9_number_64 rfl rfl ?_
      refine g_dup dX9_number_65 rfl ?_
      refine g_getI dX9_number_66 fl9_19 c0 ?_
      refine g_iconst (v := 1) dX9_number_69 (by decide) ?_
      refine g_iadd dX9_number_70 ?_
      refine g_putI dX9_number_71 fl9_19 (fun h => by cases h) c0 ?_
      refine g_goto 8 dX9_number_74 (by decide) ?_
      exact g_ls [1, 2, 3, 4, 0] rfl (h4 q1 q2)
theorem bX9_number_122 {X : pX} {Q : Option Value → pMem → Prop} {m : pMem} {a0 : Nat} {x1 : Int32} {x2 : Int32} {x3 : Int32} {x4 : Int32} {xs0 : Int32} (hW : Wf m) (c0 : SH[a0]? = some (.inl 9))
    (h1 : Q (some (.int (-1 : Int32))) m) :
    Go X 1 mX9_number Q 122 [(0, .ref a0), (1, .int x1), (2, .int x2), (3, .int x3), (4, .int x4)] [.int xs0] m := by
  refine g_pop dX9_number_122 rfl ?_
  refine g_iconst (v := -1) dX9_number_123 (by decide) ?_
  exact g_iret dX9_number_124 rfl enSH h1
theorem bX9_number_91 {X : pX} {Q : Option Value → pMem → Prop} {m : pMem} {a0 : Nat} {x1 : Int32} {x2 : Int32} {x3 : Int32} {x4 : Int32} {xs0 : Int32} (hW : Wf m) (c0 : SH[a0]? = some (.inl 9))
    (h1 : Q (some (.int (-1 : Int32))) m) :
    Go X 1 mX9_number Q 91 [(0, .ref a0), (1, .int x1), (2, .int x2), (3, .int x3), (4, .int x4)] [.int xs0] m := by
  refine g_pop dX9_number_91 rfl ?_
  refine g_iconst (v := -1) dX9_number_92 (by decide) ?_
  exact g_iret dX9_number_93 rfl enSH h1
