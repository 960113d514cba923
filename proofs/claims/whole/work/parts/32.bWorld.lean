theorem bX10_begin_0 {X : pX} {Q : Option Value → pMem → Prop} {m : pMem} {a0 : Nat} {a1 : Nat} (hW : Wf m) (c0 : SH[a0]? = some (.inl 10)) (c1 : SH[a1]? = some (.inl 4))
    (h1 : Cl X 1 mX4_copy [.ref (a0 + 1), .ref a1] m (fun v m2 => Go X 2 mX10_begin Q 8 [(0, .ref a0), (1, .ref a1)] (v.toList ++ []) m2)) :
    Go X 2 mX10_begin Q 0 [(0, .ref a0), (1, .ref a1)] [] m := by
  refine g_aload_n 0 dX10_begin_0 rfl rfl ?_
  refine g_getR dX10_begin_1 fl10_12 rfl c0 (w10_0 hW c0) ?_
  refine g_aload_n 1 dX10_begin_4 rfl rfl ?_
  exact g_callV (As := [.ref a1]) (st := []) dX10_begin_5 clX10_53 (s10_0 c0) rfl rfl (Nat.le_of_ble_eq_true rfl) (rmSH (by decide) (by decide)) h1
theorem bX10_begin_8 {X : pX} {Q : Option Value → pMem → Prop} {m : pMem} {a0 : Nat} {a1 : Nat} (hW : Wf m) (c0 : SH[a0]? = some (.inl 10)) (c1 : SH[a1]? = some (.inl 4))
    (h1 : Cl X 1 mX4_begin [.ref (a0 + 1), .ref (a0 + 7)] m (fun v m2 => Go X 2 mX10_begin Q 19 [(0, .ref a0), (1, .ref a1)] (v.toList ++ []) m2)) :
    Go X 2 mX10_begin Q 8 [(0, .ref a0), (1, .ref a1)] [] m := by
  refine g_aload_n 0 dX10_begin_8 rfl rfl ?_
  refine g_getR dX10_begin_9 fl10_12 rfl c0 (w10_0 hW c0) ?_
  refine g_aload_n 0 dX10_begin_12 rfl rfl ?_
  refine g_getR dX10_begin_13 fl10_21 rfl c0 (w10_1 hW c0) ?_
  exact g_callV (As := [.ref (a0 + 7)]) (st := []) dX10_begin_16 clX10_49 (s10_0 c0) rfl rfl (Nat.le_of_ble_eq_true rfl) (rmSH (by decide) (by decide)) h1
theorem bX10_begin_19 {X : pX} {Q : Option Value → pMem → Prop} {m : pMem} {a0 : Nat} {a1 : Nat} (hW : Wf m) (c0 : SH[a0]? = some (.inl 10)) (c1 : SH[a1]? = some (.inl 4))
    (h1 : Cl X 0 mX2_clear [.ref (a0 + 11)] m (fun v m2 => Go X 2 mX10_begin Q 26 [(0, .ref a0), (1, .ref a1)] (v.toList ++ []) m2)) :
    Go X 2 mX10_begin Q 19 [(0, .ref a0), (1, .ref a1)] [] m := by
  refine g_aload_n 0 dX10_begin_19 rfl rfl ?_
  refine g_getR dX10_begin_20 fl10_28 rfl c0 (w10_2 hW c0) ?_
  exact g_callV (As := []) (st := []) dX10_begin_23 clX10_57 (s10_2 c0) rfl rfl (Nat.le_of_ble_eq_true rfl) (rmSH (by decide) (by decide)) h1
theorem bX10_begin_26 {X : pX} {Q : Option Value → pMem → Prop} {m : pMem} {a0 : Nat} {a1 : Nat} (hW : Wf m) (c0 : SH[a0]? = some (.inl 10)) (c1 : SH[a1]? = some (.inl 4))
    (h1 : Q none (uI m a0 5 (0 : Int32))) :
    Go X 2 mX10_begin Q 26 [(0, .ref a0), (1, .ref a1)] [] m := by
  refine g_aload_n 0 dX10_begin_26 rfl rfl ?_
  refine g_iconst (v := 0) dX10_begin_27 (by decide) ?_
  refine g_putI dX10_begin_28 fl10_58 (fun h => by cases h) c0 ?_
  exact g_vret dX10_begin_31 rfl enSH h1
theorem bX10_copy_0 {X : pX} {Q : Option Value → pMem → Prop} {m : pMem} {a0 : Nat} {a1 : Nat} (hW : Wf m) (c0 : SH[a0]? = some (.inl 10)) (c1 : SH[a1]? = some (.inl 10))
    (h1 : Cl X 1 mX4_copy [.ref (a0 + 1), .ref (a1 + 1)] m (fun v m2 => Go X 3 mX10_copy Q 11 [(0, .ref a0), (1, .ref a1)] (v.toList ++ []) m2)) :
    Go X 3 mX10_copy Q 0 [(0, .ref a0), (1, .ref a1)] [] m := by
  refine g_aload_n 0 dX10_copy_0 rfl rfl ?_
  refine g_getR dX10_copy_1 fl10_12 rfl c0 (w10_0 hW c0) ?_
  refine g_aload_n 1 dX10_copy_4 rfl rfl ?_
  refine g_getR dX10_copy_5 fl10_12 rfl c1 (w10_0 hW c1) ?_
  exact g_callV (As := [.ref (a1 + 1)]) (st := []) dX10_copy_8 clX10_53 (s10_0 c0) rfl rfl (Nat.le_of_ble_eq_true rfl) (rmSH (by decide) (by decide)) h1
theorem bX10_copy_11 {X : pX} {Q : Option Value → pMem → Prop} {m : pMem} {a0 : Nat} {a1 : Nat} (hW : Wf m) (c0 : SH[a0]? = some (.inl 10)) (c1 : SH[a1]? = some (.inl 10))
    (h1 : Cl X 1 mX8_copy [.ref (a0 + 7), .ref (a1 + 7)] m (fun v m2 => Go X 3 mX10_copy Q 22 [(0, .ref a0), (1, .ref a1)] (v.toList ++ []) m2)) :
    Go X 3 mX10_copy Q 11 [(0, .ref a0), (1, .ref a1)] [] m := by
  refine g_aload_n 0 dX10_copy_11 rfl rfl ?_
  refine g_getR dX10_copy_12 fl10_21 rfl c0 (w10_1 hW c0) ?_
  refine g_aload_n 1 dX10_copy_15 rfl rfl ?_
  refine g_getR dX10_copy_16 fl10_21 rfl c1 (w10_1 hW c1) ?_
  exact g_callV (As := [.ref (a1 + 7)]) (st := []) dX10_copy_19 clX10_61 (s10_1 c0) rfl rfl (Nat.le_of_ble_eq_true rfl) (rmSH (by decide) (by decide)) h1
theorem bX10_copy_22 {X : pX} {Q : Option Value → pMem → Prop} {m : pMem} {a0 : Nat} {a1 : Nat} (hW : Wf m) (c0 : SH[a0]? = some (.inl 10)) (c1 : SH[a1]? = some (.inl 10))
    (h1 : Cl X 2 mX2_copy [.ref (a0 + 11), .ref (a1 + 11)] m (fun v m2 => Go X 3 mX10_copy Q 33 [(0, .ref a0), (1, .ref a1)] (v.toList ++ []) m2)) :
    Go X 3 mX10_copy Q 22 [(0, .ref a0), (1, .ref a1)] [] m := by
  refine g_aload_n 0 dX10_copy_22 rfl rfl ?_
  refine g_getR dX10_copy_23 fl10_28 rfl c0 (w10_2 hW c0) ?_
  refine g_aload_n 1 dX10_copy_26 rfl rfl ?_
  refine g_getR dX10_copy_27 fl10_28 rfl c1 (w10_2 hW c1) ?_
  exact g_callV (As := [.ref (a1 + 11)]) (st := []) dX10_copy_30 clX10_63 (s10_2 c0) rfl rfl (Nat.le_of_ble_eq_true rfl) (rmSH (by decide) (by decide)) h1
theorem bX10_copy_33 {X : pX} {Q : Option Value → pMem → Prop} {m : pMem} {a0 : Nat} {a1 : Nat} (hW : Wf m) (c0 : SH[a0]? = some (.inl 10)) (c1 : SH[a1]? = some (.inl 10))
    (h1 : Q none (uC (uC (uC (uI (uI (uI m a0 3 (mI m a1 3)) a0 4 (mI (uI m a0 3 (mI m a1 3)) a1 4)) a0 5 (mI (uI (uI m a0 3 (mI m a1 3)) a0 4 (mI (uI m a0 3 (mI m a1 3)) a1 4)) a1 5)) (a1 + 93) 0 (a0 + 93) 0 10) (a1 + 94) 0 (a0 + 94) 0 10) (a1 + 95) 0 (a0 + 95) 0 10)) :
    Go X 3 mX10_copy Q 33 [(0, .ref a0), (1, .ref a1)] [] m := by
  refine g_aload_n 0 dX10_copy_33 rfl rfl ?_
  refine g_aload_n 1 dX10_copy_34 rfl rfl ?_
  refine g_getI dX10_copy_35 fl10_32 c1 ?_
  refine g_putI dX10_copy_38 fl10_32 (fun h => by cases h) c0 ?_
  refine g_aload_n 0 dX10_copy_41 rfl rfl ?_
  refine g_aload_n 1 dX10_copy_42 rfl rfl ?_
  refine g_getI dX10_copy_43 fl10_66 c1 ?_
  refine g_putI dX10_copy_46 fl10_66 (fun h => by cases h) c0 ?_
  refine g_aload_n 0 dX10_copy_49 rfl rfl ?_
  refine g_aload_n 1 dX10_copy_50 rfl rfl ?_
  refine g_getI dX10_copy_51 fl10_58 c1 ?_
  refine g_putI dX10_copy_54 fl10_58 (fun h => by cases h) c0 ?_
  refine g_aload_n 1 dX10_copy_57 rfl rfl ?_
  refine g_getR dX10_copy_58 fl10_36 rfl c1 (w10_6 hW c1) ?_
  refine g_iconst (v := 0) dX10_copy_61 (by decide) ?_
  refine g_aload_n 0 dX10_copy_62 rfl rfl ?_
  refine g_getR dX10_copy_63 fl10_36 rfl c0 (w10_6 hW c0) ?_
  refine g_iconst (v := 0) dX10_copy_66 (by decide) ?_
  refine g_bipush (v := 10) dX10_copy_67 (by decide) ?_
  refine g_copyN (s1 := 0) (d1 := 0) (n1 := 10) dX10_copy_69 acwX10_69 (s10_6 c1) (s10_6 c0) (by decide) (by decide) (by decide) (by decide) (by decide) (by decide) (Nat.le_of_ble_eq_true rfl) ⟨by decide, by decide⟩ ?_
  refine g_aload_n 1 dX10_copy_72 rfl rfl ?_
  refine g_getR dX10_copy_73 fl10_40 rfl c1 (w10_7 hW c1) ?_
  refine g_iconst (v := 0) dX10_copy_76 (by decide) ?_
  refine g_aload_n 0 dX10_copy_77 rfl rfl ?_
  refine g_getR dX10_copy_78 fl10_40 rfl c0 (w10_7 hW c0) ?_
  refine g_iconst (v := 0) dX10_copy_81 (by decide) ?_
  refine g_bipush (v := 10) dX10_copy_82 (by decide) ?_
  refine g_copyN (s1 := 0) (d1 := 0) (n1 := 10) dX10_copy_84 acwX10_69 (s10_7 c1) (s10_7 c0) (by decide) (by decide) (by decide) (by decide) (by decide) (by decide) (Nat.le_of_ble_eq_true rfl) ⟨by decide, by decide⟩ ?_
  refine g_aload_n 1 dX10_copy_87 rfl rfl ?_
  refine g_getR dX10_copy_88 fl10_43 rfl c1 (w10_8 hW c1) ?_
  refine g_iconst (v := 0) dX10_copy_91 (by decide) ?_
  refine g_aload_n 0 dX10_copy_92 rfl rfl ?_
  refine g_getR dX10_copy_93 fl10_43 rfl c0 (w10_8 hW c0) ?_
  refine g_iconst (v := 0) dX10_copy_96 (by decide) ?_
  refine g_bipush (v := 10) dX10_copy_97 (by decide) ?_
  refine g_copyN (s1 := 0) (d1 := 0) (n1 := 10) dX10_copy_99 acwX10_69 (s10_8 c1) (s10_8 c0) (by decide) (by decide) (by decide) (by decide) (by decide) (by decide) (Nat.le_of_ble_eq_true rfl) ⟨by decide, by decide⟩ ?_
  exact g_vret dX10_copy_102 rfl enSH h1
theorem bX10_canNote_0 {X : pX} {Q : Option Value → pMem → Prop} {m : pMem} {a0 : Nat} (hW : Wf m) (c0 : SH[a0]? = some (.inl 10))
    (h1 : (10 : Int32) ≤ (mI m a0 5) → Q (some (.int (0 : Int32))) m)
    (h2 : ¬ ((10 : Int32) ≤ (mI m a0 5)) → Q (some (.int (1 : Int32))) m) :
    Go X 0 mX10_canNote Q 0 [(0, .ref a0)] [] m := by
  refine g_aload_n 0 dX10_canNote_0 rfl rfl ?_
  refine g_getI dX10_canNote_1 fl10_58 c0 ?_
  refine g_bipush (v := 10) dX10_canNote_4 (by decide) ?_
  refine g_icmp_ge 13 dX10_canNote_6 (by decide) (fun q1 => ?_) (fun q1 => ?_)
  · refine g_iconst (v := 0) dX10_canNote_13 (by decide) ?_
    exact g_bret dX10_canNote_14 rfl (Or.inl rfl) enSH (h1 q1)
  · refine g_iconst (v := 1) dX10_canNote_9 (by decide) ?_
    refine g_goto 14 dX10_canNote_10 (by decide) ?_
    exact g_bret dX10_canNote_14 rfl (Or.inr rfl) enSH (h2 q1)
theorem bX10_addNote_0 {X : pX} {Q : Option Value → pMem → Prop} {m : pMem} {a0 : Nat} {x1 : Int32} {x2 : Int32} {x3 : Int32} (hW : Wf m) (c0 : SH[a0]? = some (.inl 10))
    (h1 : Cl X 0 mX10_canNote [.ref a0] m (fun v m2 => Go X 1 mX10_addNote Q 4 [(0, .ref a0), (1, .int x1), (2, .int x2), (3, .int x3)] (v.toList ++ []) m2)) :
    Go X 1 mX10_addNote Q 0 [(0, .ref a0), (1, .int x1), (2, .int x2), (3, .int x3)] [] m := by
  refine g_aload_n 0 dX10_addNote_0 rfl rfl ?_
  exact g_callV (As := []) (st := []) dX10_addNote_1 clX10_75 c0 rfl rfl (Nat.le_of_ble_eq_true rfl) (rmSH (by decide) (by decide)) h1
theorem bX10_addNote_4 {X : pX} {Q : Option Value → pMem → Prop} {m : pMem} {a0 : Nat} {x1 : Int32} {x2 : Int32} {x3 : Int32} {xs0 : Int32} (hW : Wf m) (c0 : SH[a0]? = some (.inl 10))
    (h1 : xs0 = 0 → Q none m)
    (h2 : ¬ (xs0 = 0) → vp_in (mI m a0 5) 10)
    (h3 : ¬ (xs0 = 0) → vp_in (mI (uI m (a0 + 93) ((mI m a0 5).toNatClampNeg) x1) a0 5) 10)
    (h4 : ¬ (xs0 = 0) → vp_in (mI (uI (uI m (a0 + 93) ((mI m a0 5).toNatClampNeg) x1) (a0 + 94) ((mI (uI m (a0 + 93) ((mI m a0 5).toNatClampNeg) x1) a0 5).toNatClampNeg) x2) a0 5) 10)
    (h5 : ¬ (xs0 = 0) → Q none (uI (uI (uI (uI m (a0 + 93) ((mI m a0 5).toNatClampNeg) x1) (a0 + 94) ((mI (uI m (a0 + 93) ((mI m a0 5).toNatClampNeg) x1) a0 5).toNatClampNeg) x2) (a0 + 95) ((mI (uI (uI m (a0 + 93) ((mI m a0 5).toNatClampNeg) x1) (a0 + 94) ((mI (uI m (a0 + 93) ((mI m a0 5).toNatClampNeg) x1) a0 5).toNatClampNeg) x2) a0 5).toNatClampNeg) x3) a0 5 ((mI (uI (uI (uI m (a0 + 93) ((mI m a0 5).toNatClampNeg) x1) (a0 + 94) ((mI (uI m (a0 + 93) ((mI m a0 5).toNatClampNeg) x1) a0 5).toNatClampNeg) x2) (a0 + 95) ((mI (uI (uI m (a0 + 93) ((mI m a0 5).toNatClampNeg) x1) (a0 + 94) ((mI (uI m (a0 + 93) ((mI m a0 5).toNatClampNeg) x1) a0 5).toNatClampNeg) x2) a0 5).toNatClampNeg) x3) a0 5) + (1 : Int32)))) :
    Go X 1 mX10_addNote Q 4 [(0, .ref a0), (1, .int x1), (2, .int x2), (3, .int x3)] [.int xs0] m := by
  refine g_if_eq 47 dX10_addNote_4 (by decide) (fun q1 => ?_) (fun q1 => ?_)
  · exact g_vret dX10_addNote_47 rfl enSH (h1 q1)
  · refine g_aload_n 0 dX10_addNote_7 rfl rfl ?_
    refine g_getR dX10_addNote_8 fl10_36 rfl c0 (w10_6 hW c0) ?_
    refine g_aload_n 0 dX10_addNote_11 rfl rfl ?_
    refine g_getI dX10_addNote_12 fl10_58 c0 ?_
    refine g_iload_n 1 dX10_addNote_15 rfl rfl ?_
    refine g_iast (j := (mI m a0 5).toNatClampNeg) dX10_addNote_16 (s10_6 c0) (h2 q1) rfl ?_
    refine g_aload_n 0 dX10_addNote_17 rfl rfl ?_
    refine g_getR dX10_addNote_18 fl10_40 rfl c0 (w10_7 hW c0) ?_
    refine g_aload_n 0 dX10_addNote_21 rfl rfl ?_
    refine g_getI dX10_addNote_22 fl10_58 c0 ?_
    refine g_iload_n 2 dX10_addNote_25 rfl rfl ?_
    refine g_iast (j := (mI (uI m (a0 + 93) ((mI m a0 5).toNatClampNeg) x1) a0 5).toNatClampNeg) dX10_addNote_26 (s10_7 c0) (h3 q1) rfl ?_
    refine g_aload_n 0 dX10_addNote_27 rfl rfl ?_
    refine g_getR dX10_addNote_28 fl10_43 rfl c0 (w10_8 hW c0) ?_
    refine g_aload_n 0 dX10_addNote_31 rfl rfl ?_
    refine g_getI dX10_addNote_32 fl10_58 c0 ?_
    refine g_iload_n 3 dX10_addNote_35 rfl rfl ?_
    refine g_iast (j := (mI (uI (uI m (a0 + 93) ((mI m a0 5).toNatClampNeg) x1) (a0 + 94) ((mI (uI m (a0 + 93) ((mI m a0 5).toNatClampNeg) x1) a0 5).toNatClampNeg) x2) a0 5).toNatClampNeg) dX10_addNote_36 (s10_8 c0) (h4 q1) rfl ?_
    refine g_aload_n 0 dX10_addNote_37 rfl rfl ?_
    refine g_dup dX10_addNote_38 rfl ?_
    refine g_getI dX10_addNote_39 fl10_58 c0 ?_
    refine g_iconst (v := 1) dX10_addNote_42 (by decide) ?_
    refine g_iadd dX10_addNote_43 ?_
    refine g_putI dX10_addNote_44 fl10_58 (fun h => by cases h) c0 ?_
    exact g_vret dX10_addNote_47 rfl enSH (h5 q1)
theorem bX10_isAsNoted_0 {X : pX} {Q : Option Value → pMem → Prop} {m : pMem} {a0 : Nat} {a1 : Nat} (hW : Wf m) (c0 : SH[a0]? = some (.inl 10)) (c1 : SH[a1]? = some (.inl 8))
    (h1 : Go X 1 mX10_isAsNoted Q 2 [(0, .ref a0), (1, .ref a1), (2, .int (0 : Int32))] [] m) :
    Go X 1 mX10_isAsNoted Q 0 [(0, .ref a0), (1, .ref a1)] [] m := by
  refine g_iconst (v := 0) dX10_isAsNoted_0 (by decide) ?_
  refine g_istore_n (ls2 := [(2, .int (0 : Int32)), (0, .ref a0), (1, .ref a1)]) dX10_isAsNoted_1 rfl (by decide) rfl ?_
  exact g_ls [1, 2, 0] rfl h1
theorem bX10_isAsNoted_2 {X : pX} {Q : Option Value → pMem → Prop} {m : pMem} {a0 : Nat} {a1 : Nat} {x2 : Int32} (hW : Wf m) (c0 : SH[a0]? = some (.inl 10)) (c1 : SH[a1]? = some (.inl 8))
    (h1 : (mI m a0 5) ≤ x2 → Q (some (.int (1 : Int32))) m)
    (h2 : ¬ ((mI m a0 5) ≤ x2) → (10 : Int32) ≤ x2 → Q (some (.int (1 : Int32))) m)
    (h3 : ¬ ((mI m a0 5) ≤ x2) → ¬ ((10 : Int32) ≤ x2) → vp_in x2 10)
    (h4 : ¬ ((mI m a0 5) ≤ x2) → ¬ ((10 : Int32) ≤ x2) → vp_in x2 10)
    (h5 : ¬ ((mI m a0 5) ≤ x2) → ¬ ((10 : Int32) ≤ x2) → ¬ (mI m (a0 + 93) x2.toNatClampNeg) = (mI m a1 0) → Go X 1 mX10_isAsNoted Q 2 [(0, .ref a0), (1, .ref a1), (2, .int (x2 + (1 : Int32)))] [] m)
    (h6 : ¬ ((mI m a0 5) ≤ x2) → ¬ ((10 : Int32) ≤ x2) → (mI m (a0 + 93) x2.toNatClampNeg) = (mI m a1 0) → Cl X 0 mX4_isPerson [.ref (a0 + 1), .int (mI m (a0 + 94) x2.toNatClampNeg)] m (fun v m2 => Go X 1 mX10_isAsNoted Q 44 [(0, .ref a0), (1, .ref a1), (2, .int x2), (3, .int (mI m (a0 + 94) x2.toNatClampNeg))] (v.toList ++ []) m2)) :
    Go X 1 mX10_isAsNoted Q 2 [(0, .ref a0), (1, .ref a1), (2, .int x2)] [] m := by
  refine g_iload_n 2 dX10_isAsNoted_2 rfl rfl ?_
  refine g_aload_n 0 dX10_isAsNoted_3 rfl rfl ?_
  refine g_getI dX10_isAsNoted_4 fl10_58 c0 ?_
  refine g_icmp_ge 70 dX10_isAsNoted_7 (by decide) (fun q1 => ?_) (fun q1 => ?_)
  · refine g_iconst (v := 1) dX10_isAsNoted_70 (by decide) ?_
    exact g_bret dX10_isAsNoted_71 rfl (Or.inr rfl) enSH (h1 q1)
  · refine g_iload_n 2 dX10_isAsNoted_10 rfl rfl ?_
    refine g_bipush (v := 10) dX10_isAsNoted_11 (by decide) ?_
    refine g_icmp_ge 70 dX10_isAsNoted_13 (by decide) (fun q2 => ?_) (fun q2 => ?_)
    · refine g_iconst (v := 1) dX10_isAsNoted_70 (by decide) ?_
      exact g_bret dX10_isAsNoted_71 rfl (Or.inr rfl) enSH (h2 q1 q2)
    · refine g_aload_n 0 dX10_isAsNoted_16 rfl rfl ?_
      refine g_getR dX10_isAsNoted_17 fl10_40 rfl c0 (w10_7 hW c0) ?_
      refine g_iload_n 2 dX10_isAsNoted_20 rfl rfl ?_
      refine g_iald (j := x2.toNatClampNeg) dX10_isAsNoted_21 (s10_7 c0) (h3 q1 q2) rfl ?_
      refine g_istore_n (ls2 := [(3, .int (mI m (a0 + 94) x2.toNatClampNeg)), (0, .ref a0), (1, .ref a1), (2, .int x2)]) dX10_isAsNoted_22 rfl (by decide) rfl ?_
      refine g_aload_n 1 dX10_isAsNoted_23 rfl rfl ?_
      refine g_getR dX10_isAsNoted_24 fl10_36 rfl c0 (w10_6 hW c0) ?_
      refine g_iload_n 3 dX10_isAsNoted_27 rfl rfl ?_
      refine g_iald (j := x2.toNatClampNeg) dX10_isAsNoted_28 (s10_6 c0) (h4 q1 q2) rfl ?_
      refine g_aload_n 2 dX10_isAsNoted_29 rfl rfl ?_
      refine g_getI dX10_isAsNoted_30 fl10_79 c1 ?_
      refine g_icmp_ne 64 dX10_isAsNoted_33 (by decide) (fun q3 => ?_) (fun q3 => ?_)
      · refine g_iinc (v := x2 + (1 : Int32)) (ls2 := [(2, .int (x2 + (1 : Int32))), (3, .int (mI m (a0 + 94) x2.toNatClampNeg)), (0, .ref a0), (1, .ref a1)]) 3 dX10_isAsNoted_64 rfl rfl (by decide) rfl ?_
        refine g_goto 2 dX10_isAsNoted_67 (by decide) ?_
        exact g_ls [2, 3, 0] rfl (h5 q1 q2 q3)
      · refine g_aload_n 1 dX10_isAsNoted_36 rfl rfl ?_
        refine g_getR dX10_isAsNoted_37 fl10_12 rfl c0 (w10_0 hW c0) ?_
        refine g_iload_n 0 dX10_isAsNoted_40 rfl rfl ?_
        refine g_ls [1, 2, 3, 0] (ls2 := [(0, .ref a0), (1, .ref a1), (2, .int x2), (3, .int (mI m (a0 + 94) x2.toNatClampNeg))]) rfl ?_
        exact g_callV (As := [.int (mI m (a0 + 94) x2.toNatClampNeg)]) (st := []) dX10_isAsNoted_41 clX10_82 (s10_0 c0) rfl rfl (Nat.le_of_ble_eq_true rfl) (rmSH (by decide) (by decide)) (h6 q1 q2 q3)
theorem bX10_isAsNoted_44 {X : pX} {Q : Option Value → pMem → Prop} {m : pMem} {a0 : Nat} {a1 : Nat} {x2 : Int32} {x3 : Int32} {xs0 : Int32} (hW : Wf m) (c0 : SH[a0]? = some (.inl 10)) (c1 : SH[a1]? = some (.inl 8))
    (h1 : xs0 = 0 → Go X 1 mX10_isAsNoted Q 2 [(0, .ref a0), (1, .ref a1), (2, .int (x2 + (1 : Int32)))] [] m)
    (h2 : ¬ (xs0 = 0) → vp_in x3 4)
    (h3 : ¬ (xs0 = 0) → vp_in x2 10)
    (h4 : ¬ (xs0 = 0) → (mI m (a1 + 1) x3.toNatClampNeg) = (mI m (a0 + 95) x2.toNatClampNeg) → Go X 1 mX10_isAsNoted Q 2 [(0, .ref a0), (1, .ref a1), (2, .int (x2 + (1 : Int32)))] [] m)
    (h5 : ¬ (xs0 = 0) → ¬ ((mI m (a1 + 1) x3.toNatClampNeg) = (mI m (a0 + 95) x2.toNatClampNeg)) → Q (some (.int (0 : Int32))) m) :
    Go X 1 mX10_isAsNoted Q 44 [(0, .ref a0), (1, .ref a1), (2, .int x2), (3, .int x3)] [.int xs0] m := by
  refine g_if_eq 64 dX10_isAsNoted_44 (by decide) (fun q1 => ?_) (fun q1 => ?_)
  · refine g_iinc (v := x2 + (1 : Int32)) (ls2 := [(2, .int (x2 + (1 : Int32))), (0, .ref a0), (1, .ref a1), (3, .int x3)]) 2 dX10_isAsNoted_64 rfl rfl (by decide) rfl ?_
    refine g_goto 2 dX10_isAsNoted_67 (by decide) ?_
    exact g_ls [1, 2, 0] rfl (h1 q1)
  · refine g_aload_n 1 dX10_isAsNoted_47 rfl rfl ?_
    refine g_getR dX10_isAsNoted_48 fl10_86 rfl c1 (w8_1 hW c1) ?_
    refine g_iload_n 3 dX10_isAsNoted_51 rfl rfl ?_
    refine g_iald (j := x3.toNatClampNeg) dX10_isAsNoted_52 (s8_1 c1) (h2 q1) rfl ?_
    refine g_aload_n 0 dX10_isAsNoted_53 rfl rfl ?_
    refine g_getR dX10_isAsNoted_54 fl10_43 rfl c0 (w10_8 hW c0) ?_
    refine g_iload_n 2 dX10_isAsNoted_57 rfl rfl ?_
    refine g_iald (j := x2.toNatClampNeg) dX10_isAsNoted_58 (s10_8 c0) (h3 q1) rfl ?_
    refine g_icmp_eq 64 dX10_isAsNoted_59 (by decide) (fun q2 => ?_) (fun q2 => ?_)
    · refine g_iinc (v := x2 + (1 : Int32)) (ls2 := [(2, .int (x2 + (1 : Int32))), (0, .ref a0), (1, .ref a1), (3, .int x3)]) 2 dX10_isAsNoted_64 rfl rfl (by decide) rfl ?_
      refine g_goto 2 dX10_isAsNoted_67 (by decide) ?_
      exact g_ls [1, 2, 0] rfl (h4 q1 q2)
    · refine g_iconst (v := 0) dX10_isAsNoted_62 (by decide) ?_
      exact g_bret dX10_isAsNoted_63 rfl (Or.inl rfl) enSH (h5 q1 q2)
