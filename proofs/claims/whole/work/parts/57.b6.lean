theorem bX8_copy_0 {X : pX} {Q : Option Value → pMem → Prop} {m : pMem} {a0 : Nat} {a1 : Nat} (hW : Wf m) (c0 : SH[a0]? = some (.inl 8)) (c1 : SH[a1]? = some (.inl 8))
    (h1 : Q none (uC (uC (uC (uI m a0 0 (mI m a1 0)) (a1 + 1) 0 (a0 + 1) 0 4) (a1 + 2) 0 (a0 + 2) 0 4) (a1 + 3) 0 (a0 + 3) 0 6)) :
    Go X 1 mX8_copy Q 0 [(0, .ref a0), (1, .ref a1)] [] m := by
  refine g_aload_n 0 dX8_copy_0 rfl rfl ?_
  refine g_aload_n 1 dX8_copy_1 rfl rfl ?_
  refine g_getI dX8_copy_2 fl8_21 c1 ?_
  refine g_putI dX8_copy_5 fl8_21 (fun h => by cases h) c0 ?_
  refine g_aload_n 1 dX8_copy_8 rfl rfl ?_
  refine g_getR dX8_copy_9 fl8_9 rfl c1 (w8_1 hW c1) ?_
  refine g_iconst (v := 0) dX8_copy_12 (by decide) ?_
  refine g_aload_n 0 dX8_copy_13 rfl rfl ?_
  refine g_getR dX8_copy_14 fl8_9 rfl c0 (w8_1 hW c0) ?_
  refine g_iconst (v := 0) dX8_copy_17 (by decide) ?_
  refine g_iconst (v := 4) dX8_copy_18 (by decide) ?_
  refine g_copyN (s1 := 0) (d1 := 0) (n1 := 4) dX8_copy_19 acwX8_25 (s8_1 c1) (s8_1 c0) (by decide) (by decide) (by decide) (by decide) (by decide) (by decide) (Nat.le_of_ble_eq_true rfl) ⟨by decide, by decide⟩ ?_
  refine g_aload_n 1 dX8_copy_22 rfl rfl ?_
  refine g_getR dX8_copy_23 fl8_15 rfl c1 (w8_2 hW c1) ?_
  refine g_iconst (v := 0) dX8_copy_26 (by decide) ?_
  refine g_aload_n 0 dX8_copy_27 rfl rfl ?_
  refine g_getR dX8_copy_28 fl8_15 rfl c0 (w8_2 hW c0) ?_
  refine g_iconst (v := 0) dX8_copy_31 (by decide) ?_
  refine g_iconst (v := 4) dX8_copy_32 (by decide) ?_
  refine g_copyN (s1 := 0) (d1 := 0) (n1 := 4) dX8_copy_33 acwX8_25 (s8_2 c1) (s8_2 c0) (by decide) (by decide) (by decide) (by decide) (by decide) (by decide) (Nat.le_of_ble_eq_true rfl) ⟨by decide, by decide⟩ ?_
  refine g_aload_n 1 dX8_copy_36 rfl rfl ?_
  refine g_getR dX8_copy_37 fl8_18 rfl c1 (w8_3 hW c1) ?_
  refine g_iconst (v := 0) dX8_copy_40 (by decide) ?_
  refine g_aload_n 0 dX8_copy_41 rfl rfl ?_
  refine g_getR dX8_copy_42 fl8_18 rfl c0 (w8_3 hW c0) ?_
  refine g_iconst (v := 0) dX8_copy_45 (by decide) ?_
  refine g_bipush (v := 6) dX8_copy_46 (by decide) ?_
  refine g_copyN (s1 := 0) (d1 := 0) (n1 := 6) dX8_copy_48 acwX8_25 (s8_3 c1) (s8_3 c0) (by decide) (by decide) (by decide) (by decide) (by decide) (by decide) (Nat.le_of_ble_eq_true rfl) ⟨by decide, by decide⟩ ?_
  exact g_vret dX8_copy_51 rfl enSH h1
theorem bX4_begin_0 {X : pX} {Q : Option Value → pMem → Prop} {m : pMem} {a0 : Nat} {a1 : Nat} (hW : Wf m) (c0 : SH[a0]? = some (.inl 4)) (c1 : SH[a1]? = some (.inl 8))
    (h1 : Cl X 0 mJ7_fill_53178 [.ref (a1 + 1), .int (0 : Int32)] (uI m a1 0 (0 : Int32)) (fun v m2 => Go X 1 mX4_begin Q 13 [(0, .ref a0), (1, .ref a1)] (v.toList ++ []) m2)) :
    Go X 1 mX4_begin Q 0 [(0, .ref a0), (1, .ref a1)] [] m := by
  refine g_aload_n 1 dX4_begin_0 rfl rfl ?_
  refine g_iconst (v := 0) dX4_begin_1 (by decide) ?_
  refine g_putI dX4_begin_2 fl4_56 (fun h => by cases h) c1 ?_
  refine g_aload_n 1 dX4_begin_5 rfl rfl ?_
  refine g_getR dX4_begin_6 fl4_61 rfl c1 (w8_1 hW c1) ?_
  refine g_iconst (v := 0) dX4_begin_9 (by decide) ?_
  exact g_callS (As := [.ref (a1 + 1), .int (0 : Int32)]) (st := []) dX4_begin_10 clX4_44 rfl rfl (Nat.le_of_ble_eq_true rfl) (rmSH (by decide) (by decide)) h1
theorem bX4_begin_13 {X : pX} {Q : Option Value → pMem → Prop} {m : pMem} {a0 : Nat} {a1 : Nat} (hW : Wf m) (c0 : SH[a0]? = some (.inl 4)) (c1 : SH[a1]? = some (.inl 8))
    (h1 : Cl X 0 mJ7_fill_53178 [.ref (a1 + 2), .int (0 : Int32)] m (fun v m2 => Go X 1 mX4_begin Q 21 [(0, .ref a0), (1, .ref a1)] (v.toList ++ []) m2)) :
    Go X 1 mX4_begin Q 13 [(0, .ref a0), (1, .ref a1)] [] m := by
  refine g_aload_n 1 dX4_begin_13 rfl rfl ?_
  refine g_getR dX4_begin_14 fl4_64 rfl c1 (w8_2 hW c1) ?_
  refine g_iconst (v := 0) dX4_begin_17 (by decide) ?_
  exact g_callS (As := [.ref (a1 + 2), .int (0 : Int32)]) (st := []) dX4_begin_18 clX4_44 rfl rfl (Nat.le_of_ble_eq_true rfl) (rmSH (by decide) (by decide)) h1
theorem bX4_begin_21 {X : pX} {Q : Option Value → pMem → Prop} {m : pMem} {a0 : Nat} {a1 : Nat} (hW : Wf m) (c0 : SH[a0]? = some (.inl 4)) (c1 : SH[a1]? = some (.inl 8))
    (h1 : Q none (uC m (a0 + 5) 0 (a1 + 3) 0 6)) :
    Go X 1 mX4_begin Q 21 [(0, .ref a0), (1, .ref a1)] [] m := by
  refine g_aload_n 0 dX4_begin_21 rfl rfl ?_
  refine g_getR dX4_begin_22 fl4_24 rfl c0 (w4_9 hW c0) ?_
  refine g_iconst (v := 0) dX4_begin_25 (by decide) ?_
  refine g_aload_n 1 dX4_begin_26 rfl rfl ?_
  refine g_getR dX4_begin_27 fl4_67 rfl c1 (w8_3 hW c1) ?_
  refine g_iconst (v := 0) dX4_begin_30 (by decide) ?_
  refine g_bipush (v := 6) dX4_begin_31 (by decide) ?_
  refine g_copyN (s1 := 0) (d1 := 0) (n1 := 6) dX4_begin_33 acwX4_50 (s4_9 c0) (s8_3 c1) (by decide) (by decide) (by decide) (by decide) (by decide) (by decide) (Nat.le_of_ble_eq_true rfl) ⟨by decide, by decide⟩ ?_
  exact g_vret dX4_begin_36 rfl enSH h1
theorem bX4_copy_0 {X : pX} {Q : Option Value → pMem → Prop} {m : pMem} {a0 : Nat} {a1 : Nat} (hW : Wf m) (c0 : SH[a0]? = some (.inl 4)) (c1 : SH[a1]? = some (.inl 4))
    (h1 : (mI m a1 0) = 0 ∨ (mI m a1 0) = 1)
    (h2 : Q none (uC (uC (uC (uC (uC (uI (uI (uI (uI (uI m a0 0 (mI m a1 0)) a0 1 (mI (uI m a0 0 (mI m a1 0)) a1 1)) a0 2 (mI (uI (uI m a0 0 (mI m a1 0)) a0 1 (mI (uI m a0 0 (mI m a1 0)) a1 1)) a1 2)) a0 3 (mI (uI (uI (uI m a0 0 (mI m a1 0)) a0 1 (mI (uI m a0 0 (mI m a1 0)) a1 1)) a0 2 (mI (uI (uI m a0 0 (mI m a1 0)) a0 1 (mI (uI m a0 0 (mI m a1 0)) a1 1)) a1 2)) a1 3)) a0 4 (mI (uI (uI (uI (uI m a0 0 (mI m a1 0)) a0 1 (mI (uI m a0 0 (mI m a1 0)) a1 1)) a0 2 (mI (uI (uI m a0 0 (mI m a1 0)) a0 1 (mI (uI m a0 0 (mI m a1 0)) a1 1)) a1 2)) a0 3 (mI (uI (uI (uI m a0 0 (mI m a1 0)) a0 1 (mI (uI m a0 0 (mI m a1 0)) a1 1)) a0 2 (mI (uI (uI m a0 0 (mI m a1 0)) a0 1 (mI (uI m a0 0 (mI m a1 0)) a1 1)) a1 2)) a1 3)) a1 4)) (a1 + 1) 0 (a0 + 1) 0 8) (a1 + 2) 0 (a0 + 2) 0 4) (a1 + 3) 0 (a0 + 3) 0 6) (a1 + 4) 0 (a0 + 4) 0 6) (a1 + 5) 0 (a0 + 5) 0 6)) :
    Go X 1 mX4_copy Q 0 [(0, .ref a0), (1, .ref a1)] [] m := by
  refine g_aload_n 0 dX4_copy_0 rfl rfl ?_
  refine g_aload_n 1 dX4_copy_1 rfl rfl ?_
  refine g_getZ dX4_copy_2 fl4_27 c1 ?_
  refine g_putZ dX4_copy_5 fl4_27 (fun h => by cases h) c0 h1 ?_
  refine g_aload_n 0 dX4_copy_8 rfl rfl ?_
  refine g_aload_n 1 dX4_copy_9 rfl rfl ?_
  refine g_getI dX4_copy_10 fl4_31 c1 ?_
  refine g_putI dX4_copy_13 fl4_31 (fun h => by cases h) c0 ?_
  refine g_aload_n 0 dX4_copy_16 rfl rfl ?_
  refine g_aload_n 1 dX4_copy_17 rfl rfl ?_
  refine g_getI dX4_copy_18 fl4_35 c1 ?_
  refine g_putI dX4_copy_21 fl4_35 (fun h => by cases h) c0 ?_
  refine g_aload_n 0 dX4_copy_24 rfl rfl ?_
  refine g_aload_n 1 dX4_copy_25 rfl rfl ?_
  refine g_getI dX4_copy_26 fl4_38 c1 ?_
  refine g_putI dX4_copy_29 fl4_38 (fun h => by cases h) c0 ?_
  refine g_aload_n 0 dX4_copy_32 rfl rfl ?_
  refine g_aload_n 1 dX4_copy_33 rfl rfl ?_
  refine g_getI dX4_copy_34 fl4_41 c1 ?_
  refine g_putI dX4_copy_37 fl4_41 (fun h => by cases h) c0 ?_
  refine g_aload_n 1 dX4_copy_40 rfl rfl ?_
  refine g_getR dX4_copy_41 fl4_9 rfl c1 (w4_5 hW c1) ?_
  refine g_iconst (v := 0) dX4_copy_44 (by decide) ?_
  refine g_aload_n 0 dX4_copy_45 rfl rfl ?_
  refine g_getR dX4_copy_46 fl4_9 rfl c0 (w4_5 hW c0) ?_
  refine g_iconst (v := 0) dX4_copy_49 (by decide) ?_
  refine g_bipush (v := 8) dX4_copy_50 (by decide) ?_
  refine g_copyN (s1 := 0) (d1 := 0) (n1 := 8) dX4_copy_52 acwX4_50 (s4_5 c1) (s4_5 c0) (by decide) (by decide) (by decide) (by decide) (by decide) (by decide) (Nat.le_of_ble_eq_true rfl) ⟨by decide, by decide⟩ ?_
  refine g_aload_n 1 dX4_copy_55 rfl rfl ?_
  refine g_getR dX4_copy_56 fl4_15 rfl c1 (w4_6 hW c1) ?_
  refine g_iconst (v := 0) dX4_copy_59 (by decide) ?_
  refine g_aload_n 0 dX4_copy_60 rfl rfl ?_
  refine g_getR dX4_copy_61 fl4_15 rfl c0 (w4_6 hW c0) ?_
  refine g_iconst (v := 0) dX4_copy_64 (by decide) ?_
  refine g_iconst (v := 4) dX4_copy_65 (by decide) ?_
  refine g_copyN (s1 := 0) (d1 := 0) (n1 := 4) dX4_copy_66 acwX4_50 (s4_6 c1) (s4_6 c0) (by decide) (by decide) (by decide) (by decide) (by decide) (by decide) (Nat.le_of_ble_eq_true rfl) ⟨by decide, by decide⟩ ?_
  refine g_aload_n 1 dX4_copy_69 rfl rfl ?_
  refine g_getR dX4_copy_70 fl4_18 rfl c1 (w4_7 hW c1) ?_
  refine g_iconst (v := 0) dX4_copy_73 (by decide) ?_
  refine g_aload_n 0 dX4_copy_74 rfl rfl ?_
  refine g_getR dX4_copy_75 fl4_18 rfl c0 (w4_7 hW c0) ?_
  refine g_iconst (v := 0) dX4_copy_78 (by decide) ?_
  refine g_bipush (v := 6) dX4_copy_79 (by decide) ?_
  refine g_copyN (s1 := 0) (d1 := 0) (n1 := 6) dX4_copy_81 acwX4_50 (s4_7 c1) (s4_7 c0) (by decide) (by decide) (by decide) (by decide) (by decide) (by decide) (Nat.le_of_ble_eq_true rfl) ⟨by decide, by decide⟩ ?_
  refine g_aload_n 1 dX4_copy_84 rfl rfl ?_
  refine g_getR dX4_copy_85 fl4_21 rfl c1 (w4_8 hW c1) ?_
  refine g_iconst (v := 0) dX4_copy_88 (by decide) ?_
  refine g_aload_n 0 dX4_copy_89 rfl rfl ?_
  refine g_getR dX4_copy_90 fl4_21 rfl c0 (w4_8 hW c0) ?_
  refine g_iconst (v := 0) dX4_copy_93 (by decide) ?_
  refine g_bipush (v := 6) dX4_copy_94 (by decide) ?_
  refine g_copyN (s1 := 0) (d1 := 0) (n1 := 6) dX4_copy_96 acwX4_50 (s4_8 c1) (s4_8 c0) (by decide) (by decide) (by decide) (by decide) (by decide) (by decide) (Nat.le_of_ble_eq_true rfl) ⟨by decide, by decide⟩ ?_
  refine g_aload_n 1 dX4_copy_99 rfl rfl ?_
  refine g_getR dX4_copy_100 fl4_24 rfl c1 (w4_9 hW c1) ?_
  refine g_iconst (v := 0) dX4_copy_103 (by decide) ?_
  refine g_aload_n 0 dX4_copy_104 rfl rfl ?_
  refine g_getR dX4_copy_105 fl4_24 rfl c0 (w4_9 hW c0) ?_
  refine g_iconst (v := 0) dX4_copy_108 (by decide) ?_
  refine g_bipush (v := 6) dX4_copy_109 (by decide) ?_
  refine g_copyN (s1 := 0) (d1 := 0) (n1 := 6) dX4_copy_111 acwX4_50 (s4_9 c1) (s4_9 c0) (by decide) (by decide) (by decide) (by decide) (by decide) (by decide) (Nat.le_of_ble_eq_true rfl) ⟨by decide, by decide⟩ ?_
  exact g_vret dX4_copy_114 rfl enSH h2
theorem bX4_clear_0 {X : pX} {Q : Option Value → pMem → Prop} {m : pMem} {a0 : Nat} (hW : Wf m) (c0 : SH[a0]? = some (.inl 4))
    (h1 : Cl X 0 mJ7_fill_53178 [.ref (a0 + 5), .int (-1 : Int32)] (uI (uI (uI (uI (uI m a0 0 (0 : Int32)) a0 1 (0 : Int32)) a0 2 (0 : Int32)) a0 3 (0 : Int32)) a0 4 (0 : Int32)) (fun v m2 => Go X 1 mX4_clear Q 33 [(0, .ref a0)] (v.toList ++ []) m2)) :
    Go X 1 mX4_clear Q 0 [(0, .ref a0)] [] m := by
  refine g_aload_n 0 dX4_clear_0 rfl rfl ?_
  refine g_iconst (v := 0) dX4_clear_1 (by decide) ?_
  refine g_putZ dX4_clear_2 fl4_27 (fun h => by cases h) c0 (Or.inl rfl) ?_
  refine g_aload_n 0 dX4_clear_5 rfl rfl ?_
  refine g_iconst (v := 0) dX4_clear_6 (by decide) ?_
  refine g_putI dX4_clear_7 fl4_31 (fun h => by cases h) c0 ?_
  refine g_aload_n 0 dX4_clear_10 rfl rfl ?_
  refine g_iconst (v := 0) dX4_clear_11 (by decide) ?_
  refine g_putI dX4_clear_12 fl4_35 (fun h => by cases h) c0 ?_
  refine g_aload_n 0 dX4_clear_15 rfl rfl ?_
  refine g_iconst (v := 0) dX4_clear_16 (by decide) ?_
  refine g_putI dX4_clear_17 fl4_38 (fun h => by cases h) c0 ?_
  refine g_aload_n 0 dX4_clear_20 rfl rfl ?_
  refine g_iconst (v := 0) dX4_clear_21 (by decide) ?_
  refine g_putI dX4_clear_22 fl4_41 (fun h => by cases h) c0 ?_
  refine g_aload_n 0 dX4_clear_25 rfl rfl ?_
  refine g_getR dX4_clear_26 fl4_24 rfl c0 (w4_9 hW c0) ?_
  refine g_iconst (v := -1) dX4_clear_29 (by decide) ?_
  exact g_callS (As := [.ref (a0 + 5), .int (-1 : Int32)]) (st := []) dX4_clear_30 clX4_44 rfl rfl (Nat.le_of_ble_eq_true rfl) (rmSH (by decide) (by decide)) h1
theorem bX4_clear_33 {X : pX} {Q : Option Value → pMem → Prop} {m : pMem} {a0 : Nat} (hW : Wf m) (c0 : SH[a0]? = some (.inl 4))
    (h1 : Q none m) :
    Go X 1 mX4_clear Q 33 [(0, .ref a0)] [] m := by
  exact g_vret dX4_clear_33 rfl enSH h1
theorem bX10_isAsNoted_0 {X : pX} {Q : Option Value → pMem → Prop} {m : pMem} {a0 : Nat} {a1 : Nat} (hW : Wf m) (c0 : SH[a0]? = some (.inl 10)) (c1 : SH[a1]? = some (.inl 8))
    (h1 : Go X 1 mX10_isAsNoted Q 2 [(0, .ref a0), (1, .ref a1), (2, .int (0 : Int32))] [] m) :
    Go X 1 mX10_isAsNoted Q 0 [(0, .ref a0), (1, .ref a1)] [] m := by
  refine g_iconst (v := 0) dX10_isAsNoted_0 (by decide) ?_
  refine g_istore_n (ls2 := [(2, .int (0 : Int32)), (0, .ref a0), (1, .ref a1)]) dX10_isAsNoted_1 rfl (by decide) rfl ?_
  exact g_ls [1, 2, 0] rfl h1
theorem bX10_isAsNoted_2 {X : pX} {Q : Option Value → pMem → Prop} {m : pMem} {a0 : Nat} {a1 : Nat} {x2 : Int32} (hW : Wf m) (c0 : SH[a0]? = some (.inl 10)) (c1 : SH[a1]? = some (.inl 8))
    (h1 : (mI m a0 5) ≤ x2 → Q (some (.int (1 : Int32))) m)
    (h2 : ¬ ((mI m a0 5) ≤ x2) → (10 : Int32) ≤ x2 → Q (some (.int (1 : Int32))) m)
    (h3 : ¬ ((mI m a0 5) ≤ x2) → ¬ ((10 : Int32) ≤ x2) → vp_in x2 10)
    (h4 : ¬ ((mI m a0 5) ≤ x2) → ¬ ((10 : Int32) ≤ x2) → ¬ (mI m (a0 + 93) x2.toNatClampNeg) = (mI m a1 0) → Go X 1 mX10_isAsNoted Q 2 [(0, .ref a0), (1, .ref a1), (2, .int (x2 + (1 : Int32)))] [] m)
    (h5 : ¬ ((mI m a0 5) ≤ x2) → ¬ ((10 : Int32) ≤ x2) → (mI m (a0 + 93) x2.toNatClampNeg) = (mI m a1 0) → ¬ (mI m (a0 + 94) x2.toNatClampNeg) < 0 ∧ ¬ mI m (a0 + 1) 3 ≤ (mI m (a0 + 94) x2.toNatClampNeg) ∧ ¬ (4 : Int32) ≤ (mI m (a0 + 94) x2.toNatClampNeg) → vp_in (mI m (a0 + 94) x2.toNatClampNeg) 4)
    (h6 : ¬ ((mI m a0 5) ≤ x2) → ¬ ((10 : Int32) ≤ x2) → (mI m (a0 + 93) x2.toNatClampNeg) = (mI m a1 0) → ¬ (mI m (a0 + 94) x2.toNatClampNeg) < 0 ∧ ¬ mI m (a0 + 1) 3 ≤ (mI m (a0 + 94) x2.toNatClampNeg) ∧ ¬ (4 : Int32) ≤ (mI m (a0 + 94) x2.toNatClampNeg) → vp_in x2 10)
    (h7 : ¬ ((mI m a0 5) ≤ x2) → ¬ ((10 : Int32) ≤ x2) → (mI m (a0 + 93) x2.toNatClampNeg) = (mI m a1 0) → ¬ (mI m (a0 + 94) x2.toNatClampNeg) < 0 ∧ ¬ mI m (a0 + 1) 3 ≤ (mI m (a0 + 94) x2.toNatClampNeg) ∧ ¬ (4 : Int32) ≤ (mI m (a0 + 94) x2.toNatClampNeg) → (mI m (a1 + 1) ((mI m (a0 + 94) x2.toNatClampNeg).toNatClampNeg)) = (mI m (a0 + 95) x2.toNatClampNeg) → Go X 1 mX10_isAsNoted Q 2 [(0, .ref a0), (1, .ref a1), (2, .int (x2 + (1 : Int32)))] [] m)
    (h8 : ¬ ((mI m a0 5) ≤ x2) → ¬ ((10 : Int32) ≤ x2) → (mI m (a0 + 93) x2.toNatClampNeg) = (mI m a1 0) → ¬ (mI m (a0 + 94) x2.toNatClampNeg) < 0 ∧ ¬ mI m (a0 + 1) 3 ≤ (mI m (a0 + 94) x2.toNatClampNeg) ∧ ¬ (4 : Int32) ≤ (mI m (a0 + 94) x2.toNatClampNeg) → ¬ ((mI m (a1 + 1) ((mI m (a0 + 94) x2.toNatClampNeg).toNatClampNeg)) = (mI m (a0 + 95) x2.toNatClampNeg)) → Q (some (.int (0 : Int32))) m)
    (h9 : ¬ ((mI m a0 5) ≤ x2) → ¬ ((10 : Int32) ≤ x2) → (mI m (a0 + 93) x2.toNatClampNeg) = (mI m a1 0) → ¬ (¬ (mI m (a0 + 94) x2.toNatClampNeg) < 0 ∧ ¬ mI m (a0 + 1) 3 ≤ (mI m (a0 + 94) x2.toNatClampNeg) ∧ ¬ (4 : Int32) ≤ (mI m (a0 + 94) x2.toNatClampNeg)) → Go X 1 mX10_isAsNoted Q 2 [(0, .ref a0), (1, .ref a1), (2, .int (x2 + (1 : Int32)))] [] m) :
    Go X 1 mX10_isAsNoted Q 2 [(0, .ref a0), (1, .ref a1), (2, .int x2)] [] m := by
  refine g_iload_n 2 dX10_isAsNoted_2 rfl rfl ?_
  refine g_aload_n 0 dX10_isAsNoted_3 rfl rfl ?_
  refine g_getI dX10_isAsNoted_4 fl10_58 c0 ?_
  refine g_icmp_ge 70 dX10_isAsNoted_7 (by decide) (fun q1 => ?_) (fun q1 => ?_)
  · refine g_iconst (v := 1) dX10_isAsNoted_70 (by decide) ?_
    exact g_bret dX10_isAsNoted_71 rfl (Or.inr rfl) enSH (h1 q1)
  · refine g_iload_n 2 dX10_isAsNoted_10 rfl rfl ?_
    refine g_bipush (v := 10) dX10_isAsNoted_11 (by decide) ?_
    refine g_icmp_ge 70 dX10_isAsNoted_13 (by decide) (fun q2 => ?_) (fun q2 => ?_)
    · refine g_iconst (v := 1) dX10_isAsNoted_70 (by decide) ?_
      exact g_bret dX10_isAsNoted_71 rfl (Or.inr rfl) enSH (h2 q1 q2)
    · refine g_aload_n 0 dX10_isAsNoted_16 rfl rfl ?_
      refine g_getR dX10_isAsNoted_17 fl10_40 rfl c0 (w10_7 hW c0) ?_
      refine g_iload_n 2 dX10_isAsNoted_20 rfl rfl ?_
      refine g_iald (j := x2.toNatClampNeg) dX10_isAsNoted_21 (s10_7 c0) (h3 q1 q2) rfl ?_
      refine g_istore_n (ls2 := [(3, .int (mI m (a0 + 94) x2.toNatClampNeg)), (0, .ref a0), (1, .ref a1), (2, .int x2)]) dX10_isAsNoted_22 rfl (by decide) rfl ?_
      refine g_aload_n 1 dX10_isAsNoted_23 rfl rfl ?_
      refine g_getR dX10_isAsNoted_24 fl10_36 rfl c0 (w10_6 hW c0) ?_
      refine g_iload_n 3 dX10_isAsNoted_27 rfl rfl ?_
      refine g_iald (j := x2.toNatClampNeg) dX10_isAsNoted_28 (s10_6 c0) (h3 q1 q2) rfl ?_
      refine g_aload_n 2 dX10_isAsNoted_29 rfl rfl ?_
      refine g_getI dX10_isAsNoted_30 fl10_79 c1 ?_
      refine g_icmp_ne 64 dX10_isAsNoted_33 (by decide) (fun q3 => ?_) (fun q3 => ?_)
      · refine g_iinc (v := x2 + (1 : Int32)) (ls2 := [(2, .int (x2 + (1 : Int32))), (3, .int (mI m (a0 + 94) x2.toNatClampNeg)), (0, .ref a0), (1, .ref a1)]) 3 dX10_isAsNoted_64 rfl rfl (by decide) rfl ?_
        refine g_goto 2 dX10_isAsNoted_67 (by decide) ?_
        exact g_ls [2, 3, 0] rfl (h4 q1 q2 q3)
      · refine g_aload_n 1 dX10_isAsNoted_36 rfl rfl ?_
        refine g_getR dX10_isAsNoted_37 fl10_12 rfl c0 (w10_0 hW c0) ?_
        refine g_iload_n 0 dX10_isAsNoted_40 rfl rfl ?_
        refine g_callV (As := [.int (mI m (a0 + 94) x2.toNatClampNeg)]) (st := []) dX10_isAsNoted_41 clX10_82 (s10_0 c0) rfl rfl (Nat.le_of_ble_eq_true rfl) (rmSH (by decide) (by decide)) (s_isPerson hW (s10_0 c0) (fun q4 => ?_) (fun q4 => ?_))
        · refine g_if_eq 64 dX10_isAsNoted_44 (by decide) (fun q5 => absurd q5 (by decide)) (fun q5 => ?_)
          refine g_aload_n 2 dX10_isAsNoted_47 rfl rfl ?_
          refine g_getR dX10_isAsNoted_48 fl10_86 rfl c1 (w8_1 hW c1) ?_
          refine g_iload_n 0 dX10_isAsNoted_51 rfl rfl ?_
          refine g_iald (j := (mI m (a0 + 94) x2.toNatClampNeg).toNatClampNeg) dX10_isAsNoted_52 (s8_1 c1) (h5 q1 q2 q3 q4) rfl ?_
          refine g_aload_n 1 dX10_isAsNoted_53 rfl rfl ?_
          refine g_getR dX10_isAsNoted_54 fl10_43 rfl c0 (w10_8 hW c0) ?_
          refine g_iload_n 3 dX10_isAsNoted_57 rfl rfl ?_
          refine g_iald (j := x2.toNatClampNeg) dX10_isAsNoted_58 (s10_8 c0) (h6 q1 q2 q3 q4) rfl ?_
          refine g_icmp_eq 64 dX10_isAsNoted_59 (by decide) (fun q6 => ?_) (fun q6 => ?_)
          · refine g_iinc (v := x2 + (1 : Int32)) (ls2 := [(2, .int (x2 + (1 : Int32))), (3, .int (mI m (a0 + 94) x2.toNatClampNeg)), (0, .ref a0), (1, .ref a1)]) 3 dX10_isAsNoted_64 rfl rfl (by decide) rfl ?_
            refine g_goto 2 dX10_isAsNoted_67 (by decide) ?_
            exact g_ls [2, 3, 0] rfl (h7 q1 q2 q3 q4 q6)
          · refine g_iconst (v := 0) dX10_isAsNoted_62 (by decide) ?_
            exact g_bret dX10_isAsNoted_63 rfl (Or.inl rfl) enSH (h8 q1 q2 q3 q4 q6)
        · refine g_if_eq 64 dX10_isAsNoted_44 (by decide) (fun q7 => ?_) (fun q7 => absurd q7 (by decide))
          refine g_iinc (v := x2 + (1 : Int32)) (ls2 := [(2, .int (x2 + (1 : Int32))), (3, .int (mI m (a0 + 94) x2.toNatClampNeg)), (0, .ref a0), (1, .ref a1)]) 3 dX10_isAsNoted_64 rfl rfl (by decide) rfl ?_
          refine g_goto 2 dX10_isAsNoted_67 (by decide) ?_
          exact g_ls [2, 3, 0] rfl (h9 q1 q2 q3 q4)
theorem bX0_goOnS37_0 {X : pX} {Q : Option Value → pMem → Prop} {m : pMem} {a2 : Nat} {x3 : Int32} (hW : Wf m) (c2 : SH[a2]? = some (.inl 6))
    (h1 : Go X 5 mX0_goOn Q 3 [(0, .ref 512), (1, .ref 37), (2, .ref a2), (3, .int x3), (4, .int (0 : Int32))] [] m) :
    Go X 5 mX0_goOn Q 0 [(0, .ref 512), (1, .ref 37), (2, .ref a2), (3, .int x3)] [] m := by
  refine g_iconst (v := 0) dX0_goOn_0 (by decide) ?_
  refine g_istore (ls2 := [(4, .int (0 : Int32)), (0, .ref 512), (1, .ref 37), (2, .ref a2), (3, .int x3)]) dX0_goOn_1 (by decide) rfl ?_
  exact g_ls [1, 2, 3, 4, 0] rfl h1
theorem bX0_goOnS37_3 {X : pX} {Q : Option Value → pMem → Prop} {m : pMem} {a2 : Nat} {x3 : Int32} {x4 : Int32} (hW : Wf m) (c2 : SH[a2]? = some (.inl 6))
    (h1 : x3 ≤ x4 → Q none m)
    (h2 : ¬ (x3 ≤ x4) → Cl X 4 mX0_oneDay [.ref 512, .ref 37, .ref a2] m (fun v m2 => Go X 5 mX0_goOn Q 15 [(0, .ref 512), (1, .ref 37), (2, .ref a2), (3, .int x3), (4, .int x4)] (v.toList ++ []) m2)) :
    Go X 5 mX0_goOn Q 3 [(0, .ref 512), (1, .ref 37), (2, .ref a2), (3, .int x3), (4, .int x4)] [] m := by
  refine g_iload 4 dX0_goOn_3 rfl ?_
  refine g_iload_n 3 dX0_goOn_5 rfl rfl ?_
  refine g_icmp_ge 22 dX0_goOn_6 (by decide) (fun q1 => ?_) (fun q1 => ?_)
  · exact g_vret dX0_goOn_22 rfl enSH (h1 q1)
  · refine g_aload_n 0 dX0_goOn_9 rfl rfl ?_
    refine g_aload_n 1 dX0_goOn_10 rfl rfl ?_
    refine g_aload_n 2 dX0_goOn_11 rfl rfl ?_
    exact g_callV (As := [.ref 37, .ref a2]) (st := []) dX0_goOn_12 clX0_21 sh512 rfl rfl (Nat.le_of_ble_eq_true rfl) (rmSH (by decide) (by decide)) (h2 q1)
theorem bX0_goOnS37_15 {X : pX} {Q : Option Value → pMem → Prop} {m : pMem} {a2 : Nat} {x3 : Int32} {x4 : Int32} {xs0 : Int32} (hW : Wf m) (c2 : SH[a2]? = some (.inl 6))
    (h1 : Go X 5 mX0_goOn Q 3 [(0, .ref 512), (1, .ref 37), (2, .ref a2), (3, .int x3), (4, .int (x4 + (1 : Int32)))] [] m) :
    Go X 5 mX0_goOn Q 15 [(0, .ref 512), (1, .ref 37), (2, .ref a2), (3, .int x3), (4, .int x4)] [.int xs0] m := by
  refine g_pop dX0_goOn_15 rfl ?_
  refine g_iinc (v := x4 + (1 : Int32)) (ls2 := [(4, .int (x4 + (1 : Int32))), (0, .ref 512), (1, .ref 37), (2, .ref a2), (3, .int x3)]) 4 dX0_goOn_16 rfl rfl (by decide) rfl ?_
  refine g_goto 3 dX0_goOn_19 (by decide) ?_
  exact g_ls [1, 2, 3, 4, 0] rfl h1
theorem bX0_goOnNS37_0 {X : pX} {Q : Option Value → pMem → Prop} {m : pMem} {x3 : Int32} (hW : Wf m)
    (h1 : Go X 5 mX0_goOn Q 3 [(0, .ref 512), (1, .ref 37), (2, .null), (3, .int x3), (4, .int (0 : Int32))] [] m) :
    Go X 5 mX0_goOn Q 0 [(0, .ref 512), (1, .ref 37), (2, .null), (3, .int x3)] [] m := by
  refine g_iconst (v := 0) dX0_goOn_0 (by decide) ?_
  refine g_istore (ls2 := [(4, .int (0 : Int32)), (0, .ref 512), (1, .ref 37), (2, .null), (3, .int x3)]) dX0_goOn_1 (by decide) rfl ?_
  exact g_ls [1, 2, 3, 4, 0] rfl h1
theorem bX0_goOnNS37_3 {X : pX} {Q : Option Value → pMem → Prop} {m : pMem} {x3 : Int32} {x4 : Int32} (hW : Wf m)
    (h1 : x3 ≤ x4 → Q none m)
    (h2 : ¬ (x3 ≤ x4) → Cl X 4 mX0_oneDay [.ref 512, .ref 37, .null] m (fun v m2 => Go X 5 mX0_goOn Q 15 [(0, .ref 512), (1, .ref 37), (2, .null), (3, .int x3), (4, .int x4)] (v.toList ++ []) m2)) :
    Go X 5 mX0_goOn Q 3 [(0, .ref 512), (1, .ref 37), (2, .null), (3, .int x3), (4, .int x4)] [] m := by
  refine g_iload 4 dX0_goOn_3 rfl ?_
  refine g_iload_n 3 dX0_goOn_5 rfl rfl ?_
  refine g_icmp_ge 22 dX0_goOn_6 (by decide) (fun q1 => ?_) (fun q1 => ?_)
  · exact g_vret dX0_goOn_22 rfl enSH (h1 q1)
  · refine g_aload_n 0 dX0_goOn_9 rfl rfl ?_
    refine g_aload_n 1 dX0_goOn_10 rfl rfl ?_
    refine g_aload_nN 2 dX0_goOn_11 rfl rfl ?_
    exact g_callV (As := [.ref 37, .null]) (st := []) dX0_goOn_12 clX0_21 sh512 rfl rfl (Nat.le_of_ble_eq_true rfl) (rmSH (by decide) (by decide)) (h2 q1)
theorem bX0_goOnNS37_15 {X : pX} {Q : Option Value → pMem → Prop} {m : pMem} {x3 : Int32} {x4 : Int32} {xs0 : Int32} (hW : Wf m)
    (h1 : Go X 5 mX0_goOn Q 3 [(0, .ref 512), (1, .ref 37), (2, .null), (3, .int x3), (4, .int (x4 + (1 : Int32)))] [] m) :
    Go X 5 mX0_goOn Q 15 [(0, .ref 512), (1, .ref 37), (2, .null), (3, .int x3), (4, .int x4)] [.int xs0] m := by
  refine g_pop dX0_goOn_15 rfl ?_
  refine g_iinc (v := x4 + (1 : Int32)) (ls2 := [(4, .int (x4 + (1 : Int32))), (0, .ref 512), (1, .ref 37), (2, .null), (3, .int x3)]) 4 dX0_goOn_16 rfl rfl (by decide) rfl ?_
  refine g_goto 3 dX0_goOn_19 (by decide) ?_
  exact g_ls [1, 2, 3, 4, 0] rfl h1
theorem bX0_goOnS523_0 {X : pX} {Q : Option Value → pMem → Prop} {m : pMem} {a2 : Nat} {x3 : Int32} (hW : Wf m) (c2 : SH[a2]? = some (.inl 6))
    (h1 : Go X 5 mX0_goOn Q 3 [(0, .ref 512), (1, .ref 523), (2, .ref a2), (3, .int x3), (4, .int (0 : Int32))] [] m) :
    Go X 5 mX0_goOn Q 0 [(0, .ref 512), (1, .ref 523), (2, .ref a2), (3, .int x3)] [] m := by
  refine g_iconst (v := 0) dX0_goOn_0 (by decide) ?_
  refine g_istore (ls2 := [(4, .int (0 : Int32)), (0, .ref 512), (1, .ref 523), (2, .ref a2), (3, .int x3)]) dX0_goOn_1 (by decide) rfl ?_
  exact g_ls [1, 2, 3, 4, 0] rfl h1
theorem bX0_goOnS523_3 {X : pX} {Q : Option Value → pMem → Prop} {m : pMem} {a2 : Nat} {x3 : Int32} {x4 : Int32} (hW : Wf m) (c2 : SH[a2]? = some (.inl 6))
    (h1 : x3 ≤ x4 → Q none m)
    (h2 : ¬ (x3 ≤ x4) → Cl X 4 mX0_oneDay [.ref 512, .ref 523, .ref a2] m (fun v m2 => Go X 5 mX0_goOn Q 15 [(0, .ref 512), (1, .ref 523), (2, .ref a2), (3, .int x3), (4, .int x4)] (v.toList ++ []) m2)) :
    Go X 5 mX0_goOn Q 3 [(0, .ref 512), (1, .ref 523), (2, .ref a2), (3, .int x3), (4, .int x4)] [] m := by
  refine g_iload 4 dX0_goOn_3 rfl ?_
  refine g_iload_n 3 dX0_goOn_5 rfl rfl ?_
  refine g_icmp_ge 22 dX0_goOn_6 (by decide) (fun q1 => ?_) (fun q1 => ?_)
  · exact g_vret dX0_goOn_22 rfl enSH (h1 q1)
  · refine g_aload_n 0 dX0_goOn_9 rfl rfl ?_
    refine g_aload_n 1 dX0_goOn_10 rfl rfl ?_
    refine g_aload_n 2 dX0_goOn_11 rfl rfl ?_
    exact g_callV (As := [.ref 523, .ref a2]) (st := []) dX0_goOn_12 clX0_21 sh512 rfl rfl (Nat.le_of_ble_eq_true rfl) (rmSH (by decide) (by decide)) (h2 q1)
theorem bX0_goOnS523_15 {X : pX} {Q : Option Value → pMem → Prop} {m : pMem} {a2 : Nat} {x3 : Int32} {x4 : Int32} {xs0 : Int32} (hW : Wf m) (c2 : SH[a2]? = some (.inl 6))
    (h1 : Go X 5 mX0_goOn Q 3 [(0, .ref 512), (1, .ref 523), (2, .ref a2), (3, .int x3), (4, .int (x4 + (1 : Int32)))] [] m) :
    Go X 5 mX0_goOn Q 15 [(0, .ref 512), (1, .ref 523), (2, .ref a2), (3, .int x3), (4, .int x4)] [.int xs0] m := by
  refine g_pop dX0_goOn_15 rfl ?_
  refine g_iinc (v := x4 + (1 : Int32)) (ls2 := [(4, .int (x4 + (1 : Int32))), (0, .ref 512), (1, .ref 523), (2, .ref a2), (3, .int x3)]) 4 dX0_goOn_16 rfl rfl (by decide) rfl ?_
  refine g_goto 3 dX0_goOn_19 (by decide) ?_
  exact g_ls [1, 2, 3, 4, 0] rfl h1
theorem bX0_goOnNS523_0 {X : pX} {Q : Option Value → pMem → Prop} {m : pMem} {x3 : Int32} (hW : Wf m)
    (h1 : Go X 5 mX0_goOn Q 3 [(0, .ref 512), (1, .ref 523), (2, .null), (3, .int x3), (4, .int (0 : Int32))] [] m) :
    Go X 5 mX0_goOn Q 0 [(0, .ref 512), (1, .ref 523), (2, .null), (3, .int x3)] [] m := by
  refine g_iconst (v := 0) dX0_goOn_0 (by decide) ?_
  refine g_istore (ls2 := [(4, .int (0 : Int32)), (0, .ref 512), (1, .ref 523), (2, .null), (3, .int x3)]) dX0_goOn_1 (by decide) rfl ?_
  exact g_ls [1, 2, 3, 4, 0] rfl h1
theorem bX0_goOnNS523_3 {X : pX} {Q : Option Value → pMem → Prop} {m : pMem} {x3 : Int32} {x4 : Int32} (hW : Wf m)
    (h1 : x3 ≤ x4 → Q none m)
    (h2 : ¬ (x3 ≤ x4) → Cl X 4 mX0_oneDay [.ref 512, .ref 523, .null] m (fun v m2 => Go X 5 mX0_goOn Q 15 [(0, .ref 512), (1, .ref 523), (2, .null), (3, .int x3), (4, .int x4)] (v.toList ++ []) m2)) :
    Go X 5 mX0_goOn Q 3 [(0, .ref 512), (1, .ref 523), (2, .null), (3, .int x3), (4, .int x4)] [] m := by
  refine g_iload 4 dX0_goOn_3 rfl ?_
  refine g_iload_n 3 dX0_goOn_5 rfl rfl ?_
  refine g_icmp_ge 22 dX0_goOn_6 (by decide) (fun q1 => ?_) (fun q1 => ?_)
  · exact g_vret dX0_goOn_22 rfl enSH (h1 q1)
  · refine g_aload_n 0 dX0_goOn_9 rfl rfl ?_
    refine g_aload_n 1 dX0_goOn_10 rfl rfl ?_
    refine g_aload_nN 2 dX0_goOn_11 rfl rfl ?_
    exact g_callV (As := [.ref 523, .null]) (st := []) dX0_goOn_12 clX0_21 sh512 rfl rfl (Nat.le_of_ble_eq_true rfl) (rmSH (by decide) (by decide)) (h2 q1)
theorem bX0_goOnNS523_15 {X : pX} {Q : Option Value → pMem → Prop} {m : pMem} {x3 : Int32} {x4 : Int32} {xs0 : Int32} (hW : Wf m)
    (h1 : Go X 5 mX0_goOn Q 3 [(0, .ref 512), (1, .ref 523), (2, .null), (3, .int x3), (4, .int (x4 + (1 : Int32)))] [] m) :
    Go X 5 mX0_goOn Q 15 [(0, .ref 512), (1, .ref 523), (2, .null), (3, .int x3), (4, .int x4)] [.int xs0] m := by
  refine g_pop dX0_goOn_15 rfl ?_
  refine g_iinc (v := x4 + (1 : Int32)) (ls2 := [(4, .int (x4 + (1 : Int32))), (0, .ref 512), (1, .ref 523), (2, .null), (3, .int x3)]) 4 dX0_goOn_16 rfl rfl (by decide) rfl ?_
  refine g_goto 3 dX0_goOn_19 (by decide) ?_
  exact g_ls [1, 2, 3, 4, 0] rfl h1
