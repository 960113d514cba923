theorem bX4_clear_0 {X : pX} {Q : Option Value → pMem → Prop} {m : pMem} {a0 : Nat} (hW : Wf m) (c0 : SH[a0]? = some (.inl 4))
    (h1 : Cl X 0 mJ7_fill_53178 [.ref (a0 + 5), .int (-1 : Int32)] (uI (uI (uI (uI (uI m a0 0 (0 : Int32)) a0 1 (0 : Int32)) a0 2 (0 : Int32)) a0 3 (0 : Int32)) a0 4 (0 : Int32)) (fun v m2 => Go X 1 mX4_clear Q 33 [(0, .ref a0)] (v.toList ++ []) m2)) :
    Go X 1 mX4_clear Q 0 [(0, .ref a0)] [] m := by
  refine g_aload_n 0 dX4_clear_0 rfl rfl ?_
  refine g_iconst (v := 0) dX4_clear_1 (by decide) ?_
  refine g_putZ dX4_clear_2 fl4_27 (fun h => by cases h) c0 (Or.inl rfl) ?_
  refine g_aload_n 0 dX4_clear_5 rfl rfl ?_
  refine g_iconst (v := 0) dX4_clear_6 (by decide) ?_
  refine g_putI dX4_clear_7 fl4_31 (fun h => by cases h) c0 ?_
  refine g_aload_n 0 dX4_clear_10 rfl rfl ?_
  refine g_iconst (v := 0) dX4_clear_11 (by decide) ?_
  refine g_putI dX4_clear_12 fl4_35 (fun h => by cases h) c0 ?_
  refine g_aload_n 0 dX4_clear_15 rfl rfl ?_
  refine g_iconst (v := 0) dX4_clear_16 (by decide) ?_
  refine g_putI dX4_clear_17 fl4_38 (fun h => by cases h) c0 ?_
  refine g_aload_n 0 dX4_clear_20 rfl rfl ?_
  refine g_iconst (v := 0) dX4_clear_21 (by decide) ?_
  refine g_putI dX4_clear_22 fl4_41 (fun h => by cases h) c0 ?_
  refine g_aload_n 0 dX4_clear_25 rfl rfl ?_
  refine g_getR dX4_clear_26 fl4_24 rfl c0 (w4_9 hW c0) ?_
  refine g_iconst (v := -1) dX4_clear_29 (by decide) ?_
  exact g_callS (As := [.ref (a0 + 5), .int (-1 : Int32)]) (st := []) dX4_clear_30 clX4_44 rfl rfl (Nat.le_of_ble_eq_true rfl) (rmSH (by decide) (by decide)) h1
theorem bX4_clear_33 {X : pX} {Q : Option Value → pMem → Prop} {m : pMem} {a0 : Nat} (hW : Wf m) (c0 : SH[a0]? = some (.inl 4))
    (h1 : Q none m) :
    Go X 1 mX4_clear Q 33 [(0, .ref a0)] [] m := by
  exact g_vret dX4_clear_33 rfl enSH h1
theorem bX4_copy_0 {X : pX} {Q : Option Value → pMem → Prop} {m : pMem} {a0 : Nat} {a1 : Nat} (hW : Wf m) (c0 : SH[a0]? = some (.inl 4)) (c1 : SH[a1]? = some (.inl 4))
    (h1 : (mI m a1 0) = 0 ∨ (mI m a1 0) = 1)
    (h2 : Q none (uC (uC (uC (uC (uC (uI (uI (uI (uI (uI m a0 0 (mI m a1 0)) a0 1 (mI (uI m a0 0 (mI m a1 0)) a1 1)) a0 2 (mI (uI (uI m a0 0 (mI m a1 0)) a0 1 (mI (uI m a0 0 (mI m a1 0)) a1 1)) a1 2)) a0 3 (mI (uI (uI (uI m a0 0 (mI m a1 0)) a0 1 (mI (uI m a0 0 (mI m a1 0)) a1 1)) a0 2 (mI (uI (uI m a0 0 (mI m a1 0)) a0 1 (mI (uI m a0 0 (mI m a1 0)) a1 1)) a1 2)) a1 3)) a0 4 (mI (uI (uI (uI (uI m a0 0 (mI m a1 0)) a0 1 (mI (uI m a0 0 (mI m a1 0)) a1 1)) a0 2 (mI (uI (uI m a0 0 (mI m a1 0)) a0 1 (mI (uI m a0 0 (mI m a1 0)) a1 1)) a1 2)) a0 3 (mI (uI (uI (uI m a0 0 (mI m a1 0)) a0 1 (mI (uI m a0 0 (mI m a1 0)) a1 1)) a0 2 (mI (uI (uI m a0 0 (mI m a1 0)) a0 1 (mI (uI m a0 0 (mI m a1 0)) a1 1)) a1 2)) a1 3)) a1 4)) (a1 + 1) 0 (a0 + 1) 0 8) (a1 + 2) 0 (a0 + 2) 0 4) (a1 + 3) 0 (a0 + 3) 0 6) (a1 + 4) 0 (a0 + 4) 0 6) (a1 + 5) 0 (a0 + 5) 0 6)) :
    Go X 1 mX4_copy Q 0 [(0, .ref a0), (1, .ref a1)] [] m := by
  refine g_aload_n 0 dX4_copy_0 rfl rfl ?_
  refine g_aload_n 1 dX4_copy_1 rfl rfl ?_
  refine g_getZ dX4_copy_2 fl4_27 c1 ?_
  refine g_putZ dX4_copy_5 fl4_27 (fun h => by cases h) c0 h1 ?_
  refine g_aload_n 0 dX4_copy_8 rfl rfl ?_
  refine g_aload_n 1 dX4_copy_9 rfl rfl ?_
  refine g_getI dX4_copy_10 fl4_31 c1 ?_
  refine g_putI dX4_copy_13 fl4_31 (fun h => by cases h) c0 ?_
  refine g_aload_n 0 dX4_copy_16 rfl rfl ?_
  refine g_aload_n 1 dX4_copy_17 rfl rfl ?_
  refine g_getI dX4_copy_18 fl4_35 c1 ?_
  refine g_putI dX4_copy_21 fl4_35 (fun h => by cases h) c0 ?_
  refine g_aload_n 0 dX4_copy_24 rfl rfl ?_
  refine g_aload_n 1 dX4_copy_25 rfl rfl ?_
  refine g_getI dX4_copy_26 fl4_38 c1 ?_
  refine g_putI dX4_copy_29 fl4_38 (fun h => by cases h) c0 ?_
  refine g_aload_n 0 dX4_copy_32 rfl rfl ?_
  refine g_aload_n 1 dX4_copy_33 rfl rfl ?_
  refine g_getI dX4_copy_34 fl4_41 c1 ?_
  refine g_putI dX4_copy_37 fl4_41 (fun h => by cases h) c0 ?_
  refine g_aload_n 1 dX4_copy_40 rfl rfl ?_
  refine g_getR dX4_copy_41 fl4_9 rfl c1 (w4_5 hW c1) ?_
  refine g_iconst (v := 0) dX4_copy_44 (by decide) ?_
  refine g_aload_n 0 dX4_copy_45 rfl rfl ?_
  refine g_getR dX4_copy_46 fl4_9 rfl c0 (w4_5 hW c0) ?_
  refine g_iconst (v := 0) dX4_copy_49 (by decide) ?_
  refine g_bipush (v := 8) dX4_copy_50 (by decide) ?_
  refine g_copyN (s1 := 0) (d1 := 0) (n1 := 8) dX4_copy_52 acwX4_50 (s4_5 c1) (s4_5 c0) (by decide) (by decide) (by decide) (by decide) (by decide) (by decide) (Nat.le_of_ble_eq_true rfl) ⟨by decide, by decide⟩ ?_
  refine g_aload_n 1 dX4_copy_55 rfl rfl ?_
  refine g_getR dX4_copy_56 fl4_15 rfl c1 (w4_6 hW c1) ?_
  refine g_iconst (v := 0) dX4_copy_59 (by decide) ?_
  refine g_aload_n 0 dX4_copy_60 rfl rfl ?_
  refine g_getR dX4_copy_61 fl4_15 rfl c0 (w4_6 hW c0) ?_
  refine g_iconst (v := 0) dX4_copy_64 (by decide) ?_
  refine g_iconst (v := 4) dX4_copy_65 (by decide) ?_
  refine g_copyN (s1 := 0) (d1 := 0) (n1 := 4) dX4_copy_66 acwX4_50 (s4_6 c1) (s4_6 c0) (by decide) (by decide) (by decide) (by decide) (by decide) (by decide) (Nat.le_of_ble_eq_true rfl) ⟨by decide, by decide⟩ ?_
  refine g_aload_n 1 dX4_copy_69 rfl rfl ?_
  refine g_getR dX4_copy_70 fl4_18 rfl c1 (w4_7 hW c1) ?_
  refine g_iconst (v := 0) dX4_copy_73 (by decide) ?_
  refine g_aload_n 0 dX4_copy_74 rfl rfl ?_
  refine g_getR dX4_copy_75 fl4_18 rfl c0 (w4_7 hW c0) ?_
  refine g_iconst (v := 0) dX4_copy_78 (by decide) ?_
  refine g_bipush (v := 6) dX4_copy_79 (by decide) ?_
  refine g_copyN (s1 := 0) (d1 := 0) (n1 := 6) dX4_copy_81 acwX4_50 (s4_7 c1) (s4_7 c0) (by decide) (by decide) (by decide) (by decide) (by decide) (by decide) (Nat.le_of_ble_eq_true rfl) ⟨by decide, by decide⟩ ?_
  refine g_aload_n 1 dX4_copy_84 rfl rfl ?_
  refine g_getR dX4_copy_85 fl4_21 rfl c1 (w4_8 hW c1) ?_
  refine g_iconst (v := 0) dX4_copy_88 (by decide) ?_
  refine g_aload_n 0 dX4_copy_89 rfl rfl ?_
  refine g_getR dX4_copy_90 fl4_21 rfl c0 (w4_8 hW c0) ?_
  refine g_iconst (v := 0) dX4_copy_93 (by decide) ?_
  refine g_bipush (v := 6) dX4_copy_94 (by decide) ?_
  refine g_copyN (s1 := 0) (d1 := 0) (n1 := 6) dX4_copy_96 acwX4_50 (s4_8 c1) (s4_8 c0) (by decide) (by decide) (by decide) (by decide) (by decide) (by decide) (Nat.le_of_ble_eq_true rfl) ⟨by decide, by decide⟩ ?_
  refine g_aload_n 1 dX4_copy_99 rfl rfl ?_
  refine g_getR dX4_copy_100 fl4_24 rfl c1 (w4_9 hW c1) ?_
  refine g_iconst (v := 0) dX4_copy_103 (by decide) ?_
  refine g_aload_n 0 dX4_copy_104 rfl rfl ?_
  refine g_getR dX4_copy_105 fl4_24 rfl c0 (w4_9 hW c0) ?_
  refine g_iconst (v := 0) dX4_copy_108 (by decide) ?_
  refine g_bipush (v := 6) dX4_copy_109 (by decide) ?_
  refine g_copyN (s1 := 0) (d1 := 0) (n1 := 6) dX4_copy_111 acwX4_50 (s4_9 c1) (s4_9 c0) (by decide) (by decide) (by decide) (by decide) (by decide) (by decide) (Nat.le_of_ble_eq_true rfl) ⟨by decide, by decide⟩ ?_
  exact g_vret dX4_copy_114 rfl enSH h2
theorem bX4_begin_0 {X : pX} {Q : Option Value → pMem → Prop} {m : pMem} {a0 : Nat} {a1 : Nat} (hW : Wf m) (c0 : SH[a0]? = some (.inl 4)) (c1 : SH[a1]? = some (.inl 8))
    (h1 : Cl X 0 mJ7_fill_53178 [.ref (a1 + 1), .int (0 : Int32)] (uI m a1 0 (0 : Int32)) (fun v m2 => Go X 1 mX4_begin Q 13 [(0, .ref a0), (1, .ref a1)] (v.toList ++ []) m2)) :
    Go X 1 mX4_begin Q 0 [(0, .ref a0), (1, .ref a1)] [] m := by
  refine g_aload_n 1 dX4_begin_0 rfl rfl ?_
  refine g_iconst (v := 0) dX4_begin_1 (by decide) ?_
  refine g_putI dX4_begin_2 fl4_56 (fun h => by cases h) c1 ?_
  refine g_aload_n 1 dX4_begin_5 rfl rfl ?_
  refine g_getR dX4_begin_6 fl4_61 rfl c1 (w8_1 hW c1) ?_
  refine g_iconst (v := 0) dX4_begin_9 (by decide) ?_
  exact g_callS (As := [.ref (a1 + 1), .int (0 : Int32)]) (st := []) dX4_begin_10 clX4_44 rfl rfl (Nat.le_of_ble_eq_true rfl) (rmSH (by decide) (by decide)) h1
theorem bX4_begin_13 {X : pX} {Q : Option Value → pMem → Prop} {m : pMem} {a0 : Nat} {a1 : Nat} (hW : Wf m) (c0 : SH[a0]? = some (.inl 4)) (c1 : SH[a1]? = some (.inl 8))
    (h1 : Cl X 0 mJ7_fill_53178 [.ref (a1 + 2), .int (0 : Int32)] m (fun v m2 => Go X 1 mX4_begin Q 21 [(0, .ref a0), (1, .ref a1)] (v.toList ++ []) m2)) :
    Go X 1 mX4_begin Q 13 [(0, .ref a0), (1, .ref a1)] [] m := by
  refine g_aload_n 1 dX4_begin_13 rfl rfl ?_
  refine g_getR dX4_begin_14 fl4_64 rfl c1 (w8_2 hW c1) ?_
  refine g_iconst (v := 0) dX4_begin_17 (by decide) ?_
  exact g_callS (As := [.ref (a1 + 2), .int (0 : Int32)]) (st := []) dX4_begin_18 clX4_44 rfl rfl (Nat.le_of_ble_eq_true rfl) (rmSH (by decide) (by decide)) h1
theorem bX4_begin_21 {X : pX} {Q : Option Value → pMem → Prop} {m : pMem} {a0 : Nat} {a1 : Nat} (hW : Wf m) (c0 : SH[a0]? = some (.inl 4)) (c1 : SH[a1]? = some (.inl 8))
    (h1 : Q none (uC m (a0 + 5) 0 (a1 + 3) 0 6)) :
    Go X 1 mX4_begin Q 21 [(0, .ref a0), (1, .ref a1)] [] m := by
  refine g_aload_n 0 dX4_begin_21 rfl rfl ?_
  refine g_getR dX4_begin_22 fl4_24 rfl c0 (w4_9 hW c0) ?_
  refine g_iconst (v := 0) dX4_begin_25 (by decide) ?_
  refine g_aload_n 1 dX4_begin_26 rfl rfl ?_
  refine g_getR dX4_begin_27 fl4_67 rfl c1 (w8_3 hW c1) ?_
  refine g_iconst (v := 0) dX4_begin_30 (by decide) ?_
  refine g_bipush (v := 6) dX4_begin_31 (by decide) ?_
  refine g_copyN (s1 := 0) (d1 := 0) (n1 := 6) dX4_begin_33 acwX4_50 (s4_9 c0) (s8_3 c1) (by decide) (by decide) (by decide) (by decide) (by decide) (by decide) (Nat.le_of_ble_eq_true rfl) ⟨by decide, by decide⟩ ?_
  exact g_vret dX4_begin_36 rfl enSH h1
theorem bX4_isStage_0 {X : pX} {Q : Option Value → pMem → Prop} {m : pMem} {a0 : Nat} {x1 : Int32} (hW : Wf m) (c0 : SH[a0]? = some (.inl 4))
    (h1 : x1 < 0 → Q (some (.int (0 : Int32))) m)
    (h2 : ¬ (x1 < 0) → (mI m a0 2) ≤ x1 → Q (some (.int (0 : Int32))) m)
    (h3 : ¬ (x1 < 0) → ¬ ((mI m a0 2) ≤ x1) → (8 : Int32) ≤ x1 → Q (some (.int (0 : Int32))) m)
    (h4 : ¬ (x1 < 0) → ¬ ((mI m a0 2) ≤ x1) → ¬ ((8 : Int32) ≤ x1) → Q (some (.int (1 : Int32))) m) :
    Go X 0 mX4_isStage Q 0 [(0, .ref a0), (1, .int x1)] [] m := by
  refine g_iload_n 1 dX4_isStage_0 rfl rfl ?_
  refine g_if_lt 22 dX4_isStage_1 (by decide) (fun q1 => ?_) (fun q1 => ?_)
  · refine g_iconst (v := 0) dX4_isStage_22 (by decide) ?_
    exact g_bret dX4_isStage_23 rfl (Or.inl rfl) enSH (h1 q1)
  · refine g_iload_n 1 dX4_isStage_4 rfl rfl ?_
    refine g_aload_n 0 dX4_isStage_5 rfl rfl ?_
    refine g_getI dX4_isStage_6 fl4_35 c0 ?_
    refine g_icmp_ge 22 dX4_isStage_9 (by decide) (fun q2 => ?_) (fun q2 => ?_)
    · refine g_iconst (v := 0) dX4_isStage_22 (by decide) ?_
      exact g_bret dX4_isStage_23 rfl (Or.inl rfl) enSH (h2 q1 q2)
    · refine g_iload_n 1 dX4_isStage_12 rfl rfl ?_
      refine g_bipush (v := 8) dX4_isStage_13 (by decide) ?_
      refine g_icmp_ge 22 dX4_isStage_15 (by decide) (fun q3 => ?_) (fun q3 => ?_)
      · refine g_iconst (v := 0) dX4_isStage_22 (by decide) ?_
        exact g_bret dX4_isStage_23 rfl (Or.inl rfl) enSH (h3 q1 q2 q3)
      · refine g_iconst (v := 1) dX4_isStage_18 (by decide) ?_
        refine g_goto 23 dX4_isStage_19 (by decide) ?_
        exact g_bret dX4_isStage_23 rfl (Or.inr rfl) enSH (h4 q1 q2 q3)
theorem bX4_isPlace_0 {X : pX} {Q : Option Value → pMem → Prop} {m : pMem} {a0 : Nat} {x1 : Int32} (hW : Wf m) (c0 : SH[a0]? = some (.inl 4))
    (h1 : x1 < 0 → Q (some (.int (0 : Int32))) m)
    (h2 : ¬ (x1 < 0) → (mI m a0 2) < x1 → Q (some (.int (0 : Int32))) m)
    (h3 : ¬ (x1 < 0) → ¬ ((mI m a0 2) < x1) → Q (some (.int (1 : Int32))) m) :
    Go X 0 mX4_isPlace Q 0 [(0, .ref a0), (1, .int x1)] [] m := by
  refine g_iload_n 1 dX4_isPlace_0 rfl rfl ?_
  refine g_if_lt 16 dX4_isPlace_1 (by decide) (fun q1 => ?_) (fun q1 => ?_)
  · refine g_iconst (v := 0) dX4_isPlace_16 (by decide) ?_
    exact g_bret dX4_isPlace_17 rfl (Or.inl rfl) enSH (h1 q1)
  · refine g_iload_n 1 dX4_isPlace_4 rfl rfl ?_
    refine g_aload_n 0 dX4_isPlace_5 rfl rfl ?_
    refine g_getI dX4_isPlace_6 fl4_35 c0 ?_
    refine g_icmp_gt 16 dX4_isPlace_9 (by decide) (fun q2 => ?_) (fun q2 => ?_)
    · refine g_iconst (v := 0) dX4_isPlace_16 (by decide) ?_
      exact g_bret dX4_isPlace_17 rfl (Or.inl rfl) enSH (h2 q1 q2)
    · refine g_iconst (v := 1) dX4_isPlace_12 (by decide) ?_
      refine g_goto 17 dX4_isPlace_13 (by decide) ?_
      exact g_bret dX4_isPlace_17 rfl (Or.inr rfl) enSH (h3 q1 q2)
theorem bX4_isPerson_0 {X : pX} {Q : Option Value → pMem → Prop} {m : pMem} {a0 : Nat} {x1 : Int32} (hW : Wf m) (c0 : SH[a0]? = some (.inl 4))
    (h1 : x1 < 0 → Q (some (.int (0 : Int32))) m)
    (h2 : ¬ (x1 < 0) → (mI m a0 3) ≤ x1 → Q (some (.int (0 : Int32))) m)
    (h3 : ¬ (x1 < 0) → ¬ ((mI m a0 3) ≤ x1) → (4 : Int32) ≤ x1 → Q (some (.int (0 : Int32))) m)
    (h4 : ¬ (x1 < 0) → ¬ ((mI m a0 3) ≤ x1) → ¬ ((4 : Int32) ≤ x1) → Q (some (.int (1 : Int32))) m) :
    Go X 0 mX4_isPerson Q 0 [(0, .ref a0), (1, .int x1)] [] m := by
  refine g_iload_n 1 dX4_isPerson_0 rfl rfl ?_
  refine g_if_lt 21 dX4_isPerson_1 (by decide) (fun q1 => ?_) (fun q1 => ?_)
  · refine g_iconst (v := 0) dX4_isPerson_21 (by decide) ?_
    exact g_bret dX4_isPerson_22 rfl (Or.inl rfl) enSH (h1 q1)
  · refine g_iload_n 1 dX4_isPerson_4 rfl rfl ?_
    refine g_aload_n 0 dX4_isPerson_5 rfl rfl ?_
    refine g_getI dX4_isPerson_6 fl4_38 c0 ?_
    refine g_icmp_ge 21 dX4_isPerson_9 (by decide) (fun q2 => ?_) (fun q2 => ?_)
    · refine g_iconst (v := 0) dX4_isPerson_21 (by decide) ?_
      exact g_bret dX4_isPerson_22 rfl (Or.inl rfl) enSH (h2 q1 q2)
    · refine g_iload_n 1 dX4_isPerson_12 rfl rfl ?_
      refine g_iconst (v := 4) dX4_isPerson_13 (by decide) ?_
      refine g_icmp_ge 21 dX4_isPerson_14 (by decide) (fun q3 => ?_) (fun q3 => ?_)
      · refine g_iconst (v := 0) dX4_isPerson_21 (by decide) ?_
        exact g_bret dX4_isPerson_22 rfl (Or.inl rfl) enSH (h3 q1 q2 q3)
      · refine g_iconst (v := 1) dX4_isPerson_17 (by decide) ?_
        refine g_goto 22 dX4_isPerson_18 (by decide) ?_
        exact g_bret dX4_isPerson_22 rfl (Or.inr rfl) enSH (h4 q1 q2 q3)
theorem bX4_isThing_0 {X : pX} {Q : Option Value → pMem → Prop} {m : pMem} {a0 : Nat} {x1 : Int32} (hW : Wf m) (c0 : SH[a0]? = some (.inl 4))
    (h1 : x1 < 0 → Q (some (.int (0 : Int32))) m)
    (h2 : ¬ (x1 < 0) → (mI m a0 4) ≤ x1 → Q (some (.int (0 : Int32))) m)
    (h3 : ¬ (x1 < 0) → ¬ ((mI m a0 4) ≤ x1) → (6 : Int32) ≤ x1 → Q (some (.int (0 : Int32))) m)
    (h4 : ¬ (x1 < 0) → ¬ ((mI m a0 4) ≤ x1) → ¬ ((6 : Int32) ≤ x1) → Q (some (.int (1 : Int32))) m) :
    Go X 0 mX4_isThing Q 0 [(0, .ref a0), (1, .int x1)] [] m := by
  refine g_iload_n 1 dX4_isThing_0 rfl rfl ?_
  refine g_if_lt 22 dX4_isThing_1 (by decide) (fun q1 => ?_) (fun q1 => ?_)
  · refine g_iconst (v := 0) dX4_isThing_22 (by decide) ?_
    exact g_bret dX4_isThing_23 rfl (Or.inl rfl) enSH (h1 q1)
  · refine g_iload_n 1 dX4_isThing_4 rfl rfl ?_
    refine g_aload_n 0 dX4_isThing_5 rfl rfl ?_
    refine g_getI dX4_isThing_6 fl4_41 c0 ?_
    refine g_icmp_ge 22 dX4_isThing_9 (by decide) (fun q2 => ?_) (fun q2 => ?_)
    · refine g_iconst (v := 0) dX4_isThing_22 (by decide) ?_
      exact g_bret dX4_isThing_23 rfl (Or.inl rfl) enSH (h2 q1 q2)
    · refine g_iload_n 1 dX4_isThing_12 rfl rfl ?_
      refine g_bipush (v := 6) dX4_isThing_13 (by decide) ?_
      refine g_icmp_ge 22 dX4_isThing_15 (by decide) (fun q3 => ?_) (fun q3 => ?_)
      · refine g_iconst (v := 0) dX4_isThing_22 (by decide) ?_
        exact g_bret dX4_isThing_23 rfl (Or.inl rfl) enSH (h3 q1 q2 q3)
      · refine g_iconst (v := 1) dX4_isThing_18 (by decide) ?_
        refine g_goto 23 dX4_isThing_19 (by decide) ?_
        exact g_bret dX4_isThing_23 rfl (Or.inr rfl) enSH (h4 q1 q2 q3)
theorem bX4_allThings_0 {X : pX} {Q : Option Value → pMem → Prop} {m : pMem} {a0 : Nat} (hW : Wf m) (c0 : SH[a0]? = some (.inl 4))
    (h1 : Q (some (.int (((1 : Int32) <<< ((mI m a0 4) &&& 31)) - (1 : Int32)))) m) :
    Go X 0 mX4_allThings Q 0 [(0, .ref a0)] [] m := by
  refine g_iconst (v := 1) dX4_allThings_0 (by decide) ?_
  refine g_aload_n 0 dX4_allThings_1 rfl rfl ?_
  refine g_getI dX4_allThings_2 fl4_41 c0 ?_
  refine g_ishl dX4_allThings_5 ?_
  refine g_iconst (v := 1) dX4_allThings_6 (by decide) ?_
  refine g_isub dX4_allThings_7 ?_
  exact g_iret dX4_allThings_8 rfl enSH h1
theorem bX4_weightOf_0 {X : pX} {Q : Option Value → pMem → Prop} {m : pMem} {a0 : Nat} {x1 : Int32} (hW : Wf m) (c0 : SH[a0]? = some (.inl 4))
    (h1 : Go X 0 mX4_weightOf Q 4 [(0, .ref a0), (1, .int x1), (2, .int (0 : Int32)), (3, .int (0 : Int32))] [] m) :
    Go X 0 mX4_weightOf Q 0 [(0, .ref a0), (1, .int x1)] [] m := by
  refine g_iconst (v := 0) dX4_weightOf_0 (by decide) ?_
  refine g_istore_n (ls2 := [(2, .int (0 : Int32)), (0, .ref a0), (1, .int x1)]) dX4_weightOf_1 rfl (by decide) rfl ?_
  refine g_iconst (v := 0) dX4_weightOf_2 (by decide) ?_
  refine g_istore_n (ls2 := [(3, .int (0 : Int32)), (2, .int (0 : Int32)), (0, .ref a0), (1, .int x1)]) dX4_weightOf_3 rfl (by decide) rfl ?_
  exact g_ls [2, 3, 1, 0] rfl h1
theorem bX4_weightOf_4 {X : pX} {Q : Option Value → pMem → Prop} {m : pMem} {a0 : Nat} {x1 : Int32} {x2 : Int32} {x3 : Int32} (hW : Wf m) (c0 : SH[a0]? = some (.inl 4))
    (h1 : (6 : Int32) ≤ x3 → Q (some (.int x2)) m)
    (h2 : ¬ ((6 : Int32) ≤ x3) → ¬ ((x1 >>> (x3 &&& 31)) &&& (1 : Int32)) = (1 : Int32) → Go X 0 mX4_weightOf Q 4 [(0, .ref a0), (1, .int x1), (2, .int x2), (3, .int (x3 + (1 : Int32)))] [] m)
    (h3 : ¬ ((6 : Int32) ≤ x3) → ((x1 >>> (x3 &&& 31)) &&& (1 : Int32)) = (1 : Int32) → vp_in x3 6)
    (h4 : ¬ ((6 : Int32) ≤ x3) → ((x1 >>> (x3 &&& 31)) &&& (1 : Int32)) = (1 : Int32) → Go X 0 mX4_weightOf Q 4 [(0, .ref a0), (1, .int x1), (2, .int (x2 + (mI m (a0 + 3) x3.toNatClampNeg))), (3, .int (x3 + (1 : Int32)))] [] m) :
    Go X 0 mX4_weightOf Q 4 [(0, .ref a0), (1, .int x1), (2, .int x2), (3, .int x3)] [] m := by
  refine g_iload_n 3 dX4_weightOf_4 rfl rfl ?_
  refine g_bipush (v := 6) dX4_weightOf_5 (by decide) ?_
  refine g_icmp_ge 34 dX4_weightOf_7 (by decide) (fun q1 => ?_) (fun q1 => ?_)
  · refine g_iload_n 2 dX4_weightOf_34 rfl rfl ?_
    exact g_iret dX4_weightOf_35 rfl enSH (h1 q1)
  · refine g_iload_n 1 dX4_weightOf_10 rfl rfl ?_
    refine g_iload_n 3 dX4_weightOf_11 rfl rfl ?_
    refine g_ishr dX4_weightOf_12 ?_
    refine g_iconst (v := 1) dX4_weightOf_13 (by decide) ?_
    refine g_iand dX4_weightOf_14 ?_
    refine g_iconst (v := 1) dX4_weightOf_15 (by decide) ?_
    refine g_icmp_ne 28 dX4_weightOf_16 (by decide) (fun q2 => ?_) (fun q2 => ?_)
    · refine g_iinc (v := x3 + (1 : Int32)) (ls2 := [(3, .int (x3 + (1 : Int32))), (0, .ref a0), (1, .int x1), (2, .int x2)]) 3 dX4_weightOf_28 rfl rfl (by decide) rfl ?_
      refine g_goto 4 dX4_weightOf_31 (by decide) ?_
      exact g_ls [1, 2, 3, 0] rfl (h2 q1 q2)
    · refine g_iload_n 2 dX4_weightOf_19 rfl rfl ?_
      refine g_aload_n 0 dX4_weightOf_20 rfl rfl ?_
      refine g_getR dX4_weightOf_21 fl4_18 rfl c0 (w4_7 hW c0) ?_
      refine g_iload_n 3 dX4_weightOf_24 rfl rfl ?_
      refine g_iald (j := x3.toNatClampNeg) dX4_weightOf_25 (s4_7 c0) (h3 q1 q2) rfl ?_
      refine g_iadd dX4_weightOf_26 ?_
      refine g_istore_n (ls2 := [(2, .int (x2 + (mI m (a0 + 3) x3.toNatClampNeg))), (0, .ref a0), (1, .int x1), (3, .int x3)]) dX4_weightOf_27 rfl (by decide) rfl ?_
      refine g_iinc (v := x3 + (1 : Int32)) (ls2 := [(3, .int (x3 + (1 : Int32))), (2, .int (x2 + (mI m (a0 + 3) x3.toNatClampNeg))), (0, .ref a0), (1, .int x1)]) 3 dX4_weightOf_28 rfl rfl (by decide) rfl ?_
      refine g_goto 4 dX4_weightOf_31 (by decide) ?_
      exact g_ls [2, 3, 1, 0] rfl (h4 q1 q2)
theorem bX4_worthOf_0 {X : pX} {Q : Option Value → pMem → Prop} {m : pMem} {a0 : Nat} {x1 : Int32} (hW : Wf m) (c0 : SH[a0]? = some (.inl 4))
    (h1 : Go X 0 mX4_worthOf Q 4 [(0, .ref a0), (1, .int x1), (2, .int (0 : Int32)), (3, .int (0 : Int32))] [] m) :
    Go X 0 mX4_worthOf Q 0 [(0, .ref a0), (1, .int x1)] [] m := by
  refine g_iconst (v := 0) dX4_worthOf_0 (by decide) ?_
  refine g_istore_n (ls2 := [(2, .int (0 : Int32)), (0, .ref a0), (1, .int x1)]) dX4_worthOf_1 rfl (by decide) rfl ?_
  refine g_iconst (v := 0) dX4_worthOf_2 (by decide) ?_
  refine g_istore_n (ls2 := [(3, .int (0 : Int32)), (2, .int (0 : Int32)), (0, .ref a0), (1, .int x1)]) dX4_worthOf_3 rfl (by decide) rfl ?_
  exact g_ls [2, 3, 1, 0] rfl h1
theorem bX4_worthOf_4 {X : pX} {Q : Option Value → pMem → Prop} {m : pMem} {a0 : Nat} {x1 : Int32} {x2 : Int32} {x3 : Int32} (hW : Wf m) (c0 : SH[a0]? = some (.inl 4))
    (h1 : (6 : Int32) ≤ x3 → Q (some (.int x2)) m)
    (h2 : ¬ ((6 : Int32) ≤ x3) → ¬ ((x1 >>> (x3 &&& 31)) &&& (1 : Int32)) = (1 : Int32) → Go X 0 mX4_worthOf Q 4 [(0, .ref a0), (1, .int x1), (2, .int x2), (3, .int (x3 + (1 : Int32)))] [] m)
    (h3 : ¬ ((6 : Int32) ≤ x3) → ((x1 >>> (x3 &&& 31)) &&& (1 : Int32)) = (1 : Int32) → vp_in x3 6)
    (h4 : ¬ ((6 : Int32) ≤ x3) → ((x1 >>> (x3 &&& 31)) &&& (1 : Int32)) = (1 : Int32) → Go X 0 mX4_worthOf Q 4 [(0, .ref a0), (1, .int x1), (2, .int (x2 + (mI m (a0 + 4) x3.toNatClampNeg))), (3, .int (x3 + (1 : Int32)))] [] m) :
    Go X 0 mX4_worthOf Q 4 [(0, .ref a0), (1, .int x1), (2, .int x2), (3, .int x3)] [] m := by
  refine g_iload_n 3 dX4_worthOf_4 rfl rfl ?_
  refine g_bipush (v := 6) dX4_worthOf_5 (by decide) ?_
  refine g_icmp_ge 34 dX4_worthOf_7 (by decide) (fun q1 => ?_) (fun q1 => ?_)
  · refine g_iload_n 2 dX4_worthOf_34 rfl rfl ?_
    exact g_iret dX4_worthOf_35 rfl enSH (h1 q1)
  · refine g_iload_n 1 dX4_worthOf_10 rfl rfl ?_
    refine g_iload_n 3 dX4_worthOf_11 rfl rfl ?_
    refine g_ishr dX4_worthOf_12 ?_
    refine g_iconst (v := 1) dX4_worthOf_13 (by decide) ?_
    refine g_iand dX4_worthOf_14 ?_
    refine g_iconst (v := 1) dX4_worthOf_15 (by decide) ?_
    refine g_icmp_ne 28 dX4_worthOf_16 (by decide) (fun q2 => ?_) (fun q2 => ?_)
    · refine g_iinc (v := x3 + (1 : Int32)) (ls2 := [(3, .int (x3 + (1 : Int32))), (0, .ref a0), (1, .int x1), (2, .int x2)]) 3 dX4_worthOf_28 rfl rfl (by decide) rfl ?_
      refine g_goto 4 dX4_worthOf_31 (by decide) ?_
      exact g_ls [1, 2, 3, 0] rfl (h2 q1 q2)
    · refine g_iload_n 2 dX4_worthOf_19 rfl rfl ?_
      refine g_aload_n 0 dX4_worthOf_20 rfl rfl ?_
      refine g_getR dX4_worthOf_21 fl4_21 rfl c0 (w4_8 hW c0) ?_
      refine g_iload_n 3 dX4_worthOf_24 rfl rfl ?_
      refine g_iald (j := x3.toNatClampNeg) dX4_worthOf_25 (s4_8 c0) (h3 q1 q2) rfl ?_
      refine g_iadd dX4_worthOf_26 ?_
      refine g_istore_n (ls2 := [(2, .int (x2 + (mI m (a0 + 4) x3.toNatClampNeg))), (0, .ref a0), (1, .int x1), (3, .int x3)]) dX4_worthOf_27 rfl (by decide) rfl ?_
      refine g_iinc (v := x3 + (1 : Int32)) (ls2 := [(3, .int (x3 + (1 : Int32))), (2, .int (x2 + (mI m (a0 + 4) x3.toNatClampNeg))), (0, .ref a0), (1, .int x1)]) 3 dX4_worthOf_28 rfl rfl (by decide) rfl ?_
      refine g_goto 4 dX4_worthOf_31 (by decide) ?_
      exact g_ls [2, 3, 1, 0] rfl (h4 q1 q2)
theorem bX4_daysFor_0 {X : pX} {Q : Option Value → pMem → Prop} {m : pMem} {a0 : Nat} {x1 : Int32} {x2 : Int32} {x3 : Int32} {x4 : Int32} (hW : Wf m) (c0 : SH[a0]? = some (.inl 4))
    (h1 : Cl X 0 mX4_isPerson [.ref a0, .int x1] m (fun v m2 => Go X 1 mX4_daysFor Q 5 [(0, .ref a0), (1, .int x1), (2, .int x2), (3, .int x3), (4, .int x4)] (v.toList ++ []) m2)) :
    Go X 1 mX4_daysFor Q 0 [(0, .ref a0), (1, .int x1), (2, .int x2), (3, .int x3), (4, .int x4)] [] m := by
  refine g_aload_n 0 dX4_daysFor_0 rfl rfl ?_
  refine g_iload_n 1 dX4_daysFor_1 rfl rfl ?_
  exact g_callV (As := [.int x1]) (st := []) dX4_daysFor_2 clX4_68 c0 rfl rfl (Nat.le_of_ble_eq_true rfl) (rmSH (by decide) (by decide)) h1
theorem bX4_daysFor_5 {X : pX} {Q : Option Value → pMem → Prop} {m : pMem} {a0 : Nat} {x1 : Int32} {x2 : Int32} {x3 : Int32} {x4 : Int32} {xs0 : Int32} (hW : Wf m) (c0 : SH[a0]? = some (.inl 4))
    (h1 : xs0 = 0 → Q (some (.int (0 : Int32))) m)
    (h2 : ¬ (xs0 = 0) → vp_in x1 4)
    (h3 : ¬ (xs0 = 0) → (1 : Int32) ≤ (mI m (a0 + 2) x1.toNatClampNeg) → Cl X 0 mX4_weightOf [.ref a0, .int x4] m (fun v m2 => Go X 1 mX4_daysFor Q 26 [(0, .ref a0), (1, .int x1), (2, .int x2), (3, .int x3), (4, .int x4)] (v.toList ++ []) m2))
    (h4 : ¬ (xs0 = 0) → ¬ ((1 : Int32) ≤ (mI m (a0 + 2) x1.toNatClampNeg)) → Q (some (.int (0 : Int32))) m) :
    Go X 1 mX4_daysFor Q 5 [(0, .ref a0), (1, .int x1), (2, .int x2), (3, .int x3), (4, .int x4)] [.int xs0] m := by
  refine g_if_eq 18 dX4_daysFor_5 (by decide) (fun q1 => ?_) (fun q1 => ?_)
  · refine g_iconst (v := 0) dX4_daysFor_18 (by decide) ?_
    exact g_iret dX4_daysFor_19 rfl enSH (h1 q1)
  · refine g_aload_n 0 dX4_daysFor_8 rfl rfl ?_
    refine g_getR dX4_daysFor_9 fl4_15 rfl c0 (w4_6 hW c0) ?_
    refine g_iload_n 1 dX4_daysFor_12 rfl rfl ?_
    refine g_iald (j := x1.toNatClampNeg) dX4_daysFor_13 (s4_6 c0) (h2 q1) rfl ?_
    refine g_iconst (v := 1) dX4_daysFor_14 (by decide) ?_
    refine g_icmp_ge 20 dX4_daysFor_15 (by decide) (fun q2 => ?_) (fun q2 => ?_)
    · refine g_aload_n 0 dX4_daysFor_20 rfl rfl ?_
      refine g_iload 4 dX4_daysFor_21 rfl ?_
      exact g_callV (As := [.int x4]) (st := []) dX4_daysFor_23 clX4_72 c0 rfl rfl (Nat.le_of_ble_eq_true rfl) (rmSH (by decide) (by decide)) (h3 q1 q2)
    · refine g_iconst (v := 0) dX4_daysFor_18 (by decide) ?_
      exact g_iret dX4_daysFor_19 rfl enSH (h4 q1 q2)
theorem bX4_daysFor_26 {X : pX} {Q : Option Value → pMem → Prop} {m : pMem} {a0 : Nat} {x1 : Int32} {x2 : Int32} {x3 : Int32} {x4 : Int32} {xs0 : Int32} (hW : Wf m) (c0 : SH[a0]? = some (.inl 4))
    (h1 : Cl X 0 mJ9_max_7cf53 [.int x2, .int (0 : Int32)] m (fun v m2 => Go X 1 mX4_daysFor Q 36 [(0, .ref a0), (1, .int x1), (2, .int x2), (3, .int x3), (4, .int x4), (5, .int xs0), (6, .int (0 : Int32))] (v.toList ++ []) m2)) :
    Go X 1 mX4_daysFor Q 26 [(0, .ref a0), (1, .int x1), (2, .int x2), (3, .int x3), (4, .int x4)] [.int xs0] m := by
  refine g_istore (ls2 := [(5, .int xs0), (0, .ref a0), (1, .int x1), (2, .int x2), (3, .int x3), (4, .int x4)]) dX4_daysFor_26 (by decide) rfl ?_
  refine g_iconst (v := 0) dX4_daysFor_28 (by decide) ?_
  refine g_istore (ls2 := [(6, .int (0 : Int32)), (5, .int xs0), (0, .ref a0), (1, .int x1), (2, .int x2), (3, .int x3), (4, .int x4)]) dX4_daysFor_29 (by decide) rfl ?_
  refine g_iload_n 4 dX4_daysFor_31 rfl rfl ?_
  refine g_iconst (v := 0) dX4_daysFor_32 (by decide) ?_
  refine g_ls [2, 3, 4, 5, 6, 1, 0] (ls2 := [(0, .ref a0), (1, .int x1), (2, .int x2), (3, .int x3), (4, .int x4), (5, .int xs0), (6, .int (0 : Int32))]) rfl ?_
  exact g_callS (As := [.int x2, .int (0 : Int32)]) (st := []) dX4_daysFor_33 clX4_76 rfl rfl (Nat.le_of_ble_eq_true rfl) (rmSH (by decide) (by decide)) h1
theorem bX4_daysFor_36 {X : pX} {Q : Option Value → pMem → Prop} {m : pMem} {a0 : Nat} {x1 : Int32} {x2 : Int32} {x3 : Int32} {x4 : Int32} {x5 : Int32} {x6 : Int32} {xs0 : Int32} (hW : Wf m) (c0 : SH[a0]? = some (.inl 4))
    (h1 : Go X 1 mX4_daysFor Q 38 [(0, .ref a0), (1, .int x1), (3, .int x3), (5, .int x5), (6, .int x6), (7, .int xs0)] [] m) :
    Go X 1 mX4_daysFor Q 36 [(0, .ref a0), (1, .int x1), (2, .int x2), (3, .int x3), (4, .int x4), (5, .int x5), (6, .int x6)] [.int xs0] m := by
  refine g_istore (ls2 := [(7, .int xs0), (0, .ref a0), (1, .int x1), (2, .int x2), (3, .int x3), (4, .int x4), (5, .int x5), (6, .int x6)]) dX4_daysFor_36 (by decide) rfl ?_
  exact g_ls [1, 2, 4, 6, 7, 0] rfl h1
theorem bX4_daysFor_38 {X : pX} {Q : Option Value → pMem → Prop} {m : pMem} {a0 : Nat} {x1 : Int32} {x3 : Int32} {x5 : Int32} {x6 : Int32} {x7 : Int32} (hW : Wf m) (c0 : SH[a0]? = some (.inl 4))
    (h1 : x3 ≤ x7 → Q (some (.int x6)) m)
    (h2 : ¬ (x3 ≤ x7) → (8 : Int32) ≤ x7 → Q (some (.int x6)) m)
    (h3 : ¬ (x3 ≤ x7) → ¬ ((8 : Int32) ≤ x7) → vp_in x7 8)
    (h4 : ¬ (x3 ≤ x7) → ¬ ((8 : Int32) ≤ x7) → vp_in x1 4)
    (h5 : ¬ (x3 ≤ x7) → ¬ ((8 : Int32) ≤ x7) → vp_in x1 4)
    (h6 : ¬ (x3 ≤ x7) → ¬ ((8 : Int32) ≤ x7) → ¬ (mI m (a0 + 2) x1.toNatClampNeg) = 0)
    (h7 : ¬ (x3 ≤ x7) → ¬ ((8 : Int32) ≤ x7) → Go X 1 mX4_daysFor Q 38 [(0, .ref a0), (1, .int x1), (3, .int x3), (5, .int x5), (6, .int (x6 + (((((mI m (a0 + 1) x7.toNatClampNeg) + x5) + (mI m (a0 + 2) x1.toNatClampNeg)) - (1 : Int32)) / (mI m (a0 + 2) x1.toNatClampNeg)))), (7, .int (x7 + (1 : Int32)))] [] m) :
    Go X 1 mX4_daysFor Q 38 [(0, .ref a0), (1, .int x1), (3, .int x3), (5, .int x5), (6, .int x6), (7, .int x7)] [] m := by
  refine g_iload 5 dX4_daysFor_38 rfl ?_
  refine g_iload_n 2 dX4_daysFor_40 rfl rfl ?_
  refine g_icmp_ge 88 dX4_daysFor_41 (by decide) (fun q1 => ?_) (fun q1 => ?_)
  · refine g_iload 4 dX4_daysFor_88 rfl ?_
    exact g_iret dX4_daysFor_90 rfl enSH (h1 q1)
  · refine g_iload 5 dX4_daysFor_44 rfl ?_
    refine g_bipush (v := 8) dX4_daysFor_46 (by decide) ?_
    refine g_icmp_ge 88 dX4_daysFor_48 (by decide) (fun q2 => ?_) (fun q2 => ?_)
    · refine g_iload 4 dX4_daysFor_88 rfl ?_
      exact g_iret dX4_daysFor_90 rfl enSH (h2 q1 q2)
    · refine g_iload 4 dX4_daysFor_51 rfl ?_
      refine g_aload_n 0 dX4_daysFor_53 rfl rfl ?_
      refine g_getR dX4_daysFor_54 fl4_9 rfl c0 (w4_5 hW c0) ?_
      refine g_iload 5 dX4_daysFor_57 rfl ?_
      refine g_iald (j := x7.toNatClampNeg) dX4_daysFor_59 (s4_5 c0) (h3 q1 q2) rfl ?_
      refine g_iload 3 dX4_daysFor_60 rfl ?_
      refine g_iadd dX4_daysFor_62 ?_
      refine g_aload_n 0 dX4_daysFor_63 rfl rfl ?_
      refine g_getR dX4_daysFor_64 fl4_15 rfl c0 (w4_6 hW c0) ?_
      refine g_iload_n 1 dX4_daysFor_67 rfl rfl ?_
      refine g_iald (j := x1.toNatClampNeg) dX4_daysFor_68 (s4_6 c0) (h4 q1 q2) rfl ?_
      refine g_iadd dX4_daysFor_69 ?_
      refine g_iconst (v := 1) dX4_daysFor_70 (by decide) ?_
      refine g_isub dX4_daysFor_71 ?_
      refine g_aload_n 0 dX4_daysFor_72 rfl rfl ?_
      refine g_getR dX4_daysFor_73 fl4_15 rfl c0 (w4_6 hW c0) ?_
      refine g_iload_n 1 dX4_daysFor_76 rfl rfl ?_
      refine g_iald (j := x1.toNatClampNeg) dX4_daysFor_77 (s4_6 c0) (h5 q1 q2) rfl ?_
      refine g_idiv dX4_daysFor_78 (h6 q1 q2) ?_
      refine g_iadd dX4_daysFor_79 ?_
      refine g_istore (ls2 := [(6, .int (x6 + (((((mI m (a0 + 1) x7.toNatClampNeg) + x5) + (mI m (a0 + 2) x1.toNatClampNeg)) - (1 : Int32)) / (mI m (a0 + 2) x1.toNatClampNeg)))), (0, .ref a0), (1, .int x1), (3, .int x3), (5, .int x5), (7, .int x7)]) dX4_daysFor_80 (by decide) rfl ?_
      refine g_iinc (v := x7 + (1 : Int32)) (ls2 := [(7, .int (x7 + (1 : Int32))), (6, .int (x6 + (((((mI m (a0 + 1) x7.toNatClampNeg) + x5) + (mI m (a0 + 2) x1.toNatClampNeg)) - (1 : Int32)) / (mI m (a0 + 2) x1.toNatClampNeg)))), (0, .ref a0), (1, .int x1), (3, .int x3), (5, .int x5)]) 5 dX4_daysFor_82 rfl rfl (by decide) rfl ?_
      refine g_goto 38 dX4_daysFor_85 (by decide) ?_
      exact g_ls [2, 3, 4, 5, 1, 0] rfl (h7 q1 q2)
