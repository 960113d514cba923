theorem bX2_clear_0 {X : pX} {Q : Option Value → pMem → Prop} {m : pMem} {a0 : Nat} (hW : Wf m) (c0 : SH[a0]? = some (.inl 2))
    (h1 : Q none (uI (uI m a0 1 (0 : Int32)) a0 2 (0 : Int32))) :
    Go X 0 mX2_clear Q 0 [(0, .ref a0)] [] m := by
  refine g_aload_n 0 dX2_clear_0 rfl rfl ?_
  refine g_iconst (v := 0) dX2_clear_1 (by decide) ?_
  refine g_putI dX2_clear_2 fl2_16 (fun h => by cases h) c0 ?_
  refine g_aload_n 0 dX2_clear_5 rfl rfl ?_
  refine g_iconst (v := 0) dX2_clear_6 (by decide) ?_
  refine g_putI dX2_clear_7 fl2_20 (fun h => by cases h) c0 ?_
  exact g_vret dX2_clear_10 rfl enSH h1
theorem bX2_copy_0 {X : pX} {Q : Option Value → pMem → Prop} {m : pMem} {a0 : Nat} {a1 : Nat} (hW : Wf m) (c0 : SH[a0]? = some (.inl 2)) (c1 : SH[a1]? = some (.inl 2))
    (h1 : Go X 2 mX2_copy Q 18 [(0, .ref a0), (1, .ref a1), (2, .int (0 : Int32))] [] (uI (uI m a0 1 (mI m a1 1)) a0 2 (mI (uI m a0 1 (mI m a1 1)) a1 2))) :
    Go X 2 mX2_copy Q 0 [(0, .ref a0), (1, .ref a1)] [] m := by
  refine g_aload_n 0 dX2_copy_0 rfl rfl ?_
  refine g_aload_n 1 dX2_copy_1 rfl rfl ?_
  refine g_getI dX2_copy_2 fl2_16 c1 ?_
  refine g_putI dX2_copy_5 fl2_16 (fun h => by cases h) c0 ?_
  refine g_aload_n 0 dX2_copy_8 rfl rfl ?_
  refine g_aload_n 1 dX2_copy_9 rfl rfl ?_
  refine g_getI dX2_copy_10 fl2_20 c1 ?_
  refine g_putI dX2_copy_13 fl2_20 (fun h => by cases h) c0 ?_
  refine g_iconst (v := 0) dX2_copy_16 (by decide) ?_
  refine g_istore_n (ls2 := [(2, .int (0 : Int32)), (0, .ref a0), (1, .ref a1)]) dX2_copy_17 rfl (by decide) rfl ?_
  exact g_ls [1, 2, 0] rfl h1
theorem bX2_copy_18 {X : pX} {Q : Option Value → pMem → Prop} {m : pMem} {a0 : Nat} {a1 : Nat} {x2 : Int32} (hW : Wf m) (c0 : SH[a0]? = some (.inl 2)) (c1 : SH[a1]? = some (.inl 2))
    (h1 : (20 : Int32) ≤ x2 → Q none m)
    (h2 : ¬ ((20 : Int32) ≤ x2) → vp_in x2 20)
    (h3 : ¬ ((20 : Int32) ≤ x2) → vp_in x2 20)
    (h4 : ¬ ((20 : Int32) ≤ x2) → Cl X 1 mX8_copy [.ref (a0 + 2 + 4 * x2.toNatClampNeg), .ref (a1 + 2 + 4 * x2.toNatClampNeg)] m (fun v m2 => Go X 2 mX2_copy Q 39 [(0, .ref a0), (1, .ref a1), (2, .int x2)] (v.toList ++ []) m2)) :
    Go X 2 mX2_copy Q 18 [(0, .ref a0), (1, .ref a1), (2, .int x2)] [] m := by
  refine g_iload_n 2 dX2_copy_18 rfl rfl ?_
  refine g_bipush (v := 20) dX2_copy_19 (by decide) ?_
  refine g_icmp_ge 45 dX2_copy_21 (by decide) (fun q1 => ?_) (fun q1 => ?_)
  · exact g_vret dX2_copy_45 rfl enSH (h1 q1)
  · refine g_aload_n 0 dX2_copy_24 rfl rfl ?_
    refine g_getR dX2_copy_25 fl2_11 rfl c0 (w2_0 hW c0) ?_
    refine g_iload_n 2 dX2_copy_28 rfl rfl ?_
    refine g_aald dX2_copy_29 (s2_0 c0) (by decide) (h2 q1) rfl (wRows hW c0 (inN (h2 q1))) ?_
    refine g_aload_n 1 dX2_copy_30 rfl rfl ?_
    refine g_getR dX2_copy_31 fl2_11 rfl c1 (w2_0 hW c1) ?_
    refine g_iload_n 2 dX2_copy_34 rfl rfl ?_
    refine g_aald dX2_copy_35 (s2_0 c1) (by decide) (h3 q1) rfl (wRows hW c1 (inN (h3 q1))) ?_
    exact g_callV (As := [.ref (a1 + 2 + 4 * x2.toNatClampNeg)]) (st := []) dX2_copy_36 clX2_23 (shRows c0 (inN (h2 q1))) rfl rfl (Nat.le_of_ble_eq_true rfl) (rmSH (by decide) (by decide)) (h4 q1)
theorem bX2_copy_39 {X : pX} {Q : Option Value → pMem → Prop} {m : pMem} {a0 : Nat} {a1 : Nat} {x2 : Int32} (hW : Wf m) (c0 : SH[a0]? = some (.inl 2)) (c1 : SH[a1]? = some (.inl 2))
    (h1 : Go X 2 mX2_copy Q 18 [(0, .ref a0), (1, .ref a1), (2, .int (x2 + (1 : Int32)))] [] m) :
    Go X 2 mX2_copy Q 39 [(0, .ref a0), (1, .ref a1), (2, .int x2)] [] m := by
  refine g_iinc (v := x2 + (1 : Int32)) (ls2 := [(2, .int (x2 + (1 : Int32))), (0, .ref a0), (1, .ref a1)]) 2 dX2_copy_39 rfl rfl (by decide) rfl ?_
  refine g_goto 18 dX2_copy_42 (by decide) ?_
  exact g_ls [1, 2, 0] rfl h1
theorem bX2_keep_0 {X : pX} {Q : Option Value → pMem → Prop} {m : pMem} {a0 : Nat} {a1 : Nat} (hW : Wf m) (c0 : SH[a0]? = some (.inl 2)) (c1 : SH[a1]? = some (.inl 8))
    (h1 : vp_in (((mI m a0 1) + (mI m a0 2)) - ((mI m a0 1) + (mI m a0 2)) / (20 : Int32) * (20 : Int32)) 20)
    (h2 : Cl X 1 mX8_copy [.ref (a0 + 2 + 4 * ((((mI m a0 1) + (mI m a0 2)) - ((mI m a0 1) + (mI m a0 2)) / (20 : Int32) * (20 : Int32)).toNatClampNeg)), .ref a1] m (fun v m2 => Go X 2 mX2_keep Q 21 [(0, .ref a0), (1, .ref a1)] (v.toList ++ []) m2)) :
    Go X 2 mX2_keep Q 0 [(0, .ref a0), (1, .ref a1)] [] m := by
  refine g_aload_n 0 dX2_keep_0 rfl rfl ?_
  refine g_getR dX2_keep_1 fl2_11 rfl c0 (w2_0 hW c0) ?_
  refine g_aload_n 0 dX2_keep_4 rfl rfl ?_
  refine g_getI dX2_keep_5 fl2_16 c0 ?_
  refine g_aload_n 0 dX2_keep_8 rfl rfl ?_
  refine g_getI dX2_keep_9 fl2_20 c0 ?_
  refine g_iadd dX2_keep_12 ?_
  refine g_bipush (v := 20) dX2_keep_13 (by decide) ?_
  refine g_irem dX2_keep_15 (by decide) ?_
  refine g_aald dX2_keep_16 (s2_0 c0) (by decide) h1 rfl (wRows hW c0 (inN h1)) ?_
  refine g_aload_n 1 dX2_keep_17 rfl rfl ?_
  exact g_callV (As := [.ref a1]) (st := []) dX2_keep_18 clX2_23 (shRows c0 (inN h1)) rfl rfl (Nat.le_of_ble_eq_true rfl) (rmSH (by decide) (by decide)) h2
theorem bX2_keep_21 {X : pX} {Q : Option Value → pMem → Prop} {m : pMem} {a0 : Nat} {a1 : Nat} (hW : Wf m) (c0 : SH[a0]? = some (.inl 2)) (c1 : SH[a1]? = some (.inl 8))
    (h1 : (20 : Int32) ≤ (mI m a0 2) → Q none (uI m a0 1 (((mI m a0 1) + (1 : Int32)) - ((mI m a0 1) + (1 : Int32)) / (20 : Int32) * (20 : Int32))))
    (h2 : ¬ ((20 : Int32) ≤ (mI m a0 2)) → Q none (uI m a0 2 ((mI m a0 2) + (1 : Int32)))) :
    Go X 2 mX2_keep Q 21 [(0, .ref a0), (1, .ref a1)] [] m := by
  refine g_aload_n 0 dX2_keep_21 rfl rfl ?_
  refine g_getI dX2_keep_22 fl2_20 c0 ?_
  refine g_bipush (v := 20) dX2_keep_25 (by decide) ?_
  refine g_icmp_ge 43 dX2_keep_27 (by decide) (fun q1 => ?_) (fun q1 => ?_)
  · refine g_aload_n 0 dX2_keep_43 rfl rfl ?_
    refine g_aload_n 0 dX2_keep_44 rfl rfl ?_
    refine g_getI dX2_keep_45 fl2_16 c0 ?_
    refine g_iconst (v := 1) dX2_keep_48 (by decide) ?_
    refine g_iadd dX2_keep_49 ?_
    refine g_bipush (v := 20) dX2_keep_50 (by decide) ?_
    refine g_irem dX2_keep_52 (by decide) ?_
    refine g_putI dX2_keep_53 fl2_16 (fun h => by cases h) c0 ?_
    exact g_vret dX2_keep_56 rfl enSH (h1 q1)
  · refine g_aload_n 0 dX2_keep_30 rfl rfl ?_
    refine g_dup dX2_keep_31 rfl ?_
    refine g_getI dX2_keep_32 fl2_20 c0 ?_
    refine g_iconst (v := 1) dX2_keep_35 (by decide) ?_
    refine g_iadd dX2_keep_36 ?_
    refine g_putI dX2_keep_37 fl2_20 (fun h => by cases h) c0 ?_
    refine g_goto 56 dX2_keep_40 (by decide) ?_
    exact g_vret dX2_keep_56 rfl enSH (h2 q1)
theorem bX2_bringBack_0 {X : pX} {Q : Option Value → pMem → Prop} {m : pMem} {a0 : Nat} {a1 : Nat} (hW : Wf m) (c0 : SH[a0]? = some (.inl 2)) (c1 : SH[a1]? = some (.inl 8))
    (h1 : (mI m a0 2) ≤ 0 → Q none m)
    (h2 : ¬ ((mI m a0 2) ≤ 0) → vp_in (((mI (uI m a0 2 ((mI m a0 2) - (1 : Int32))) a0 1) + (mI (uI m a0 2 ((mI m a0 2) - (1 : Int32))) a0 2)) - ((mI (uI m a0 2 ((mI m a0 2) - (1 : Int32))) a0 1) + (mI (uI m a0 2 ((mI m a0 2) - (1 : Int32))) a0 2)) / (20 : Int32) * (20 : Int32)) 20)
    (h3 : ¬ ((mI m a0 2) ≤ 0) → Cl X 1 mX8_copy [.ref a1, .ref (a0 + 2 + 4 * ((((mI (uI m a0 2 ((mI m a0 2) - (1 : Int32))) a0 1) + (mI (uI m a0 2 ((mI m a0 2) - (1 : Int32))) a0 2)) - ((mI (uI m a0 2 ((mI m a0 2) - (1 : Int32))) a0 1) + (mI (uI m a0 2 ((mI m a0 2) - (1 : Int32))) a0 2)) / (20 : Int32) * (20 : Int32)).toNatClampNeg))] (uI m a0 2 ((mI m a0 2) - (1 : Int32))) (fun v m2 => Go X 2 mX2_bringBack Q 38 [(0, .ref a0), (1, .ref a1)] (v.toList ++ []) m2)) :
    Go X 2 mX2_bringBack Q 0 [(0, .ref a0), (1, .ref a1)] [] m := by
  refine g_aload_n 0 dX2_bringBack_0 rfl rfl ?_
  refine g_getI dX2_bringBack_1 fl2_20 c0 ?_
  refine g_if_le 38 dX2_bringBack_4 (by decide) (fun q1 => ?_) (fun q1 => ?_)
  · exact g_vret dX2_bringBack_38 rfl enSH (h1 q1)
  · refine g_aload_n 0 dX2_bringBack_7 rfl rfl ?_
    refine g_dup dX2_bringBack_8 rfl ?_
    refine g_getI dX2_bringBack_9 fl2_20 c0 ?_
    refine g_iconst (v := 1) dX2_bringBack_12 (by decide) ?_
    refine g_isub dX2_bringBack_13 ?_
    refine g_putI dX2_bringBack_14 fl2_20 (fun h => by cases h) c0 ?_
    refine g_aload_n 1 dX2_bringBack_17 rfl rfl ?_
    refine g_aload_n 0 dX2_bringBack_18 rfl rfl ?_
    refine g_getR dX2_bringBack_19 fl2_11 rfl c0 (w2_0 hW c0) ?_
    refine g_aload_n 0 dX2_bringBack_22 rfl rfl ?_
    refine g_getI dX2_bringBack_23 fl2_16 c0 ?_
    refine g_aload_n 0 dX2_bringBack_26 rfl rfl ?_
    refine g_getI dX2_bringBack_27 fl2_20 c0 ?_
    refine g_iadd dX2_bringBack_30 ?_
    refine g_bipush (v := 20) dX2_bringBack_31 (by decide) ?_
    refine g_irem dX2_bringBack_33 (by decide) ?_
    refine g_aald dX2_bringBack_34 (s2_0 c0) (by decide) (h2 q1) rfl (wRows hW c0 (inN (h2 q1))) ?_
    exact g_callV (As := [.ref (a0 + 2 + 4 * ((((mI (uI m a0 2 ((mI m a0 2) - (1 : Int32))) a0 1) + (mI (uI m a0 2 ((mI m a0 2) - (1 : Int32))) a0 2)) - ((mI (uI m a0 2 ((mI m a0 2) - (1 : Int32))) a0 1) + (mI (uI m a0 2 ((mI m a0 2) - (1 : Int32))) a0 2)) / (20 : Int32) * (20 : Int32)).toNatClampNeg))]) (st := []) dX2_bringBack_35 clX2_23 c1 rfl rfl (Nat.le_of_ble_eq_true rfl) (rmSH (by decide) (by decide)) (h3 q1)
theorem bX2_bringBack_38 {X : pX} {Q : Option Value → pMem → Prop} {m : pMem} {a0 : Nat} {a1 : Nat} (hW : Wf m) (c0 : SH[a0]? = some (.inl 2)) (c1 : SH[a1]? = some (.inl 8))
    (h1 : Q none m) :
    Go X 2 mX2_bringBack Q 38 [(0, .ref a0), (1, .ref a1)] [] m := by
  exact g_vret dX2_bringBack_38 rfl enSH h1
