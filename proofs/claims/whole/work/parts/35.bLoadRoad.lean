theorem bX11_feed_0 {X : pX} {Q : Option Value → pMem → Prop} {m : pMem} {a0 : Nat} {x1 : Int32} {x2 : Int32} {x3 : Int32} {x4 : Int32} {x5 : Int32} (hW : Wf m) (c0 : SH[a0]? = some (.inl 11))
    (h1 : Cl X 0 mX9_hasRoom [.ref 1, .int (20 : Int32)] m (fun v m2 => Go X 1 mX11_feed Q 9 [(0, .ref a0), (1, .int x1), (2, .int x2), (3, .int x3), (4, .int x4), (5, .int x5)] (v.toList ++ []) m2)) :
    Go X 1 mX11_feed Q 0 [(0, .ref a0), (1, .int x1), (2, .int x2), (3, .int x3), (4, .int x4), (5, .int x5)] [] m := by
  refine g_aload_n 0 dX11_feed_0 rfl rfl ?_
  refine g_getR dX11_feed_1 fl11_10 rfl c0 (w11_0 hW c0) ?_
  refine g_bipush (v := 20) dX11_feed_4 (by decide) ?_
  exact g_callV (As := [.int (20 : Int32)]) (st := []) dX11_feed_6 clX11_98 sh1 rfl rfl (Nat.le_of_ble_eq_true rfl) (rmSH (by decide) (by decide)) h1
theorem bX11_feed_9 {X : pX} {Q : Option Value → pMem → Prop} {m : pMem} {a0 : Nat} {x1 : Int32} {x2 : Int32} {x3 : Int32} {x4 : Int32} {x5 : Int32} {xs0 : Int32} (hW : Wf m) (c0 : SH[a0]? = some (.inl 11))
    (h1 : ¬ xs0 = 0 → Cl X 0 mX9_add [.ref 1, .int x1] m (fun v m2 => Go X 1 mX11_feed Q 22 [(0, .ref a0), (1, .int x1), (2, .int x2), (3, .int x3), (4, .int x4), (5, .int x5)] (v.toList ++ []) m2))
    (h2 : xs0 = 0 → Q (some (.int (-1 : Int32))) m) :
    Go X 1 mX11_feed Q 9 [(0, .ref a0), (1, .int x1), (2, .int x2), (3, .int x3), (4, .int x4), (5, .int x5)] [.int xs0] m := by
  refine g_if_ne 14 dX11_feed_9 (by decide) (fun q1 => ?_) (fun q1 => ?_)
  · refine g_aload_n 0 dX11_feed_14 rfl rfl ?_
    refine g_getR dX11_feed_15 fl11_10 rfl c0 (w11_0 hW c0) ?_
    refine g_iload_n 1 dX11_feed_18 rfl rfl ?_
    exact g_callV (As := [.int x1]) (st := []) dX11_feed_19 clX11_102 sh1 rfl rfl (Nat.le_of_ble_eq_true rfl) (rmSH (by decide) (by decide)) (h1 q1)
  · refine g_iconst (v := -1) dX11_feed_12 (by decide) ?_
    exact g_iret dX11_feed_13 rfl enSH (h2 q1)
theorem bX11_feed_22 {X : pX} {Q : Option Value → pMem → Prop} {m : pMem} {a0 : Nat} {x1 : Int32} {x2 : Int32} {x3 : Int32} {x4 : Int32} {x5 : Int32} (hW : Wf m) (c0 : SH[a0]? = some (.inl 11))
    (h1 : Cl X 0 mX9_add [.ref 1, .int x2] m (fun v m2 => Go X 1 mX11_feed Q 30 [(0, .ref a0), (1, .int x1), (2, .int x2), (3, .int x3), (4, .int x4), (5, .int x5)] (v.toList ++ []) m2)) :
    Go X 1 mX11_feed Q 22 [(0, .ref a0), (1, .int x1), (2, .int x2), (3, .int x3), (4, .int x4), (5, .int x5)] [] m := by
  refine g_aload_n 0 dX11_feed_22 rfl rfl ?_
  refine g_getR dX11_feed_23 fl11_10 rfl c0 (w11_0 hW c0) ?_
  refine g_iload_n 2 dX11_feed_26 rfl rfl ?_
  exact g_callV (As := [.int x2]) (st := []) dX11_feed_27 clX11_102 sh1 rfl rfl (Nat.le_of_ble_eq_true rfl) (rmSH (by decide) (by decide)) h1
theorem bX11_feed_30 {X : pX} {Q : Option Value → pMem → Prop} {m : pMem} {a0 : Nat} {x1 : Int32} {x2 : Int32} {x3 : Int32} {x4 : Int32} {x5 : Int32} (hW : Wf m) (c0 : SH[a0]? = some (.inl 11))
    (h1 : Cl X 0 mX9_add [.ref 1, .int x3] m (fun v m2 => Go X 1 mX11_feed Q 38 [(0, .ref a0), (1, .int x1), (2, .int x2), (3, .int x3), (4, .int x4), (5, .int x5)] (v.toList ++ []) m2)) :
    Go X 1 mX11_feed Q 30 [(0, .ref a0), (1, .int x1), (2, .int x2), (3, .int x3), (4, .int x4), (5, .int x5)] [] m := by
  refine g_aload_n 0 dX11_feed_30 rfl rfl ?_
  refine g_getR dX11_feed_31 fl11_10 rfl c0 (w11_0 hW c0) ?_
  refine g_iload_n 3 dX11_feed_34 rfl rfl ?_
  exact g_callV (As := [.int x3]) (st := []) dX11_feed_35 clX11_102 sh1 rfl rfl (Nat.le_of_ble_eq_true rfl) (rmSH (by decide) (by decide)) h1
theorem bX11_feed_38 {X : pX} {Q : Option Value → pMem → Prop} {m : pMem} {a0 : Nat} {x1 : Int32} {x2 : Int32} {x3 : Int32} {x4 : Int32} {x5 : Int32} (hW : Wf m) (c0 : SH[a0]? = some (.inl 11))
    (h1 : Cl X 0 mX9_add [.ref 1, .int x4] m (fun v m2 => Go X 1 mX11_feed Q 47 [(0, .ref a0), (1, .int x1), (2, .int x2), (3, .int x3), (4, .int x4), (5, .int x5)] (v.toList ++ []) m2)) :
    Go X 1 mX11_feed Q 38 [(0, .ref a0), (1, .int x1), (2, .int x2), (3, .int x3), (4, .int x4), (5, .int x5)] [] m := by
  refine g_aload_n 0 dX11_feed_38 rfl rfl ?_
  refine g_getR dX11_feed_39 fl11_10 rfl c0 (w11_0 hW c0) ?_
  refine g_iload 4 dX11_feed_42 rfl ?_
  exact g_callV (As := [.int x4]) (st := []) dX11_feed_44 clX11_102 sh1 rfl rfl (Nat.le_of_ble_eq_true rfl) (rmSH (by decide) (by decide)) h1
theorem bX11_feed_47 {X : pX} {Q : Option Value → pMem → Prop} {m : pMem} {a0 : Nat} {x1 : Int32} {x2 : Int32} {x3 : Int32} {x4 : Int32} {x5 : Int32} (hW : Wf m) (c0 : SH[a0]? = some (.inl 11))
    (h1 : Cl X 0 mX9_add [.ref 1, .int x5] m (fun v m2 => Go X 1 mX11_feed Q 56 [(0, .ref a0), (1, .int x1), (2, .int x2), (3, .int x3), (4, .int x4), (5, .int x5)] (v.toList ++ []) m2)) :
    Go X 1 mX11_feed Q 47 [(0, .ref a0), (1, .int x1), (2, .int x2), (3, .int x3), (4, .int x4), (5, .int x5)] [] m := by
  refine g_aload_n 0 dX11_feed_47 rfl rfl ?_
  refine g_getR dX11_feed_48 fl11_10 rfl c0 (w11_0 hW c0) ?_
  refine g_iload 5 dX11_feed_51 rfl ?_
  exact g_callV (As := [.int x5]) (st := []) dX11_feed_53 clX11_102 sh1 rfl rfl (Nat.le_of_ble_eq_true rfl) (rmSH (by decide) (by decide)) h1
theorem bX11_feed_56 {X : pX} {Q : Option Value → pMem → Prop} {m : pMem} {a0 : Nat} {x1 : Int32} {x2 : Int32} {x3 : Int32} {x4 : Int32} {x5 : Int32} (hW : Wf m) (c0 : SH[a0]? = some (.inl 11))
    (h1 : Q (some (.int (mI m 1 1))) m) :
    Go X 1 mX11_feed Q 56 [(0, .ref a0), (1, .int x1), (2, .int x2), (3, .int x3), (4, .int x4), (5, .int x5)] [] m := by
  refine g_aload_n 0 dX11_feed_56 rfl rfl ?_
  refine g_getR dX11_feed_57 fl11_10 rfl c0 (w11_0 hW c0) ?_
  refine g_getI dX11_feed_60 fl11_106 sh1 ?_
  exact g_iret dX11_feed_63 rfl enSH h1
theorem bX11_end_0 {X : pX} {Q : Option Value → pMem → Prop} {m : pMem} {a0 : Nat} {x1 : Int32} (hW : Wf m) (c0 : SH[a0]? = some (.inl 11))
    (h1 : x1 < 0 → Q (some (.int (-1 : Int32))) m)
    (h2 : ¬ (x1 < 0) → x1 ≤ (mI m 1 1) → Q (some (.int x1)) (uI m 1 1 x1))
    (h3 : ¬ (x1 < 0) → ¬ (x1 ≤ (mI m 1 1)) → Q (some (.int (-1 : Int32))) m) :
    Go X 0 mX11_end Q 0 [(0, .ref a0), (1, .int x1)] [] m := by
  refine g_iload_n 1 dX11_end_0 rfl rfl ?_
  refine g_if_lt 15 dX11_end_1 (by decide) (fun q1 => ?_) (fun q1 => ?_)
  · refine g_iconst (v := -1) dX11_end_15 (by decide) ?_
    exact g_iret dX11_end_16 rfl enSH (h1 q1)
  · refine g_iload_n 1 dX11_end_4 rfl rfl ?_
    refine g_aload_n 0 dX11_end_5 rfl rfl ?_
    refine g_getR dX11_end_6 fl11_10 rfl c0 (w11_0 hW c0) ?_
    refine g_getI dX11_end_9 fl11_106 sh1 ?_
    refine g_icmp_le 17 dX11_end_12 (by decide) (fun q2 => ?_) (fun q2 => ?_)
    · refine g_aload_n 0 dX11_end_17 rfl rfl ?_
      refine g_getR dX11_end_18 fl11_10 rfl c0 (w11_0 hW c0) ?_
      refine g_iload_n 1 dX11_end_21 rfl rfl ?_
      refine g_putI dX11_end_22 fl11_106 (fun h => by cases h) sh1 ?_
      refine g_iload_n 1 dX11_end_25 rfl rfl ?_
      exact g_iret dX11_end_26 rfl enSH (h2 q1 q2)
    · refine g_iconst (v := -1) dX11_end_15 (by decide) ?_
      exact g_iret dX11_end_16 rfl enSH (h3 q1 q2)
theorem bX11_road_0 {X : pX} {Q : Option Value → pMem → Prop} {m : pMem} {a0 : Nat} (hW : Wf m) (c0 : SH[a0]? = some (.inl 11))
    (h1 : Cl X 8 mX5_read [.ref 3] m (fun v m2 => Go X 9 mX11_road Q 7 [(0, .ref a0)] (v.toList ++ []) m2)) :
    Go X 9 mX11_road Q 0 [(0, .ref a0)] [] m := by
  refine g_aload_n 0 dX11_road_0 rfl rfl ?_
  refine g_getR dX11_road_1 fl11_21 rfl c0 (w11_1 hW c0) ?_
  exact g_callV (As := []) (st := []) dX11_road_4 clX11_110 sh3 rfl rfl (Nat.le_of_ble_eq_true rfl) (rmSH (by decide) (by decide)) h1
theorem bX11_road_7 {X : pX} {Q : Option Value → pMem → Prop} {m : pMem} {a0 : Nat} {xs0 : Int32} (hW : Wf m) (c0 : SH[a0]? = some (.inl 11))
    (h1 : ¬ xs0 = 0 → Cl X 2 mX10_begin [.ref 30, .ref 4] (uI m 1 1 (0 : Int32)) (fun v m2 => Go X 9 mX11_road Q 45 [(0, .ref a0), (1, .int xs0)] (v.toList ++ []) m2))
    (h2 : xs0 = 0 → Q (some (.int ((-2 : Int32) - (mI (uI m 1 1 (0 : Int32)) 1 3)))) (uI m 1 1 (0 : Int32))) :
    Go X 9 mX11_road Q 7 [(0, .ref a0)] [.int xs0] m := by
  refine g_istore_n (ls2 := [(1, .int xs0), (0, .ref a0)]) dX11_road_7 rfl (by decide) rfl ?_
  refine g_aload_n 1 dX11_road_8 rfl rfl ?_
  refine g_getR dX11_road_9 fl11_10 rfl c0 (w11_0 hW c0) ?_
  refine g_iconst (v := 0) dX11_road_12 (by decide) ?_
  refine g_putI dX11_road_13 fl11_106 (fun h => by cases h) sh1 ?_
  refine g_iload_n 0 dX11_road_16 rfl rfl ?_
  refine g_if_ne 31 dX11_road_17 (by decide) (fun q1 => ?_) (fun q1 => ?_)
  · refine g_aload_n 1 dX11_road_31 rfl rfl ?_
    refine g_getR dX11_road_32 fl11_42 rfl c0 (w11_5 hW c0) ?_
    refine g_aload_n 1 dX11_road_35 rfl rfl ?_
    refine g_getR dX11_road_36 fl11_21 rfl c0 (w11_1 hW c0) ?_
    refine g_getR dX11_road_39 fl11_117 rfl sh3 (w5_1 hW sh3) ?_
    refine g_ls [1, 0] (ls2 := [(0, .ref a0), (1, .int xs0)]) rfl ?_
    exact g_callV (As := [.ref 4]) (st := []) dX11_road_42 clX11_118 sh30 rfl rfl (Nat.le_of_ble_eq_true rfl) (rmSH (by decide) (by decide)) (h1 q1)
  · refine g_bipush (v := -2) dX11_road_20 (by decide) ?_
    refine g_aload_n 1 dX11_road_22 rfl rfl ?_
    refine g_getR dX11_road_23 fl11_10 rfl c0 (w11_0 hW c0) ?_
    refine g_getI dX11_road_26 fl11_114 sh1 ?_
    refine g_isub dX11_road_29 ?_
    exact g_iret dX11_road_30 rfl enSH (h2 q1)
theorem bX11_road_45 {X : pX} {Q : Option Value → pMem → Prop} {m : pMem} {a0 : Nat} {x1 : Int32} (hW : Wf m) (c0 : SH[a0]? = some (.inl 11))
    (h1 : Q (some (.int (mI m 31 3))) m) :
    Go X 9 mX11_road Q 45 [(0, .ref a0), (1, .int x1)] [] m := by
  refine g_aload_n 0 dX11_road_45 rfl rfl ?_
  refine g_getR dX11_road_46 fl11_42 rfl c0 (w11_5 hW c0) ?_
  refine g_getR dX11_road_49 fl11_56 rfl sh30 (w10_0 hW sh30) ?_
  refine g_getI dX11_road_52 fl11_121 (s10_0 sh30) ?_
  exact g_iret dX11_road_55 rfl enSH h1
theorem bX11_rule_0 {X : pX} {Q : Option Value → pMem → Prop} {m : pMem} {a0 : Nat} (hW : Wf m) (c0 : SH[a0]? = some (.inl 11))
    (h1 : (mI m a0 4) < (6 : Int32) → vp_in (mI m a0 4) 6)
    (h2 : (mI m a0 4) < (6 : Int32) → Cl X 40 mX7_read [.ref 10, .ref (12 + 3 * ((mI m a0 4).toNatClampNeg))] m (fun v m2 => Go X 41 mX11_rule Q 27 [(0, .ref a0)] (v.toList ++ []) m2))
    (h3 : ¬ ((mI m a0 4) < (6 : Int32)) → Q (some (.int (-1 : Int32))) m) :
    Go X 41 mX11_rule Q 0 [(0, .ref a0)] [] m := by
  refine g_aload_n 0 dX11_rule_0 rfl rfl ?_
  refine g_getI dX11_rule_1 fl11_126 c0 ?_
  refine g_bipush (v := 6) dX11_rule_4 (by decide) ?_
  refine g_icmp_lt 11 dX11_rule_6 (by decide) (fun q1 => ?_) (fun q1 => ?_)
  · refine g_aload_n 0 dX11_rule_11 rfl rfl ?_
    refine g_getR dX11_rule_12 fl11_28 rfl c0 (w11_2 hW c0) ?_
    refine g_aload_n 0 dX11_rule_15 rfl rfl ?_
    refine g_getR dX11_rule_16 fl11_34 rfl c0 (w11_3 hW c0) ?_
    refine g_aload_n 0 dX11_rule_19 rfl rfl ?_
    refine g_getI dX11_rule_20 fl11_126 c0 ?_
    refine g_aald dX11_rule_23 sh11 (by decide) (h1 q1) rfl (wRules hW (inN (h1 q1))) ?_
    exact g_callV (As := [.ref (12 + 3 * ((mI m a0 4).toNatClampNeg))]) (st := []) dX11_rule_24 clX11_129 sh10 rfl rfl (Nat.le_of_ble_eq_true rfl) (rmSH (by decide) (by decide)) (h2 q1)
  · refine g_iconst (v := -1) dX11_rule_9 (by decide) ?_
    exact g_iret dX11_rule_10 rfl enSH (h3 q1)
theorem bX11_rule_27 {X : pX} {Q : Option Value → pMem → Prop} {m : pMem} {a0 : Nat} {xs0 : Int32} (hW : Wf m) (c0 : SH[a0]? = some (.inl 11))
    (h1 : ¬ xs0 = 0 → Q (some (.int ((mI (uI (uI m 1 1 (0 : Int32)) a0 4 ((mI (uI m 1 1 (0 : Int32)) a0 4) + (1 : Int32))) a0 4) - (1 : Int32)))) (uI (uI m 1 1 (0 : Int32)) a0 4 ((mI (uI m 1 1 (0 : Int32)) a0 4) + (1 : Int32))))
    (h2 : xs0 = 0 → Q (some (.int ((-2 : Int32) - (mI (uI m 1 1 (0 : Int32)) 1 3)))) (uI m 1 1 (0 : Int32))) :
    Go X 41 mX11_rule Q 27 [(0, .ref a0)] [.int xs0] m := by
  refine g_istore_n (ls2 := [(1, .int xs0), (0, .ref a0)]) dX11_rule_27 rfl (by decide) rfl ?_
  refine g_aload_n 1 dX11_rule_28 rfl rfl ?_
  refine g_getR dX11_rule_29 fl11_10 rfl c0 (w11_0 hW c0) ?_
  refine g_iconst (v := 0) dX11_rule_32 (by decide) ?_
  refine g_putI dX11_rule_33 fl11_106 (fun h => by cases h) sh1 ?_
  refine g_iload_n 0 dX11_rule_36 rfl rfl ?_
  refine g_if_ne 51 dX11_rule_37 (by decide) (fun q1 => ?_) (fun q1 => ?_)
  · refine g_aload_n 1 dX11_rule_51 rfl rfl ?_
    refine g_dup dX11_rule_52 rfl ?_
    refine g_getI dX11_rule_53 fl11_126 c0 ?_
    refine g_iconst (v := 1) dX11_rule_56 (by decide) ?_
    refine g_iadd dX11_rule_57 ?_
    refine g_putI dX11_rule_58 fl11_126 (fun h => by cases h) c0 ?_
    refine g_aload_n 1 dX11_rule_61 rfl rfl ?_
    refine g_getI dX11_rule_62 fl11_126 c0 ?_
    refine g_iconst (v := 1) dX11_rule_65 (by decide) ?_
    refine g_isub dX11_rule_66 ?_
    exact g_iret dX11_rule_67 rfl enSH (h1 q1)
  · refine g_bipush (v := -2) dX11_rule_40 (by decide) ?_
    refine g_aload_n 1 dX11_rule_42 rfl rfl ?_
    refine g_getR dX11_rule_43 fl11_10 rfl c0 (w11_0 hW c0) ?_
    refine g_getI dX11_rule_46 fl11_114 sh1 ?_
    refine g_isub dX11_rule_49 ?_
    exact g_iret dX11_rule_50 rfl enSH (h2 q1)
theorem bX11_force_0 {X : pX} {Q : Option Value → pMem → Prop} {m : pMem} {a0 : Nat} {x1 : Int32} (hW : Wf m) (c0 : SH[a0]? = some (.inl 11))
    (h1 : x1 < (-1 : Int32) → Q (some (.int (-2 : Int32))) m)
    (h2 : ¬ (x1 < (-1 : Int32)) → x1 < (mI m a0 4) → Q (some (.int (mI m 30 3))) (uI m 30 3 x1))
    (h3 : ¬ (x1 < (-1 : Int32)) → ¬ (x1 < (mI m a0 4)) → Q (some (.int (-2 : Int32))) m) :
    Go X 0 mX11_force Q 0 [(0, .ref a0), (1, .int x1)] [] m := by
  refine g_iload_n 1 dX11_force_0 rfl rfl ?_
  refine g_iconst (v := -1) dX11_force_1 (by decide) ?_
  refine g_icmp_lt 13 dX11_force_2 (by decide) (fun q1 => ?_) (fun q1 => ?_)
  · refine g_bipush (v := -2) dX11_force_13 (by decide) ?_
    exact g_iret dX11_force_15 rfl enSH (h1 q1)
  · refine g_iload_n 1 dX11_force_5 rfl rfl ?_
    refine g_aload_n 0 dX11_force_6 rfl rfl ?_
    refine g_getI dX11_force_7 fl11_126 c0 ?_
    refine g_icmp_lt 16 dX11_force_10 (by decide) (fun q2 => ?_) (fun q2 => ?_)
    · refine g_aload_n 0 dX11_force_16 rfl rfl ?_
      refine g_getR dX11_force_17 fl11_42 rfl c0 (w11_5 hW c0) ?_
      refine g_getI dX11_force_20 fl11_132 sh30 ?_
      refine g_istore_n (ls2 := [(2, .int (mI m 30 3)), (0, .ref a0), (1, .int x1)]) dX11_force_23 rfl (by decide) rfl ?_
      refine g_aload_n 1 dX11_force_24 rfl rfl ?_
      refine g_getR dX11_force_25 fl11_42 rfl c0 (w11_5 hW c0) ?_
      refine g_iload_n 2 dX11_force_28 rfl rfl ?_
      refine g_putI dX11_force_29 fl11_132 (fun h => by cases h) sh30 ?_
      refine g_iload_n 0 dX11_force_32 rfl rfl ?_
      exact g_iret dX11_force_33 rfl enSH (h2 q1 q2)
    · refine g_bipush (v := -2) dX11_force_13 (by decide) ?_
      exact g_iret dX11_force_15 rfl enSH (h3 q1 q2)
theorem bX11_person_0 {X : pX} {Q : Option Value → pMem → Prop} {m : pMem} {a0 : Nat} {x1 : Int32} {x2 : Int32} (hW : Wf m) (c0 : SH[a0]? = some (.inl 11))
    (h1 : Cl X 0 mX4_isPerson [.ref 31, .int x1] m (fun v m2 => Go X 2 mX11_person Q 11 [(0, .ref a0), (1, .int x1), (2, .int x2)] (v.toList ++ []) m2)) :
    Go X 2 mX11_person Q 0 [(0, .ref a0), (1, .int x1), (2, .int x2)] [] m := by
  refine g_aload_n 0 dX11_person_0 rfl rfl ?_
  refine g_getR dX11_person_1 fl11_42 rfl c0 (w11_5 hW c0) ?_
  refine g_getR dX11_person_4 fl11_56 rfl sh30 (w10_0 hW sh30) ?_
  refine g_iload_n 1 dX11_person_7 rfl rfl ?_
  exact g_callV (As := [.int x1]) (st := []) dX11_person_8 clX11_135 (s10_0 sh30) rfl rfl (Nat.le_of_ble_eq_true rfl) (rmSH (by decide) (by decide)) h1
theorem bX11_person_11 {X : pX} {Q : Option Value → pMem → Prop} {m : pMem} {a0 : Nat} {x1 : Int32} {x2 : Int32} {xs0 : Int32} (hW : Wf m) (c0 : SH[a0]? = some (.inl 11))
    (h1 : ¬ xs0 = 0 → Cl X 1 mX8_hadBy [.ref 37, .int x1] m (fun v m2 => Go X 2 mX11_person Q 27 [(0, .ref a0), (1, .int x1), (2, .int x2)] (v.toList ++ []) m2))
    (h2 : xs0 = 0 → Q (some (.int (-1 : Int32))) m) :
    Go X 2 mX11_person Q 11 [(0, .ref a0), (1, .int x1), (2, .int x2)] [.int xs0] m := by
  refine g_if_ne 16 dX11_person_11 (by decide) (fun q1 => ?_) (fun q1 => ?_)
  · refine g_aload_n 0 dX11_person_16 rfl rfl ?_
    refine g_getR dX11_person_17 fl11_42 rfl c0 (w11_5 hW c0) ?_
    refine g_getR dX11_person_20 fl11_69 rfl sh30 (w10_1 hW sh30) ?_
    refine g_iload_n 1 dX11_person_23 rfl rfl ?_
    exact g_callV (As := [.int x1]) (st := []) dX11_person_24 clX11_138 (s10_1 sh30) rfl rfl (Nat.le_of_ble_eq_true rfl) (rmSH (by decide) (by decide)) (h1 q1)
  · refine g_iconst (v := -1) dX11_person_14 (by decide) ?_
    exact g_iret dX11_person_15 rfl enSH (h2 q1)
theorem bX11_person_27 {X : pX} {Q : Option Value → pMem → Prop} {m : pMem} {a0 : Nat} {x1 : Int32} {x2 : Int32} {xs0 : Int32} (hW : Wf m) (c0 : SH[a0]? = some (.inl 11))
    (h1 : x2 = 0 → vp_in x1 4)
    (h2 : x2 = 0 → Q (some (.int (mI m 33 x1.toNatClampNeg))) m)
    (h3 : ¬ x2 = 0 → x2 = 1 → vp_in x1 4)
    (h4 : ¬ x2 = 0 → x2 = 1 → Q (some (.int (mI m 38 x1.toNatClampNeg))) m)
    (h5 : ¬ x2 = 0 → ¬ x2 = 1 → x2 = 2 → vp_in x1 4)
    (h6 : ¬ x2 = 0 → ¬ x2 = 1 → x2 = 2 → Q (some (.int (mI m 39 x1.toNatClampNeg))) m)
    (h7 : ¬ x2 = 0 → ¬ x2 = 1 → ¬ x2 = 2 → x2 = 3 → Q (some (.int xs0)) m)
    (h8 : ¬ x2 = 0 → ¬ x2 = 1 → ¬ x2 = 2 → ¬ x2 = 3 → x2 = 4 → Cl X 0 mX4_weightOf [.ref 31, .int xs0] m (fun v m2 => Go X 2 mX11_person Q 120 [(0, .ref a0), (1, .int x1), (2, .int x2), (3, .int xs0)] (v.toList ++ []) m2))
    (h9 : ¬ x2 = 0 → ¬ x2 = 1 → ¬ x2 = 2 → ¬ x2 = 3 → ¬ x2 = 4 → x2 = 5 → Cl X 0 mX4_worthOf [.ref 31, .int xs0] m (fun v m2 => Go X 2 mX11_person Q 132 [(0, .ref a0), (1, .int x1), (2, .int x2), (3, .int xs0)] (v.toList ++ []) m2))
    (h10 : ¬ x2 = 0 → ¬ x2 = 1 → ¬ x2 = 2 → ¬ x2 = 3 → ¬ x2 = 4 → ¬ x2 = 5 → Q (some (.int (-1 : Int32))) m) :
    Go X 2 mX11_person Q 27 [(0, .ref a0), (1, .int x1), (2, .int x2)] [.int xs0] m := by
  refine g_istore_n (ls2 := [(3, .int xs0), (0, .ref a0), (1, .int x1), (2, .int x2)]) dX11_person_27 rfl (by decide) rfl ?_
  refine g_iload_n 3 dX11_person_28 rfl rfl ?_
  by_cases q1 : x2 = 0
  · refine g_tabIn 68 dX11_person_29 (by rw [q1]; decide) (by rw [q1]; decide) (by rw [q1]; rfl) (by decide) ?_
    refine g_aload_n 1 dX11_person_68 rfl rfl ?_
    refine g_getR dX11_person_69 fl11_42 rfl c0 (w11_5 hW c0) ?_
    refine g_getR dX11_person_72 fl11_56 rfl sh30 (w10_0 hW sh30) ?_
    refine g_getR dX11_person_75 fl11_142 rfl (s10_0 sh30) (w4_6 hW (s10_0 sh30)) ?_
    refine g_iload_n 2 dX11_person_78 rfl rfl ?_
    refine g_iald (j := x1.toNatClampNeg) dX11_person_79 (s4_6 (s10_0 sh30)) (h1 q1) rfl ?_
    exact g_iret dX11_person_80 rfl enSH (h2 q1)
  by_cases q2 : x2 = 1
  · refine g_tabIn 81 dX11_person_29 (by rw [q2]; decide) (by rw [q2]; decide) (by rw [q2]; rfl) (by decide) ?_
    refine g_aload_n 1 dX11_person_81 rfl rfl ?_
    refine g_getR dX11_person_82 fl11_42 rfl c0 (w11_5 hW c0) ?_
    refine g_getR dX11_person_85 fl11_69 rfl sh30 (w10_1 hW sh30) ?_
    refine g_getR dX11_person_88 fl11_146 rfl (s10_1 sh30) (w8_1 hW (s10_1 sh30)) ?_
    refine g_iload_n 2 dX11_person_91 rfl rfl ?_
    refine g_iald (j := x1.toNatClampNeg) dX11_person_92 (s8_1 (s10_1 sh30)) (h3 q1 q2) rfl ?_
    exact g_iret dX11_person_93 rfl enSH (h4 q1 q2)
  by_cases q3 : x2 = 2
  · refine g_tabIn 94 dX11_person_29 (by rw [q3]; decide) (by rw [q3]; decide) (by rw [q3]; rfl) (by decide) ?_
    refine g_aload_n 1 dX11_person_94 rfl rfl ?_
    refine g_getR dX11_person_95 fl11_42 rfl c0 (w11_5 hW c0) ?_
    refine g_getR dX11_person_98 fl11_69 rfl sh30 (w10_1 hW sh30) ?_
    refine g_getR dX11_person_101 fl11_149 rfl (s10_1 sh30) (w8_2 hW (s10_1 sh30)) ?_
    refine g_iload_n 2 dX11_person_104 rfl rfl ?_
    refine g_iald (j := x1.toNatClampNeg) dX11_person_105 (s8_2 (s10_1 sh30)) (h5 q1 q2 q3) rfl ?_
    exact g_iret dX11_person_106 rfl enSH (h6 q1 q2 q3)
  by_cases q4 : x2 = 3
  · refine g_tabIn 107 dX11_person_29 (by rw [q4]; decide) (by rw [q4]; decide) (by rw [q4]; rfl) (by decide) ?_
    refine g_iload_n 0 dX11_person_107 rfl rfl ?_
    exact g_iret dX11_person_108 rfl enSH (h7 q1 q2 q3 q4)
  by_cases q5 : x2 = 4
  · refine g_tabIn 109 dX11_person_29 (by rw [q5]; decide) (by rw [q5]; decide) (by rw [q5]; rfl) (by decide) ?_
    refine g_aload_n 1 dX11_person_109 rfl rfl ?_
    refine g_getR dX11_person_110 fl11_42 rfl c0 (w11_5 hW c0) ?_
    refine g_getR dX11_person_113 fl11_56 rfl sh30 (w10_0 hW sh30) ?_
    refine g_iload_n 0 dX11_person_116 rfl rfl ?_
    refine g_ls [1, 2, 3, 0] (ls2 := [(0, .ref a0), (1, .int x1), (2, .int x2), (3, .int xs0)]) rfl ?_
    exact g_callV (As := [.int xs0]) (st := []) dX11_person_117 clX11_152 (s10_0 sh30) rfl rfl (Nat.le_of_ble_eq_true rfl) (rmSH (by decide) (by decide)) (h8 q1 q2 q3 q4 q5)
  by_cases q6 : x2 = 5
  · refine g_tabIn 121 dX11_person_29 (by rw [q6]; decide) (by rw [q6]; decide) (by rw [q6]; rfl) (by decide) ?_
    refine g_aload_n 1 dX11_person_121 rfl rfl ?_
    refine g_getR dX11_person_122 fl11_42 rfl c0 (w11_5 hW c0) ?_
    refine g_getR dX11_person_125 fl11_56 rfl sh30 (w10_0 hW sh30) ?_
    refine g_iload_n 0 dX11_person_128 rfl rfl ?_
    refine g_ls [1, 2, 3, 0] (ls2 := [(0, .ref a0), (1, .int x1), (2, .int x2), (3, .int xs0)]) rfl ?_
    exact g_callV (As := [.int xs0]) (st := []) dX11_person_129 clX11_155 (s10_0 sh30) rfl rfl (Nat.le_of_ble_eq_true rfl) (rmSH (by decide) (by decide)) (h9 q1 q2 q3 q4 q5 q6)
  refine g_tabOut 133 dX11_person_29 (p_tabD (fun k hk1 hk2 => ?_)) (by decide) ?_
  · have hk : k = 0 ∨ k = 1 ∨ k = 2 ∨ k = 3 ∨ k = 4 ∨ k = 5 := by omega
    rcases hk with rfl | rfl | rfl | rfl | rfl | rfl
    · exact q1
    · exact q2
    · exact q3
    · exact q4
    · exact q5
    · exact q6
  refine g_iconst (v := -1) dX11_person_133 (by decide) ?_
  exact g_iret dX11_person_134 rfl enSH (h10 q1 q2 q3 q4 q5 q6)
theorem bX11_person_120 {X : pX} {Q : Option Value → pMem → Prop} {m : pMem} {a0 : Nat} {x1 : Int32} {x2 : Int32} {x3 : Int32} {xs0 : Int32} (hW : Wf m) (c0 : SH[a0]? = some (.inl 11))
    (h1 : Q (some (.int xs0)) m) :
    Go X 2 mX11_person Q 120 [(0, .ref a0), (1, .int x1), (2, .int x2), (3, .int x3)] [.int xs0] m := by
  exact g_iret dX11_person_120 rfl enSH h1
theorem bX11_person_132 {X : pX} {Q : Option Value → pMem → Prop} {m : pMem} {a0 : Nat} {x1 : Int32} {x2 : Int32} {x3 : Int32} {xs0 : Int32} (hW : Wf m) (c0 : SH[a0]? = some (.inl 11))
    (h1 : Q (some (.int xs0)) m) :
    Go X 2 mX11_person Q 132 [(0, .ref a0), (1, .int x1), (2, .int x2), (3, .int x3)] [.int xs0] m := by
  exact g_iret dX11_person_132 rfl enSH h1
theorem bX11_thing_0 {X : pX} {Q : Option Value → pMem → Prop} {m : pMem} {a0 : Nat} {x1 : Int32} {x2 : Int32} (hW : Wf m) (c0 : SH[a0]? = some (.inl 11))
    (h1 : Cl X 0 mX4_isThing [.ref 31, .int x1] m (fun v m2 => Go X 1 mX11_thing Q 11 [(0, .ref a0), (1, .int x1), (2, .int x2)] (v.toList ++ []) m2)) :
    Go X 1 mX11_thing Q 0 [(0, .ref a0), (1, .int x1), (2, .int x2)] [] m := by
  refine g_aload_n 0 dX11_thing_0 rfl rfl ?_
  refine g_getR dX11_thing_1 fl11_42 rfl c0 (w11_5 hW c0) ?_
  refine g_getR dX11_thing_4 fl11_56 rfl sh30 (w10_0 hW sh30) ?_
  refine g_iload_n 1 dX11_thing_7 rfl rfl ?_
  exact g_callV (As := [.int x1]) (st := []) dX11_thing_8 clX11_158 (s10_0 sh30) rfl rfl (Nat.le_of_ble_eq_true rfl) (rmSH (by decide) (by decide)) h1
theorem bX11_thing_11 {X : pX} {Q : Option Value → pMem → Prop} {m : pMem} {a0 : Nat} {x1 : Int32} {x2 : Int32} {xs0 : Int32} (hW : Wf m) (c0 : SH[a0]? = some (.inl 11))
    (h1 : ¬ xs0 = 0 → x2 = 0 → vp_in x1 6)
    (h2 : ¬ xs0 = 0 → x2 = 0 → Q (some (.int (mI m 34 x1.toNatClampNeg))) m)
    (h3 : ¬ xs0 = 0 → ¬ x2 = 0 → x2 = 1 → vp_in x1 6)
    (h4 : ¬ xs0 = 0 → ¬ x2 = 0 → x2 = 1 → Q (some (.int (mI m 35 x1.toNatClampNeg))) m)
    (h5 : ¬ xs0 = 0 → ¬ x2 = 0 → ¬ x2 = 1 → x2 = 2 → vp_in x1 6)
    (h6 : ¬ xs0 = 0 → ¬ x2 = 0 → ¬ x2 = 1 → x2 = 2 → Q (some (.int (mI m 40 x1.toNatClampNeg))) m)
    (h7 : ¬ xs0 = 0 → ¬ x2 = 0 → ¬ x2 = 1 → ¬ x2 = 2 → Q (some (.int (-2 : Int32))) m)
    (h8 : xs0 = 0 → Q (some (.int (-2 : Int32))) m) :
    Go X 1 mX11_thing Q 11 [(0, .ref a0), (1, .int x1), (2, .int x2)] [.int xs0] m := by
  refine g_if_ne 17 dX11_thing_11 (by decide) (fun q1 => ?_) (fun q1 => ?_)
  · refine g_iload_n 2 dX11_thing_17 rfl rfl ?_
    by_cases q2 : x2 = 0
    · refine g_tabIn 44 dX11_thing_18 (by rw [q2]; decide) (by rw [q2]; decide) (by rw [q2]; rfl) (by decide) ?_
      refine g_aload_n 0 dX11_thing_44 rfl rfl ?_
      refine g_getR dX11_thing_45 fl11_42 rfl c0 (w11_5 hW c0) ?_
      refine g_getR dX11_thing_48 fl11_56 rfl sh30 (w10_0 hW sh30) ?_
      refine g_getR dX11_thing_51 fl11_161 rfl (s10_0 sh30) (w4_7 hW (s10_0 sh30)) ?_
      refine g_iload_n 1 dX11_thing_54 rfl rfl ?_
      refine g_iald (j := x1.toNatClampNeg) dX11_thing_55 (s4_7 (s10_0 sh30)) (h1 q1 q2) rfl ?_
      exact g_iret dX11_thing_56 rfl enSH (h2 q1 q2)
    by_cases q3 : x2 = 1
    · refine g_tabIn 57 dX11_thing_18 (by rw [q3]; decide) (by rw [q3]; decide) (by rw [q3]; rfl) (by decide) ?_
      refine g_aload_n 0 dX11_thing_57 rfl rfl ?_
      refine g_getR dX11_thing_58 fl11_42 rfl c0 (w11_5 hW c0) ?_
      refine g_getR dX11_thing_61 fl11_56 rfl sh30 (w10_0 hW sh30) ?_
      refine g_getR dX11_thing_64 fl11_164 rfl (s10_0 sh30) (w4_8 hW (s10_0 sh30)) ?_
      refine g_iload_n 1 dX11_thing_67 rfl rfl ?_
      refine g_iald (j := x1.toNatClampNeg) dX11_thing_68 (s4_8 (s10_0 sh30)) (h3 q1 q2 q3) rfl ?_
      exact g_iret dX11_thing_69 rfl enSH (h4 q1 q2 q3)
    by_cases q4 : x2 = 2
    · refine g_tabIn 70 dX11_thing_18 (by rw [q4]; decide) (by rw [q4]; decide) (by rw [q4]; rfl) (by decide) ?_
      refine g_aload_n 0 dX11_thing_70 rfl rfl ?_
      refine g_getR dX11_thing_71 fl11_42 rfl c0 (w11_5 hW c0) ?_
      refine g_getR dX11_thing_74 fl11_69 rfl sh30 (w10_1 hW sh30) ?_
      refine g_getR dX11_thing_77 fl11_167 rfl (s10_1 sh30) (w8_3 hW (s10_1 sh30)) ?_
      refine g_iload_n 1 dX11_thing_80 rfl rfl ?_
      refine g_iald (j := x1.toNatClampNeg) dX11_thing_81 (s8_3 (s10_1 sh30)) (h5 q1 q2 q3 q4) rfl ?_
      exact g_iret dX11_thing_82 rfl enSH (h6 q1 q2 q3 q4)
    refine g_tabOut 83 dX11_thing_18 (p_tabD (fun k hk1 hk2 => ?_)) (by decide) ?_
    · have hk : k = 0 ∨ k = 1 ∨ k = 2 := by omega
      rcases hk with rfl | rfl | rfl
      · exact q2
      · exact q3
      · exact q4
    refine g_bipush (v := -2) dX11_thing_83 (by decide) ?_
    exact g_iret dX11_thing_85 rfl enSH (h7 q1 q2 q3 q4)
  · refine g_bipush (v := -2) dX11_thing_14 (by decide) ?_
    exact g_iret dX11_thing_16 rfl enSH (h8 q1)
theorem bX11_stage_0 {X : pX} {Q : Option Value → pMem → Prop} {m : pMem} {a0 : Nat} {x1 : Int32} (hW : Wf m) (c0 : SH[a0]? = some (.inl 11))
    (h1 : Cl X 0 mX4_isStage [.ref 31, .int x1] m (fun v m2 => Go X 1 mX11_stage Q 11 [(0, .ref a0), (1, .int x1)] (v.toList ++ []) m2)) :
    Go X 1 mX11_stage Q 0 [(0, .ref a0), (1, .int x1)] [] m := by
  refine g_aload_n 0 dX11_stage_0 rfl rfl ?_
  refine g_getR dX11_stage_1 fl11_42 rfl c0 (w11_5 hW c0) ?_
  refine g_getR dX11_stage_4 fl11_56 rfl sh30 (w10_0 hW sh30) ?_
  refine g_iload_n 1 dX11_stage_7 rfl rfl ?_
  exact g_callV (As := [.int x1]) (st := []) dX11_stage_8 clX11_170 (s10_0 sh30) rfl rfl (Nat.le_of_ble_eq_true rfl) (rmSH (by decide) (by decide)) h1
theorem bX11_stage_11 {X : pX} {Q : Option Value → pMem → Prop} {m : pMem} {a0 : Nat} {x1 : Int32} {xs0 : Int32} (hW : Wf m) (c0 : SH[a0]? = some (.inl 11))
    (h1 : xs0 = 0 → Q (some (.int (-1 : Int32))) m)
    (h2 : ¬ (xs0 = 0) → vp_in x1 8)
    (h3 : ¬ (xs0 = 0) → Q (some (.int (mI m 32 x1.toNatClampNeg))) m) :
    Go X 1 mX11_stage Q 11 [(0, .ref a0), (1, .int x1)] [.int xs0] m := by
  refine g_if_eq 29 dX11_stage_11 (by decide) (fun q1 => ?_) (fun q1 => ?_)
  · refine g_iconst (v := -1) dX11_stage_29 (by decide) ?_
    exact g_iret dX11_stage_30 rfl enSH (h1 q1)
  · refine g_aload_n 0 dX11_stage_14 rfl rfl ?_
    refine g_getR dX11_stage_15 fl11_42 rfl c0 (w11_5 hW c0) ?_
    refine g_getR dX11_stage_18 fl11_56 rfl sh30 (w10_0 hW sh30) ?_
    refine g_getR dX11_stage_21 fl11_173 rfl (s10_0 sh30) (w4_5 hW (s10_0 sh30)) ?_
    refine g_iload_n 1 dX11_stage_24 rfl rfl ?_
    refine g_iald (j := x1.toNatClampNeg) dX11_stage_25 (s4_5 (s10_0 sh30)) (h2 q1) rfl ?_
    refine g_goto 30 dX11_stage_26 (by decide) ?_
    exact g_iret dX11_stage_30 rfl enSH (h3 q1)
theorem bX11_count_0 {X : pX} {Q : Option Value → pMem → Prop} {m : pMem} {a0 : Nat} {x1 : Int32} (hW : Wf m) (c0 : SH[a0]? = some (.inl 11))
    (h1 : x1 = 0 → Q (some (.int (mI m 31 1))) m)
    (h2 : ¬ x1 = 0 → x1 = 1 → Q (some (.int (mI m 31 2))) m)
    (h3 : ¬ x1 = 0 → ¬ x1 = 1 → x1 = 2 → Q (some (.int (mI m 31 3))) m)
    (h4 : ¬ x1 = 0 → ¬ x1 = 1 → ¬ x1 = 2 → x1 = 3 → Q (some (.int (mI m 31 4))) m)
    (h5 : ¬ x1 = 0 → ¬ x1 = 1 → ¬ x1 = 2 → ¬ x1 = 3 → x1 = 4 → Q (some (.int (mI m a0 4))) m)
    (h6 : ¬ x1 = 0 → ¬ x1 = 1 → ¬ x1 = 2 → ¬ x1 = 3 → ¬ x1 = 4 → x1 = 5 → Q (some (.int (mI m 30 3))) m)
    (h7 : ¬ x1 = 0 → ¬ x1 = 1 → ¬ x1 = 2 → ¬ x1 = 3 → ¬ x1 = 4 → ¬ x1 = 5 → x1 = 6 → Q (some (.int (mI m 37 0))) m)
    (h8 : ¬ x1 = 0 → ¬ x1 = 1 → ¬ x1 = 2 → ¬ x1 = 3 → ¬ x1 = 4 → ¬ x1 = 5 → ¬ x1 = 6 → x1 = 7 → Cl X 0 mX0_peopleInTown [.ref 512, .ref 37] m (fun v m2 => Go X 3 mX11_count Q 154 [(0, .ref a0), (1, .int x1)] (v.toList ++ []) m2))
    (h9 : ¬ x1 = 0 → ¬ x1 = 1 → ¬ x1 = 2 → ¬ x1 = 3 → ¬ x1 = 4 → ¬ x1 = 5 → ¬ x1 = 6 → ¬ x1 = 7 → x1 = 8 → Cl X 2 mX0_worthInTown [.ref 512, .ref 37] m (fun v m2 => Go X 3 mX11_count Q 169 [(0, .ref a0), (1, .int x1)] (v.toList ++ []) m2))
    (h10 : ¬ x1 = 0 → ¬ x1 = 1 → ¬ x1 = 2 → ¬ x1 = 3 → ¬ x1 = 4 → ¬ x1 = 5 → ¬ x1 = 6 → ¬ x1 = 7 → ¬ x1 = 8 → x1 = 9 → Cl X 0 mX4_allThings [.ref 31] m (fun v m2 => Go X 3 mX11_count Q 180 [(0, .ref a0), (1, .int x1)] (v.toList ++ []) m2))
    (h11 : ¬ x1 = 0 → ¬ x1 = 1 → ¬ x1 = 2 → ¬ x1 = 3 → ¬ x1 = 4 → ¬ x1 = 5 → ¬ x1 = 6 → ¬ x1 = 7 → ¬ x1 = 8 → ¬ x1 = 9 → x1 = 10 → Q (some (.int (mI m 30 5))) m)
    (h12 : ¬ x1 = 0 → ¬ x1 = 1 → ¬ x1 = 2 → ¬ x1 = 3 → ¬ x1 = 4 → ¬ x1 = 5 → ¬ x1 = 6 → ¬ x1 = 7 → ¬ x1 = 8 → ¬ x1 = 9 → ¬ x1 = 10 → x1 = 11 → Q (some (.int (mI m 41 2))) m)
    (h13 : ¬ x1 = 0 → ¬ x1 = 1 → ¬ x1 = 2 → ¬ x1 = 3 → ¬ x1 = 4 → ¬ x1 = 5 → ¬ x1 = 6 → ¬ x1 = 7 → ¬ x1 = 8 → ¬ x1 = 9 → ¬ x1 = 10 → ¬ x1 = 11 → x1 = 12 → Q (some (.int (mI m 30 4))) m)
    (h14 : ¬ x1 = 0 → ¬ x1 = 1 → ¬ x1 = 2 → ¬ x1 = 3 → ¬ x1 = 4 → ¬ x1 = 5 → ¬ x1 = 6 → ¬ x1 = 7 → ¬ x1 = 8 → ¬ x1 = 9 → ¬ x1 = 10 → ¬ x1 = 11 → ¬ x1 = 12 → x1 = 13 → Q (some (.int (mI m 1 1))) m)
    (h15 : ¬ x1 = 0 → ¬ x1 = 1 → ¬ x1 = 2 → ¬ x1 = 3 → ¬ x1 = 4 → ¬ x1 = 5 → ¬ x1 = 6 → ¬ x1 = 7 → ¬ x1 = 8 → ¬ x1 = 9 → ¬ x1 = 10 → ¬ x1 = 11 → ¬ x1 = 12 → ¬ x1 = 13 → Q (some (.int (-1 : Int32))) m) :
    Go X 3 mX11_count Q 0 [(0, .ref a0), (1, .int x1)] [] m := by
  refine g_iload_n 1 dX11_count_0 rfl rfl ?_
  by_cases q1 : x1 = 0
  · refine g_tabIn 72 dX11_count_1 (by rw [q1]; decide) (by rw [q1]; decide) (by rw [q1]; rfl) (by decide) ?_
    refine g_aload_n 0 dX11_count_72 rfl rfl ?_
    refine g_getR dX11_count_73 fl11_42 rfl c0 (w11_5 hW c0) ?_
    refine g_getR dX11_count_76 fl11_56 rfl sh30 (w10_0 hW sh30) ?_
    refine g_getI dX11_count_79 fl11_176 (s10_0 sh30) ?_
    exact g_iret dX11_count_82 rfl enSH (h1 q1)
  by_cases q2 : x1 = 1
  · refine g_tabIn 83 dX11_count_1 (by rw [q2]; decide) (by rw [q2]; decide) (by rw [q2]; rfl) (by decide) ?_
    refine g_aload_n 0 dX11_count_83 rfl rfl ?_
    refine g_getR dX11_count_84 fl11_42 rfl c0 (w11_5 hW c0) ?_
    refine g_getR dX11_count_87 fl11_56 rfl sh30 (w10_0 hW sh30) ?_
    refine g_getI dX11_count_90 fl11_179 (s10_0 sh30) ?_
    exact g_iret dX11_count_93 rfl enSH (h2 q1 q2)
  by_cases q3 : x1 = 2
  · refine g_tabIn 94 dX11_count_1 (by rw [q3]; decide) (by rw [q3]; decide) (by rw [q3]; rfl) (by decide) ?_
    refine g_aload_n 0 dX11_count_94 rfl rfl ?_
    refine g_getR dX11_count_95 fl11_42 rfl c0 (w11_5 hW c0) ?_
    refine g_getR dX11_count_98 fl11_56 rfl sh30 (w10_0 hW sh30) ?_
    refine g_getI dX11_count_101 fl11_121 (s10_0 sh30) ?_
    exact g_iret dX11_count_104 rfl enSH (h3 q1 q2 q3)
  by_cases q4 : x1 = 3
  · refine g_tabIn 105 dX11_count_1 (by rw [q4]; decide) (by rw [q4]; decide) (by rw [q4]; rfl) (by decide) ?_
    refine g_aload_n 0 dX11_count_105 rfl rfl ?_
    refine g_getR dX11_count_106 fl11_42 rfl c0 (w11_5 hW c0) ?_
    refine g_getR dX11_count_109 fl11_56 rfl sh30 (w10_0 hW sh30) ?_
    refine g_getI dX11_count_112 fl11_182 (s10_0 sh30) ?_
    exact g_iret dX11_count_115 rfl enSH (h4 q1 q2 q3 q4)
  by_cases q5 : x1 = 4
  · refine g_tabIn 116 dX11_count_1 (by rw [q5]; decide) (by rw [q5]; decide) (by rw [q5]; rfl) (by decide) ?_
    refine g_aload_n 0 dX11_count_116 rfl rfl ?_
    refine g_getI dX11_count_117 fl11_126 c0 ?_
    exact g_iret dX11_count_120 rfl enSH (h5 q1 q2 q3 q4 q5)
  by_cases q6 : x1 = 5
  · refine g_tabIn 121 dX11_count_1 (by rw [q6]; decide) (by rw [q6]; decide) (by rw [q6]; rfl) (by decide) ?_
    refine g_aload_n 0 dX11_count_121 rfl rfl ?_
    refine g_getR dX11_count_122 fl11_42 rfl c0 (w11_5 hW c0) ?_
    refine g_getI dX11_count_125 fl11_132 sh30 ?_
    exact g_iret dX11_count_128 rfl enSH (h6 q1 q2 q3 q4 q5 q6)
  by_cases q7 : x1 = 6
  · refine g_tabIn 129 dX11_count_1 (by rw [q7]; decide) (by rw [q7]; decide) (by rw [q7]; rfl) (by decide) ?_
    refine g_aload_n 0 dX11_count_129 rfl rfl ?_
    refine g_getR dX11_count_130 fl11_42 rfl c0 (w11_5 hW c0) ?_
    refine g_getR dX11_count_133 fl11_69 rfl sh30 (w10_1 hW sh30) ?_
    refine g_getI dX11_count_136 fl11_185 (s10_1 sh30) ?_
    exact g_iret dX11_count_139 rfl enSH (h7 q1 q2 q3 q4 q5 q6 q7)
  by_cases q8 : x1 = 7
  · refine g_tabIn 140 dX11_count_1 (by rw [q8]; decide) (by rw [q8]; decide) (by rw [q8]; rfl) (by decide) ?_
    refine g_aload_n 0 dX11_count_140 rfl rfl ?_
    refine g_getR dX11_count_141 fl11_63 rfl c0 (w11_8 hW c0) ?_
    refine g_aload_n 0 dX11_count_144 rfl rfl ?_
    refine g_getR dX11_count_145 fl11_42 rfl c0 (w11_5 hW c0) ?_
    refine g_getR dX11_count_148 fl11_69 rfl sh30 (w10_1 hW sh30) ?_
    exact g_callV (As := [.ref 37]) (st := []) dX11_count_151 clX11_188 sh512 rfl rfl (Nat.le_of_ble_eq_true rfl) (rmSH (by decide) (by decide)) (h8 q1 q2 q3 q4 q5 q6 q7 q8)
  by_cases q9 : x1 = 8
  · refine g_tabIn 155 dX11_count_1 (by rw [q9]; decide) (by rw [q9]; decide) (by rw [q9]; rfl) (by decide) ?_
    refine g_aload_n 0 dX11_count_155 rfl rfl ?_
    refine g_getR dX11_count_156 fl11_63 rfl c0 (w11_8 hW c0) ?_
    refine g_aload_n 0 dX11_count_159 rfl rfl ?_
    refine g_getR dX11_count_160 fl11_42 rfl c0 (w11_5 hW c0) ?_
    refine g_getR dX11_count_163 fl11_69 rfl sh30 (w10_1 hW sh30) ?_
    exact g_callV (As := [.ref 37]) (st := []) dX11_count_166 clX11_192 sh512 rfl rfl (Nat.le_of_ble_eq_true rfl) (rmSH (by decide) (by decide)) (h9 q1 q2 q3 q4 q5 q6 q7 q8 q9)
  by_cases q10 : x1 = 9
  · refine g_tabIn 170 dX11_count_1 (by rw [q10]; decide) (by rw [q10]; decide) (by rw [q10]; rfl) (by decide) ?_
    refine g_aload_n 0 dX11_count_170 rfl rfl ?_
    refine g_getR dX11_count_171 fl11_42 rfl c0 (w11_5 hW c0) ?_
    refine g_getR dX11_count_174 fl11_56 rfl sh30 (w10_0 hW sh30) ?_
    exact g_callV (As := []) (st := []) dX11_count_177 clX11_195 (s10_0 sh30) rfl rfl (Nat.le_of_ble_eq_true rfl) (rmSH (by decide) (by decide)) (h10 q1 q2 q3 q4 q5 q6 q7 q8 q9 q10)
  by_cases q11 : x1 = 10
  · refine g_tabIn 193 dX11_count_1 (by rw [q11]; decide) (by rw [q11]; decide) (by rw [q11]; rfl) (by decide) ?_
    refine g_aload_n 0 dX11_count_193 rfl rfl ?_
    refine g_getR dX11_count_194 fl11_42 rfl c0 (w11_5 hW c0) ?_
    refine g_getI dX11_count_197 fl11_202 sh30 ?_
    exact g_iret dX11_count_200 rfl enSH (h11 q1 q2 q3 q4 q5 q6 q7 q8 q9 q10 q11)
  by_cases q12 : x1 = 11
  · refine g_tabIn 201 dX11_count_1 (by rw [q12]; decide) (by rw [q12]; decide) (by rw [q12]; rfl) (by decide) ?_
    refine g_aload_n 0 dX11_count_201 rfl rfl ?_
    refine g_getR dX11_count_202 fl11_42 rfl c0 (w11_5 hW c0) ?_
    refine g_getR dX11_count_205 fl11_205 rfl sh30 (w10_2 hW sh30) ?_
    refine g_getI dX11_count_208 fl11_209 (s10_2 sh30) ?_
    exact g_iret dX11_count_211 rfl enSH (h12 q1 q2 q3 q4 q5 q6 q7 q8 q9 q10 q11 q12)
  by_cases q13 : x1 = 12
  · refine g_tabIn 212 dX11_count_1 (by rw [q13]; decide) (by rw [q13]; decide) (by rw [q13]; rfl) (by decide) ?_
    refine g_aload_n 0 dX11_count_212 rfl rfl ?_
    refine g_getR dX11_count_213 fl11_42 rfl c0 (w11_5 hW c0) ?_
    refine g_getI dX11_count_216 fl11_214 sh30 ?_
    exact g_iret dX11_count_219 rfl enSH (h13 q1 q2 q3 q4 q5 q6 q7 q8 q9 q10 q11 q12 q13)
  by_cases q14 : x1 = 13
  · refine g_tabIn 220 dX11_count_1 (by rw [q14]; decide) (by rw [q14]; decide) (by rw [q14]; rfl) (by decide) ?_
    refine g_aload_n 0 dX11_count_220 rfl rfl ?_
    refine g_getR dX11_count_221 fl11_10 rfl c0 (w11_0 hW c0) ?_
    refine g_getI dX11_count_224 fl11_106 sh1 ?_
    exact g_iret dX11_count_227 rfl enSH (h14 q1 q2 q3 q4 q5 q6 q7 q8 q9 q10 q11 q12 q13 q14)
  refine g_tabOut 228 dX11_count_1 (p_tabD (fun k hk1 hk2 => ?_)) (by decide) ?_
  · have hk : k = 0 ∨ k = 1 ∨ k = 2 ∨ k = 3 ∨ k = 4 ∨ k = 5 ∨ k = 6 ∨ k = 7 ∨ k = 8 ∨ k = 9 ∨ k = 10 ∨ k = 11 ∨ k = 12 ∨ k = 13 := by omega
    rcases hk with rfl | rfl | rfl | rfl | rfl | rfl | rfl | rfl | rfl | rfl | rfl | rfl | rfl | rfl
    · exact q1
    · exact q2
    · exact q3
    · exact q4
    · exact q5
    · exact q6
    · exact q7
    · exact q8
    · exact q9
    · exact q10
    · exact q11
    · exact q12
    · exact q13
    · exact q14
  refine g_iconst (v := -1) dX11_count_228 (by decide) ?_
  exact g_iret dX11_count_229 rfl enSH (h15 q1 q2 q3 q4 q5 q6 q7 q8 q9 q10 q11 q12 q13 q14)
theorem bX11_count_154 {X : pX} {Q : Option Value → pMem → Prop} {m : pMem} {a0 : Nat} {x1 : Int32} {xs0 : Int32} (hW : Wf m) (c0 : SH[a0]? = some (.inl 11))
    (h1 : Q (some (.int xs0)) m) :
    Go X 3 mX11_count Q 154 [(0, .ref a0), (1, .int x1)] [.int xs0] m := by
  exact g_iret dX11_count_154 rfl enSH h1
theorem bX11_count_169 {X : pX} {Q : Option Value → pMem → Prop} {m : pMem} {a0 : Nat} {x1 : Int32} {xs0 : Int32} (hW : Wf m) (c0 : SH[a0]? = some (.inl 11))
    (h1 : Q (some (.int xs0)) m) :
    Go X 3 mX11_count Q 169 [(0, .ref a0), (1, .int x1)] [.int xs0] m := by
  exact g_iret dX11_count_169 rfl enSH h1
theorem bX11_count_180 {X : pX} {Q : Option Value → pMem → Prop} {m : pMem} {a0 : Nat} {x1 : Int32} {xs0 : Int32} (hW : Wf m) (c0 : SH[a0]? = some (.inl 11))
    (h1 : Cl X 0 mX8_thingsAt [.ref 37, .int (-1 : Int32)] m (fun v m2 => Go X 3 mX11_count Q 191 [(0, .ref a0), (1, .int x1)] (v.toList ++ [.int xs0]) m2)) :
    Go X 3 mX11_count Q 180 [(0, .ref a0), (1, .int x1)] [.int xs0] m := by
  refine g_aload_n 0 dX11_count_180 rfl rfl ?_
  refine g_getR dX11_count_181 fl11_42 rfl c0 (w11_5 hW c0) ?_
  refine g_getR dX11_count_184 fl11_69 rfl sh30 (w10_1 hW sh30) ?_
  refine g_iconst (v := -1) dX11_count_187 (by decide) ?_
  exact g_callV (As := [.int (-1 : Int32)]) (st := [.int xs0]) dX11_count_188 clX11_199 (s10_1 sh30) rfl rfl (Nat.le_of_ble_eq_true rfl) (rmSH (by decide) (by decide)) h1
theorem bX11_count_191 {X : pX} {Q : Option Value → pMem → Prop} {m : pMem} {a0 : Nat} {x1 : Int32} {xs0 : Int32} {xs1 : Int32} (hW : Wf m) (c0 : SH[a0]? = some (.inl 11))
    (h1 : Q (some (.int (xs1 &&& xs0))) m) :
    Go X 3 mX11_count Q 191 [(0, .ref a0), (1, .int x1)] [.int xs0, .int xs1] m := by
  refine g_iand dX11_count_191 ?_
  exact g_iret dX11_count_192 rfl enSH h1
theorem bX11_day_0 {X : pX} {Q : Option Value → pMem → Prop} {m : pMem} {a0 : Nat} (hW : Wf m) (c0 : SH[a0]? = some (.inl 11))
    (h1 : (mI m 31 0) = 0 → Q (some (.int (-1 : Int32))) m)
    (h2 : ¬ ((mI m 31 0) = 0) → (mI m 37 0) < (999 : Int32) → Cl X 2 mX2_keep [.ref 41, .ref 37] m (fun v m2 => Go X 5 mX11_day Q 48 [(0, .ref a0)] (v.toList ++ []) m2))
    (h3 : ¬ ((mI m 31 0) = 0) → ¬ ((mI m 37 0) < (999 : Int32)) → Q (some (.int (-1 : Int32))) m) :
    Go X 5 mX11_day Q 0 [(0, .ref a0)] [] m := by
  refine g_aload_n 0 dX11_day_0 rfl rfl ?_
  refine g_getR dX11_day_1 fl11_42 rfl c0 (w11_5 hW c0) ?_
  refine g_getR dX11_day_4 fl11_56 rfl sh30 (w10_0 hW sh30) ?_
  refine g_getZ dX11_day_7 fl11_217 (s10_0 sh30) ?_
  refine g_if_eq 29 dX11_day_10 (by decide) (fun q1 => ?_) (fun q1 => ?_)
  · refine g_iconst (v := -1) dX11_day_29 (by decide) ?_
    exact g_iret dX11_day_30 rfl enSH (h1 q1)
  · refine g_aload_n 0 dX11_day_13 rfl rfl ?_
    refine g_getR dX11_day_14 fl11_42 rfl c0 (w11_5 hW c0) ?_
    refine g_getR dX11_day_17 fl11_69 rfl sh30 (w10_1 hW sh30) ?_
    refine g_getI dX11_day_20 fl11_185 (s10_1 sh30) ?_
    refine g_sipush (v := 999) dX11_day_23 (by decide) ?_
    refine g_icmp_lt 31 dX11_day_26 (by decide) (fun q2 => ?_) (fun q2 => ?_)
    · refine g_aload_n 0 dX11_day_31 rfl rfl ?_
      refine g_getR dX11_day_32 fl11_42 rfl c0 (w11_5 hW c0) ?_
      refine g_getR dX11_day_35 fl11_205 rfl sh30 (w10_2 hW sh30) ?_
      refine g_aload_n 0 dX11_day_38 rfl rfl ?_
      refine g_getR dX11_day_39 fl11_42 rfl c0 (w11_5 hW c0) ?_
      refine g_getR dX11_day_42 fl11_69 rfl sh30 (w10_1 hW sh30) ?_
      exact g_callV (As := [.ref 37]) (st := []) dX11_day_45 clX11_221 (s10_2 sh30) rfl rfl (Nat.le_of_ble_eq_true rfl) (rmSH (by decide) (by decide)) (h2 q1 q2)
    · refine g_iconst (v := -1) dX11_day_29 (by decide) ?_
      exact g_iret dX11_day_30 rfl enSH (h3 q1 q2)
theorem bX11_day_48 {X : pX} {Q : Option Value → pMem → Prop} {m : pMem} {a0 : Nat} (hW : Wf m) (c0 : SH[a0]? = some (.inl 11))
    (h1 : Cl X 1 mX11_inForce [.ref a0] m (fun v m2 => Go X 5 mX11_day Q 63 [(0, .ref a0)] (v.toList ++ [.ref 37, .ref 512]) m2)) :
    Go X 5 mX11_day Q 48 [(0, .ref a0)] [] m := by
  refine g_aload_n 0 dX11_day_48 rfl rfl ?_
  refine g_getR dX11_day_49 fl11_63 rfl c0 (w11_8 hW c0) ?_
  refine g_aload_n 0 dX11_day_52 rfl rfl ?_
  refine g_getR dX11_day_53 fl11_42 rfl c0 (w11_5 hW c0) ?_
  refine g_getR dX11_day_56 fl11_69 rfl sh30 (w10_1 hW sh30) ?_
  refine g_aload_n 0 dX11_day_59 rfl rfl ?_
  exact g_callV (As := []) (st := [.ref 37, .ref 512]) dX11_day_60 clX11_225 c0 rfl rfl (Nat.le_of_ble_eq_true rfl) (rmSH (by decide) (by decide)) h1
theorem bX11_day_63 {X : pX} {Q : Option Value → pMem → Prop} {m : pMem} {a0 : Nat} {as0 : Nat} {as1 : Nat} {as2 : Nat} (hW : Wf m) (c0 : SH[a0]? = some (.inl 11)) (cs0 : SH[as0]? = some (.inl 6)) (cs1 : SH[as1]? = some (.inl 8)) (cs2 : SH[as2]? = some (.inl 0))
    (h1 : Cl X 4 mX0_oneDay [.ref as2, .ref as1, .ref as0] m (fun v m2 => Go X 5 mX11_day Q 66 [(0, .ref a0)] (v.toList ++ []) m2)) :
    Go X 5 mX11_day Q 63 [(0, .ref a0)] [.ref as0, .ref as1, .ref as2] m := by
  exact g_callV (As := [.ref as1, .ref as0]) (st := []) dX11_day_63 clX11_229 cs2 rfl rfl (Nat.le_of_ble_eq_true rfl) (rmSH (by decide) (by decide)) h1
theorem bX11_day_63v1 {X : pX} {Q : Option Value → pMem → Prop} {m : pMem} {a0 : Nat} {as1 : Nat} {as2 : Nat} (hW : Wf m) (c0 : SH[a0]? = some (.inl 11)) (cs1 : SH[as1]? = some (.inl 8)) (cs2 : SH[as2]? = some (.inl 0))
    (h1 : Cl X 4 mX0_oneDay [.ref as2, .ref as1, .null] m (fun v m2 => Go X 5 mX11_day Q 66 [(0, .ref a0)] (v.toList ++ []) m2)) :
    Go X 5 mX11_day Q 63 [(0, .ref a0)] [.null, .ref as1, .ref as2] m := by
  exact g_callV (As := [.ref as1, .null]) (st := []) dX11_day_63 clX11_229 cs2 rfl rfl (Nat.le_of_ble_eq_true rfl) (rmSH (by decide) (by decide)) h1
theorem bX11_day_66 {X : pX} {Q : Option Value → pMem → Prop} {m : pMem} {a0 : Nat} {xs0 : Int32} (hW : Wf m) (c0 : SH[a0]? = some (.inl 11))
    (h1 : Q (some (.int xs0)) m) :
    Go X 5 mX11_day Q 66 [(0, .ref a0)] [.int xs0] m := by
  exact g_iret dX11_day_66 rfl enSH h1
theorem bX11_drop_0 {X : pX} {Q : Option Value → pMem → Prop} {m : pMem} {a0 : Nat} {x1 : Int32} {x2 : Int32} (hW : Wf m) (c0 : SH[a0]? = some (.inl 11))
    (h1 : Cl X 1 mX11_isAtPlace [.ref a0, .int x1] m (fun v m2 => Go X 3 mX11_drop Q 13 [(0, .ref a0), (1, .int x1), (2, .int x2), (3, .ref 37)] (v.toList ++ []) m2)) :
    Go X 3 mX11_drop Q 0 [(0, .ref a0), (1, .int x1), (2, .int x2)] [] m := by
  refine g_aload_n 0 dX11_drop_0 rfl rfl ?_
  refine g_getR dX11_drop_1 fl11_42 rfl c0 (w11_5 hW c0) ?_
  refine g_getR dX11_drop_4 fl11_69 rfl sh30 (w10_1 hW sh30) ?_
  refine g_astore_n (ls2 := [(3, .ref 37), (0, .ref a0), (1, .int x1), (2, .int x2)]) dX11_drop_7 rfl (by decide) rfl ?_
  refine g_aload_n 1 dX11_drop_8 rfl rfl ?_
  refine g_iload_n 2 dX11_drop_9 rfl rfl ?_
  refine g_ls [1, 2, 3, 0] (ls2 := [(0, .ref a0), (1, .int x1), (2, .int x2), (3, .ref 37)]) rfl ?_
  exact g_callV (As := [.int x1]) (st := []) dX11_drop_10 clX11_233 c0 rfl rfl (Nat.le_of_ble_eq_true rfl) (rmSH (by decide) (by decide)) h1
theorem bX11_drop_13 {X : pX} {Q : Option Value → pMem → Prop} {m : pMem} {a0 : Nat} {x1 : Int32} {x2 : Int32} {a3 : Nat} {xs0 : Int32} (hW : Wf m) (c0 : SH[a0]? = some (.inl 11)) (c3 : SH[a3]? = some (.inl 8))
    (h1 : xs0 = 0 → Q (some (.int (-1 : Int32))) m)
    (h2 : ¬ (xs0 = 0) → Cl X 0 mX4_isThing [.ref 31, .int x2] m (fun v m2 => Go X 3 mX11_drop Q 27 [(0, .ref a0), (1, .int x1), (2, .int x2), (3, .ref a3)] (v.toList ++ []) m2)) :
    Go X 3 mX11_drop Q 13 [(0, .ref a0), (1, .int x1), (2, .int x2), (3, .ref a3)] [.int xs0] m := by
  refine g_if_eq 40 dX11_drop_13 (by decide) (fun q1 => ?_) (fun q1 => ?_)
  · refine g_iconst (v := -1) dX11_drop_40 (by decide) ?_
    exact g_iret dX11_drop_41 rfl enSH (h1 q1)
  · refine g_aload_n 0 dX11_drop_16 rfl rfl ?_
    refine g_getR dX11_drop_17 fl11_42 rfl c0 (w11_5 hW c0) ?_
    refine g_getR dX11_drop_20 fl11_56 rfl sh30 (w10_0 hW sh30) ?_
    refine g_iload_n 2 dX11_drop_23 rfl rfl ?_
    exact g_callV (As := [.int x2]) (st := []) dX11_drop_24 clX11_158 (s10_0 sh30) rfl rfl (Nat.le_of_ble_eq_true rfl) (rmSH (by decide) (by decide)) (h2 q1)
theorem bX11_drop_27 {X : pX} {Q : Option Value → pMem → Prop} {m : pMem} {a0 : Nat} {x1 : Int32} {x2 : Int32} {a3 : Nat} {xs0 : Int32} (hW : Wf m) (c0 : SH[a0]? = some (.inl 11)) (c3 : SH[a3]? = some (.inl 8))
    (h1 : xs0 = 0 → Q (some (.int (-1 : Int32))) m)
    (h2 : ¬ (xs0 = 0) → vp_in x2 6)
    (h3 : ¬ (xs0 = 0) → (mI m (a3 + 3) x2.toNatClampNeg) = x1 → Cl X 2 mX2_keep [.ref 41, .ref a3] m (fun v m2 => Go X 3 mX11_drop Q 53 [(0, .ref a0), (1, .int x1), (2, .int x2), (3, .ref a3)] (v.toList ++ []) m2))
    (h4 : ¬ (xs0 = 0) → ¬ ((mI m (a3 + 3) x2.toNatClampNeg) = x1) → Q (some (.int (-1 : Int32))) m) :
    Go X 3 mX11_drop Q 27 [(0, .ref a0), (1, .int x1), (2, .int x2), (3, .ref a3)] [.int xs0] m := by
  refine g_if_eq 40 dX11_drop_27 (by decide) (fun q1 => ?_) (fun q1 => ?_)
  · refine g_iconst (v := -1) dX11_drop_40 (by decide) ?_
    exact g_iret dX11_drop_41 rfl enSH (h1 q1)
  · refine g_aload_n 3 dX11_drop_30 rfl rfl ?_
    refine g_getR dX11_drop_31 fl11_167 rfl c3 (w8_3 hW c3) ?_
    refine g_iload_n 2 dX11_drop_34 rfl rfl ?_
    refine g_iald (j := x2.toNatClampNeg) dX11_drop_35 (s8_3 c3) (h2 q1) rfl ?_
    refine g_iload_n 1 dX11_drop_36 rfl rfl ?_
    refine g_icmp_eq 42 dX11_drop_37 (by decide) (fun q2 => ?_) (fun q2 => ?_)
    · refine g_aload_n 0 dX11_drop_42 rfl rfl ?_
      refine g_getR dX11_drop_43 fl11_42 rfl c0 (w11_5 hW c0) ?_
      refine g_getR dX11_drop_46 fl11_205 rfl sh30 (w10_2 hW sh30) ?_
      refine g_aload_n 3 dX11_drop_49 rfl rfl ?_
      exact g_callV (As := [.ref a3]) (st := []) dX11_drop_50 clX11_221 (s10_2 sh30) rfl rfl (Nat.le_of_ble_eq_true rfl) (rmSH (by decide) (by decide)) (h3 q1 q2)
    · refine g_iconst (v := -1) dX11_drop_40 (by decide) ?_
      exact g_iret dX11_drop_41 rfl enSH (h4 q1 q2)
theorem bX11_drop_53 {X : pX} {Q : Option Value → pMem → Prop} {m : pMem} {a0 : Nat} {x1 : Int32} {x2 : Int32} {a3 : Nat} (hW : Wf m) (c0 : SH[a0]? = some (.inl 11)) (c3 : SH[a3]? = some (.inl 8))
    (h1 : vp_in x1 4)
    (h2 : vp_in x2 6)
    (h3 : Cl X 1 mX8_manyOf [.ref a3, .int x1] (uI m (a3 + 3) x2.toNatClampNeg ((10 : Int32) + (mI m (a3 + 1) x1.toNatClampNeg))) (fun v m2 => Go X 3 mX11_drop Q 73 [(0, .ref a0), (1, .int x1), (2, .int x2), (3, .ref a3)] (v.toList ++ []) m2)) :
    Go X 3 mX11_drop Q 53 [(0, .ref a0), (1, .int x1), (2, .int x2), (3, .ref a3)] [] m := by
  refine g_aload_n 3 dX11_drop_53 rfl rfl ?_
  refine g_getR dX11_drop_54 fl11_167 rfl c3 (w8_3 hW c3) ?_
  refine g_iload_n 2 dX11_drop_57 rfl rfl ?_
  refine g_bipush (v := 10) dX11_drop_58 (by decide) ?_
  refine g_aload_n 3 dX11_drop_60 rfl rfl ?_
  refine g_getR dX11_drop_61 fl11_146 rfl c3 (w8_1 hW c3) ?_
  refine g_iload_n 1 dX11_drop_64 rfl rfl ?_
  refine g_iald (j := x1.toNatClampNeg) dX11_drop_65 (s8_1 c3) h1 rfl ?_
  refine g_iadd dX11_drop_66 ?_
  refine g_iast (j := x2.toNatClampNeg) dX11_drop_67 (s8_3 c3) h2 rfl ?_
  refine g_aload_n 3 dX11_drop_68 rfl rfl ?_
  refine g_iload_n 1 dX11_drop_69 rfl rfl ?_
  exact g_callV (As := [.int x1]) (st := []) dX11_drop_70 clX11_236 c3 rfl rfl (Nat.le_of_ble_eq_true rfl) (rmSH (by decide) (by decide)) h3
theorem bX11_drop_73 {X : pX} {Q : Option Value → pMem → Prop} {m : pMem} {a0 : Nat} {x1 : Int32} {x2 : Int32} {a3 : Nat} {xs0 : Int32} (hW : Wf m) (c0 : SH[a0]? = some (.inl 11)) (c3 : SH[a3]? = some (.inl 8))
    (h1 : Q (some (.int xs0)) m) :
    Go X 3 mX11_drop Q 73 [(0, .ref a0), (1, .int x1), (2, .int x2), (3, .ref a3)] [.int xs0] m := by
  exact g_iret dX11_drop_73 rfl enSH h1
theorem bX11_take_0 {X : pX} {Q : Option Value → pMem → Prop} {m : pMem} {a0 : Nat} {x1 : Int32} {x2 : Int32} (hW : Wf m) (c0 : SH[a0]? = some (.inl 11))
    (h1 : Cl X 1 mX11_isAtPlace [.ref a0, .int x1] m (fun v m2 => Go X 3 mX11_take Q 13 [(0, .ref a0), (1, .int x1), (2, .int x2), (3, .ref 37)] (v.toList ++ []) m2)) :
    Go X 3 mX11_take Q 0 [(0, .ref a0), (1, .int x1), (2, .int x2)] [] m := by
  refine g_aload_n 0 dX11_take_0 rfl rfl ?_
  refine g_getR dX11_take_1 fl11_42 rfl c0 (w11_5 hW c0) ?_
  refine g_getR dX11_take_4 fl11_69 rfl sh30 (w10_1 hW sh30) ?_
  refine g_astore_n (ls2 := [(3, .ref 37), (0, .ref a0), (1, .int x1), (2, .int x2)]) dX11_take_7 rfl (by decide) rfl ?_
  refine g_aload_n 1 dX11_take_8 rfl rfl ?_
  refine g_iload_n 2 dX11_take_9 rfl rfl ?_
  refine g_ls [1, 2, 3, 0] (ls2 := [(0, .ref a0), (1, .int x1), (2, .int x2), (3, .ref 37)]) rfl ?_
  exact g_callV (As := [.int x1]) (st := []) dX11_take_10 clX11_233 c0 rfl rfl (Nat.le_of_ble_eq_true rfl) (rmSH (by decide) (by decide)) h1
theorem bX11_take_13 {X : pX} {Q : Option Value → pMem → Prop} {m : pMem} {a0 : Nat} {x1 : Int32} {x2 : Int32} {a3 : Nat} {xs0 : Int32} (hW : Wf m) (c0 : SH[a0]? = some (.inl 11)) (c3 : SH[a3]? = some (.inl 8))
    (h1 : xs0 = 0 → Q (some (.int (-1 : Int32))) m)
    (h2 : ¬ (xs0 = 0) → Cl X 0 mX4_isThing [.ref 31, .int x2] m (fun v m2 => Go X 3 mX11_take Q 27 [(0, .ref a0), (1, .int x1), (2, .int x2), (3, .ref a3)] (v.toList ++ []) m2)) :
    Go X 3 mX11_take Q 13 [(0, .ref a0), (1, .int x1), (2, .int x2), (3, .ref a3)] [.int xs0] m := by
  refine g_if_eq 56 dX11_take_13 (by decide) (fun q1 => ?_) (fun q1 => ?_)
  · refine g_iconst (v := -1) dX11_take_56 (by decide) ?_
    exact g_iret dX11_take_57 rfl enSH (h1 q1)
  · refine g_aload_n 0 dX11_take_16 rfl rfl ?_
    refine g_getR dX11_take_17 fl11_42 rfl c0 (w11_5 hW c0) ?_
    refine g_getR dX11_take_20 fl11_56 rfl sh30 (w10_0 hW sh30) ?_
    refine g_iload_n 2 dX11_take_23 rfl rfl ?_
    exact g_callV (As := [.int x2]) (st := []) dX11_take_24 clX11_158 (s10_0 sh30) rfl rfl (Nat.le_of_ble_eq_true rfl) (rmSH (by decide) (by decide)) (h2 q1)
theorem bX11_take_27 {X : pX} {Q : Option Value → pMem → Prop} {m : pMem} {a0 : Nat} {x1 : Int32} {x2 : Int32} {a3 : Nat} {xs0 : Int32} (hW : Wf m) (c0 : SH[a0]? = some (.inl 11)) (c3 : SH[a3]? = some (.inl 8))
    (h1 : xs0 = 0 → Q (some (.int (-1 : Int32))) m)
    (h2 : ¬ (xs0 = 0) → Cl X 2 mX11_hasFreeHand [.ref a0, .int x1] m (fun v m2 => Go X 3 mX11_take Q 35 [(0, .ref a0), (1, .int x1), (2, .int x2), (3, .ref a3)] (v.toList ++ []) m2)) :
    Go X 3 mX11_take Q 27 [(0, .ref a0), (1, .int x1), (2, .int x2), (3, .ref a3)] [.int xs0] m := by
  refine g_if_eq 56 dX11_take_27 (by decide) (fun q1 => ?_) (fun q1 => ?_)
  · refine g_iconst (v := -1) dX11_take_56 (by decide) ?_
    exact g_iret dX11_take_57 rfl enSH (h1 q1)
  · refine g_aload_n 0 dX11_take_30 rfl rfl ?_
    refine g_iload_n 1 dX11_take_31 rfl rfl ?_
    exact g_callV (As := [.int x1]) (st := []) dX11_take_32 clX11_239 c0 rfl rfl (Nat.le_of_ble_eq_true rfl) (rmSH (by decide) (by decide)) (h2 q1)
theorem bX11_take_35 {X : pX} {Q : Option Value → pMem → Prop} {m : pMem} {a0 : Nat} {x1 : Int32} {x2 : Int32} {a3 : Nat} {xs0 : Int32} (hW : Wf m) (c0 : SH[a0]? = some (.inl 11)) (c3 : SH[a3]? = some (.inl 8))
    (h1 : xs0 = 0 → Q (some (.int (-1 : Int32))) m)
    (h2 : ¬ (xs0 = 0) → vp_in x2 6)
    (h3 : ¬ (xs0 = 0) → vp_in x1 4)
    (h4 : ¬ (xs0 = 0) → (mI m (a3 + 3) x2.toNatClampNeg) = ((10 : Int32) + (mI m (a3 + 1) x1.toNatClampNeg)) → Cl X 2 mX2_keep [.ref 41, .ref a3] m (fun v m2 => Go X 3 mX11_take Q 69 [(0, .ref a0), (1, .int x1), (2, .int x2), (3, .ref a3)] (v.toList ++ []) m2))
    (h5 : ¬ (xs0 = 0) → ¬ ((mI m (a3 + 3) x2.toNatClampNeg) = ((10 : Int32) + (mI m (a3 + 1) x1.toNatClampNeg))) → Q (some (.int (-1 : Int32))) m) :
    Go X 3 mX11_take Q 35 [(0, .ref a0), (1, .int x1), (2, .int x2), (3, .ref a3)] [.int xs0] m := by
  refine g_if_eq 56 dX11_take_35 (by decide) (fun q1 => ?_) (fun q1 => ?_)
  · refine g_iconst (v := -1) dX11_take_56 (by decide) ?_
    exact g_iret dX11_take_57 rfl enSH (h1 q1)
  · refine g_aload_n 3 dX11_take_38 rfl rfl ?_
    refine g_getR dX11_take_39 fl11_167 rfl c3 (w8_3 hW c3) ?_
    refine g_iload_n 2 dX11_take_42 rfl rfl ?_
    refine g_iald (j := x2.toNatClampNeg) dX11_take_43 (s8_3 c3) (h2 q1) rfl ?_
    refine g_bipush (v := 10) dX11_take_44 (by decide) ?_
    refine g_aload_n 3 dX11_take_46 rfl rfl ?_
    refine g_getR dX11_take_47 fl11_146 rfl c3 (w8_1 hW c3) ?_
    refine g_iload_n 1 dX11_take_50 rfl rfl ?_
    refine g_iald (j := x1.toNatClampNeg) dX11_take_51 (s8_1 c3) (h3 q1) rfl ?_
    refine g_iadd dX11_take_52 ?_
    refine g_icmp_eq 58 dX11_take_53 (by decide) (fun q2 => ?_) (fun q2 => ?_)
    · refine g_aload_n 0 dX11_take_58 rfl rfl ?_
      refine g_getR dX11_take_59 fl11_42 rfl c0 (w11_5 hW c0) ?_
      refine g_getR dX11_take_62 fl11_205 rfl sh30 (w10_2 hW sh30) ?_
      refine g_aload_n 3 dX11_take_65 rfl rfl ?_
      exact g_callV (As := [.ref a3]) (st := []) dX11_take_66 clX11_221 (s10_2 sh30) rfl rfl (Nat.le_of_ble_eq_true rfl) (rmSH (by decide) (by decide)) (h4 q1 q2)
    · refine g_iconst (v := -1) dX11_take_56 (by decide) ?_
      exact g_iret dX11_take_57 rfl enSH (h5 q1 q2)
theorem bX11_take_69 {X : pX} {Q : Option Value → pMem → Prop} {m : pMem} {a0 : Nat} {x1 : Int32} {x2 : Int32} {a3 : Nat} (hW : Wf m) (c0 : SH[a0]? = some (.inl 11)) (c3 : SH[a3]? = some (.inl 8))
    (h1 : vp_in x2 6)
    (h2 : Cl X 1 mX8_manyOf [.ref a3, .int x1] (uI m (a3 + 3) x2.toNatClampNeg x1) (fun v m2 => Go X 3 mX11_take Q 81 [(0, .ref a0), (1, .int x1), (2, .int x2), (3, .ref a3)] (v.toList ++ []) m2)) :
    Go X 3 mX11_take Q 69 [(0, .ref a0), (1, .int x1), (2, .int x2), (3, .ref a3)] [] m := by
  refine g_aload_n 3 dX11_take_69 rfl rfl ?_
  refine g_getR dX11_take_70 fl11_167 rfl c3 (w8_3 hW c3) ?_
  refine g_iload_n 2 dX11_take_73 rfl rfl ?_
  refine g_iload_n 1 dX11_take_74 rfl rfl ?_
  refine g_iast (j := x2.toNatClampNeg) dX11_take_75 (s8_3 c3) h1 rfl ?_
  refine g_aload_n 3 dX11_take_76 rfl rfl ?_
  refine g_iload_n 1 dX11_take_77 rfl rfl ?_
  exact g_callV (As := [.int x1]) (st := []) dX11_take_78 clX11_236 c3 rfl rfl (Nat.le_of_ble_eq_true rfl) (rmSH (by decide) (by decide)) h2
theorem bX11_take_81 {X : pX} {Q : Option Value → pMem → Prop} {m : pMem} {a0 : Nat} {x1 : Int32} {x2 : Int32} {a3 : Nat} {xs0 : Int32} (hW : Wf m) (c0 : SH[a0]? = some (.inl 11)) (c3 : SH[a3]? = some (.inl 8))
    (h1 : Q (some (.int xs0)) m) :
    Go X 3 mX11_take Q 81 [(0, .ref a0), (1, .int x1), (2, .int x2), (3, .ref a3)] [.int xs0] m := by
  exact g_iret dX11_take_81 rfl enSH h1
theorem bX11_give_0 {X : pX} {Q : Option Value → pMem → Prop} {m : pMem} {a0 : Nat} {x1 : Int32} {x2 : Int32} {x3 : Int32} (hW : Wf m) (c0 : SH[a0]? = some (.inl 11))
    (h1 : Cl X 2 mX11_areAtOnePlace [.ref a0, .int x1, .int x2] m (fun v m2 => Go X 3 mX11_give Q 15 [(0, .ref a0), (1, .int x1), (2, .int x2), (3, .int x3), (4, .ref 37)] (v.toList ++ []) m2)) :
    Go X 3 mX11_give Q 0 [(0, .ref a0), (1, .int x1), (2, .int x2), (3, .int x3)] [] m := by
  refine g_aload_n 0 dX11_give_0 rfl rfl ?_
  refine g_getR dX11_give_1 fl11_42 rfl c0 (w11_5 hW c0) ?_
  refine g_getR dX11_give_4 fl11_69 rfl sh30 (w10_1 hW sh30) ?_
  refine g_astore (ls2 := [(4, .ref 37), (0, .ref a0), (1, .int x1), (2, .int x2), (3, .int x3)]) dX11_give_7 (by decide) rfl ?_
  refine g_aload_n 1 dX11_give_9 rfl rfl ?_
  refine g_iload_n 2 dX11_give_10 rfl rfl ?_
  refine g_iload_n 3 dX11_give_11 rfl rfl ?_
  refine g_ls [1, 2, 3, 4, 0] (ls2 := [(0, .ref a0), (1, .int x1), (2, .int x2), (3, .int x3), (4, .ref 37)]) rfl ?_
  exact g_callV (As := [.int x1, .int x2]) (st := []) dX11_give_12 clX11_242 c0 rfl rfl (Nat.le_of_ble_eq_true rfl) (rmSH (by decide) (by decide)) h1
theorem bX11_give_15 {X : pX} {Q : Option Value → pMem → Prop} {m : pMem} {a0 : Nat} {x1 : Int32} {x2 : Int32} {x3 : Int32} {a4 : Nat} {xs0 : Int32} (hW : Wf m) (c0 : SH[a0]? = some (.inl 11)) (c4 : SH[a4]? = some (.inl 8))
    (h1 : xs0 = 0 → Q (some (.int (-1 : Int32))) m)
    (h2 : ¬ (xs0 = 0) → Cl X 0 mX4_isThing [.ref 31, .int x3] m (fun v m2 => Go X 3 mX11_give Q 29 [(0, .ref a0), (1, .int x1), (2, .int x2), (3, .int x3), (4, .ref a4)] (v.toList ++ []) m2)) :
    Go X 3 mX11_give Q 15 [(0, .ref a0), (1, .int x1), (2, .int x2), (3, .int x3), (4, .ref a4)] [.int xs0] m := by
  refine g_if_eq 51 dX11_give_15 (by decide) (fun q1 => ?_) (fun q1 => ?_)
  · refine g_iconst (v := -1) dX11_give_51 (by decide) ?_
    exact g_iret dX11_give_52 rfl enSH (h1 q1)
  · refine g_aload_n 0 dX11_give_18 rfl rfl ?_
    refine g_getR dX11_give_19 fl11_42 rfl c0 (w11_5 hW c0) ?_
    refine g_getR dX11_give_22 fl11_56 rfl sh30 (w10_0 hW sh30) ?_
    refine g_iload_n 3 dX11_give_25 rfl rfl ?_
    exact g_callV (As := [.int x3]) (st := []) dX11_give_26 clX11_158 (s10_0 sh30) rfl rfl (Nat.le_of_ble_eq_true rfl) (rmSH (by decide) (by decide)) (h2 q1)
theorem bX11_give_29 {X : pX} {Q : Option Value → pMem → Prop} {m : pMem} {a0 : Nat} {x1 : Int32} {x2 : Int32} {x3 : Int32} {a4 : Nat} {xs0 : Int32} (hW : Wf m) (c0 : SH[a0]? = some (.inl 11)) (c4 : SH[a4]? = some (.inl 8))
    (h1 : xs0 = 0 → Q (some (.int (-1 : Int32))) m)
    (h2 : ¬ (xs0 = 0) → Cl X 2 mX11_hasFreeHand [.ref a0, .int x2] m (fun v m2 => Go X 3 mX11_give Q 37 [(0, .ref a0), (1, .int x1), (2, .int x2), (3, .int x3), (4, .ref a4)] (v.toList ++ []) m2)) :
    Go X 3 mX11_give Q 29 [(0, .ref a0), (1, .int x1), (2, .int x2), (3, .int x3), (4, .ref a4)] [.int xs0] m := by
  refine g_if_eq 51 dX11_give_29 (by decide) (fun q1 => ?_) (fun q1 => ?_)
  · refine g_iconst (v := -1) dX11_give_51 (by decide) ?_
    exact g_iret dX11_give_52 rfl enSH (h1 q1)
  · refine g_aload_n 0 dX11_give_32 rfl rfl ?_
    refine g_iload_n 2 dX11_give_33 rfl rfl ?_
    exact g_callV (As := [.int x2]) (st := []) dX11_give_34 clX11_239 c0 rfl rfl (Nat.le_of_ble_eq_true rfl) (rmSH (by decide) (by decide)) (h2 q1)
theorem bX11_give_37 {X : pX} {Q : Option Value → pMem → Prop} {m : pMem} {a0 : Nat} {x1 : Int32} {x2 : Int32} {x3 : Int32} {a4 : Nat} {xs0 : Int32} (hW : Wf m) (c0 : SH[a0]? = some (.inl 11)) (c4 : SH[a4]? = some (.inl 8))
    (h1 : xs0 = 0 → Q (some (.int (-1 : Int32))) m)
    (h2 : ¬ (xs0 = 0) → vp_in x3 6)
    (h3 : ¬ (xs0 = 0) → (mI m (a4 + 3) x3.toNatClampNeg) = x1 → Cl X 2 mX2_keep [.ref 41, .ref a4] m (fun v m2 => Go X 3 mX11_give Q 65 [(0, .ref a0), (1, .int x1), (2, .int x2), (3, .int x3), (4, .ref a4)] (v.toList ++ []) m2))
    (h4 : ¬ (xs0 = 0) → ¬ ((mI m (a4 + 3) x3.toNatClampNeg) = x1) → Q (some (.int (-1 : Int32))) m) :
    Go X 3 mX11_give Q 37 [(0, .ref a0), (1, .int x1), (2, .int x2), (3, .int x3), (4, .ref a4)] [.int xs0] m := by
  refine g_if_eq 51 dX11_give_37 (by decide) (fun q1 => ?_) (fun q1 => ?_)
  · refine g_iconst (v := -1) dX11_give_51 (by decide) ?_
    exact g_iret dX11_give_52 rfl enSH (h1 q1)
  · refine g_aload 4 dX11_give_40 rfl ?_
    refine g_getR dX11_give_42 fl11_167 rfl c4 (w8_3 hW c4) ?_
    refine g_iload_n 3 dX11_give_45 rfl rfl ?_
    refine g_iald (j := x3.toNatClampNeg) dX11_give_46 (s8_3 c4) (h2 q1) rfl ?_
    refine g_iload_n 1 dX11_give_47 rfl rfl ?_
    refine g_icmp_eq 53 dX11_give_48 (by decide) (fun q2 => ?_) (fun q2 => ?_)
    · refine g_aload_n 0 dX11_give_53 rfl rfl ?_
      refine g_getR dX11_give_54 fl11_42 rfl c0 (w11_5 hW c0) ?_
      refine g_getR dX11_give_57 fl11_205 rfl sh30 (w10_2 hW sh30) ?_
      refine g_aload 4 dX11_give_60 rfl ?_
      exact g_callV (As := [.ref a4]) (st := []) dX11_give_62 clX11_221 (s10_2 sh30) rfl rfl (Nat.le_of_ble_eq_true rfl) (rmSH (by decide) (by decide)) (h3 q1 q2)
    · refine g_iconst (v := -1) dX11_give_51 (by decide) ?_
      exact g_iret dX11_give_52 rfl enSH (h4 q1 q2)
theorem bX11_give_65 {X : pX} {Q : Option Value → pMem → Prop} {m : pMem} {a0 : Nat} {x1 : Int32} {x2 : Int32} {x3 : Int32} {a4 : Nat} (hW : Wf m) (c0 : SH[a0]? = some (.inl 11)) (c4 : SH[a4]? = some (.inl 8))
    (h1 : vp_in x3 6)
    (h2 : Cl X 1 mX8_manyOf [.ref a4, .int x2] (uI m (a4 + 3) x3.toNatClampNeg x2) (fun v m2 => Go X 3 mX11_give Q 79 [(0, .ref a0), (1, .int x1), (2, .int x2), (3, .int x3), (4, .ref a4)] (v.toList ++ []) m2)) :
    Go X 3 mX11_give Q 65 [(0, .ref a0), (1, .int x1), (2, .int x2), (3, .int x3), (4, .ref a4)] [] m := by
  refine g_aload 4 dX11_give_65 rfl ?_
  refine g_getR dX11_give_67 fl11_167 rfl c4 (w8_3 hW c4) ?_
  refine g_iload_n 3 dX11_give_70 rfl rfl ?_
  refine g_iload_n 2 dX11_give_71 rfl rfl ?_
  refine g_iast (j := x3.toNatClampNeg) dX11_give_72 (s8_3 c4) h1 rfl ?_
  refine g_aload 4 dX11_give_73 rfl ?_
  refine g_iload_n 2 dX11_give_75 rfl rfl ?_
  exact g_callV (As := [.int x2]) (st := []) dX11_give_76 clX11_236 c4 rfl rfl (Nat.le_of_ble_eq_true rfl) (rmSH (by decide) (by decide)) h2
theorem bX11_give_79 {X : pX} {Q : Option Value → pMem → Prop} {m : pMem} {a0 : Nat} {x1 : Int32} {x2 : Int32} {x3 : Int32} {a4 : Nat} {xs0 : Int32} (hW : Wf m) (c0 : SH[a0]? = some (.inl 11)) (c4 : SH[a4]? = some (.inl 8))
    (h1 : Q (some (.int xs0)) m) :
    Go X 3 mX11_give Q 79 [(0, .ref a0), (1, .int x1), (2, .int x2), (3, .int x3), (4, .ref a4)] [.int xs0] m := by
  exact g_iret dX11_give_79 rfl enSH h1
theorem bX11_rob_0 {X : pX} {Q : Option Value → pMem → Prop} {m : pMem} {a0 : Nat} {x1 : Int32} (hW : Wf m) (c0 : SH[a0]? = some (.inl 11))
    (h1 : Cl X 0 mX4_isThing [.ref 31, .int x1] m (fun v m2 => Go X 3 mX11_rob Q 19 [(0, .ref a0), (1, .int x1), (2, .ref 37)] (v.toList ++ []) m2)) :
    Go X 3 mX11_rob Q 0 [(0, .ref a0), (1, .int x1)] [] m := by
  refine g_aload_n 0 dX11_rob_0 rfl rfl ?_
  refine g_getR dX11_rob_1 fl11_42 rfl c0 (w11_5 hW c0) ?_
  refine g_getR dX11_rob_4 fl11_69 rfl sh30 (w10_1 hW sh30) ?_
  refine g_astore_n (ls2 := [(2, .ref 37), (0, .ref a0), (1, .int x1)]) dX11_rob_7 rfl (by decide) rfl ?_
  refine g_aload_n 1 dX11_rob_8 rfl rfl ?_
  refine g_getR dX11_rob_9 fl11_42 rfl c0 (w11_5 hW c0) ?_
  refine g_getR dX11_rob_12 fl11_56 rfl sh30 (w10_0 hW sh30) ?_
  refine g_iload_n 2 dX11_rob_15 rfl rfl ?_
  refine g_ls [1, 2, 0] (ls2 := [(0, .ref a0), (1, .int x1), (2, .ref 37)]) rfl ?_
  exact g_callV (As := [.int x1]) (st := []) dX11_rob_16 clX11_158 (s10_0 sh30) rfl rfl (Nat.le_of_ble_eq_true rfl) (rmSH (by decide) (by decide)) h1
theorem bX11_rob_19 {X : pX} {Q : Option Value → pMem → Prop} {m : pMem} {a0 : Nat} {x1 : Int32} {a2 : Nat} {xs0 : Int32} (hW : Wf m) (c0 : SH[a0]? = some (.inl 11)) (c2 : SH[a2]? = some (.inl 8))
    (h1 : xs0 = 0 → Q (some (.int (-2 : Int32))) m)
    (h2 : ¬ (xs0 = 0) → vp_in x1 6)
    (h3 : ¬ (xs0 = 0) → ¬ (mI m (a2 + 3) x1.toNatClampNeg) = (-1 : Int32) → vp_in x1 6)
    (h4 : ¬ (xs0 = 0) → ¬ (mI m (a2 + 3) x1.toNatClampNeg) = (-1 : Int32) → Cl X 2 mX2_keep [.ref 41, .ref a2] m (fun v m2 => Go X 3 mX11_rob Q 53 [(0, .ref a0), (1, .int x1), (2, .ref a2), (3, .int (mI m (a2 + 3) x1.toNatClampNeg))] (v.toList ++ []) m2))
    (h5 : ¬ (xs0 = 0) → (mI m (a2 + 3) x1.toNatClampNeg) = (-1 : Int32) → Q (some (.int (-2 : Int32))) m) :
    Go X 3 mX11_rob Q 19 [(0, .ref a0), (1, .int x1), (2, .ref a2)] [.int xs0] m := by
  refine g_if_eq 32 dX11_rob_19 (by decide) (fun q1 => ?_) (fun q1 => ?_)
  · refine g_bipush (v := -2) dX11_rob_32 (by decide) ?_
    exact g_iret dX11_rob_34 rfl enSH (h1 q1)
  · refine g_aload_n 2 dX11_rob_22 rfl rfl ?_
    refine g_getR dX11_rob_23 fl11_167 rfl c2 (w8_3 hW c2) ?_
    refine g_iload_n 1 dX11_rob_26 rfl rfl ?_
    refine g_iald (j := x1.toNatClampNeg) dX11_rob_27 (s8_3 c2) (h2 q1) rfl ?_
    refine g_iconst (v := -1) dX11_rob_28 (by decide) ?_
    refine g_icmp_ne 35 dX11_rob_29 (by decide) (fun q2 => ?_) (fun q2 => ?_)
    · refine g_aload_n 2 dX11_rob_35 rfl rfl ?_
      refine g_getR dX11_rob_36 fl11_167 rfl c2 (w8_3 hW c2) ?_
      refine g_iload_n 1 dX11_rob_39 rfl rfl ?_
      refine g_iald (j := x1.toNatClampNeg) dX11_rob_40 (s8_3 c2) (h3 q1 q2) rfl ?_
      refine g_istore_n (ls2 := [(3, .int (mI m (a2 + 3) x1.toNatClampNeg)), (0, .ref a0), (1, .int x1), (2, .ref a2)]) dX11_rob_41 rfl (by decide) rfl ?_
      refine g_aload_n 1 dX11_rob_42 rfl rfl ?_
      refine g_getR dX11_rob_43 fl11_42 rfl c0 (w11_5 hW c0) ?_
      refine g_getR dX11_rob_46 fl11_205 rfl sh30 (w10_2 hW sh30) ?_
      refine g_aload_n 3 dX11_rob_49 rfl rfl ?_
      refine g_ls [1, 2, 3, 0] (ls2 := [(0, .ref a0), (1, .int x1), (2, .ref a2), (3, .int (mI m (a2 + 3) x1.toNatClampNeg))]) rfl ?_
      exact g_callV (As := [.ref a2]) (st := []) dX11_rob_50 clX11_221 (s10_2 sh30) rfl rfl (Nat.le_of_ble_eq_true rfl) (rmSH (by decide) (by decide)) (h4 q1 q2)
    · refine g_bipush (v := -2) dX11_rob_32 (by decide) ?_
      exact g_iret dX11_rob_34 rfl enSH (h5 q1 q2)
theorem bX11_rob_53 {X : pX} {Q : Option Value → pMem → Prop} {m : pMem} {a0 : Nat} {x1 : Int32} {a2 : Nat} {x3 : Int32} (hW : Wf m) (c0 : SH[a0]? = some (.inl 11)) (c2 : SH[a2]? = some (.inl 8))
    (h1 : vp_in x1 6)
    (h2 : Q (some (.int x3)) (uI m (a2 + 3) x1.toNatClampNeg (-1 : Int32))) :
    Go X 3 mX11_rob Q 53 [(0, .ref a0), (1, .int x1), (2, .ref a2), (3, .int x3)] [] m := by
  refine g_aload_n 2 dX11_rob_53 rfl rfl ?_
  refine g_getR dX11_rob_54 fl11_167 rfl c2 (w8_3 hW c2) ?_
  refine g_iload_n 1 dX11_rob_57 rfl rfl ?_
  refine g_iconst (v := -1) dX11_rob_58 (by decide) ?_
  refine g_iast (j := x1.toNatClampNeg) dX11_rob_59 (s8_3 c2) h1 rfl ?_
  refine g_iload_n 3 dX11_rob_60 rfl rfl ?_
  exact g_iret dX11_rob_61 rfl enSH h2
theorem bX11_undo_0 {X : pX} {Q : Option Value → pMem → Prop} {m : pMem} {a0 : Nat} (hW : Wf m) (c0 : SH[a0]? = some (.inl 11))
    (h1 : ¬ (mI m 41 2) = 0 → Cl X 2 mX2_bringBack [.ref 41, .ref 37] m (fun v m2 => Go X 3 mX11_undo Q 33 [(0, .ref a0)] (v.toList ++ []) m2))
    (h2 : (mI m 41 2) = 0 → Q (some (.int (-2 : Int32))) m) :
    Go X 3 mX11_undo Q 0 [(0, .ref a0)] [] m := by
  refine g_aload_n 0 dX11_undo_0 rfl rfl ?_
  refine g_getR dX11_undo_1 fl11_42 rfl c0 (w11_5 hW c0) ?_
  refine g_getR dX11_undo_4 fl11_205 rfl sh30 (w10_2 hW sh30) ?_
  refine g_getI dX11_undo_7 fl11_209 (s10_2 sh30) ?_
  refine g_if_ne 16 dX11_undo_10 (by decide) (fun q1 => ?_) (fun q1 => ?_)
  · refine g_aload_n 0 dX11_undo_16 rfl rfl ?_
    refine g_getR dX11_undo_17 fl11_42 rfl c0 (w11_5 hW c0) ?_
    refine g_getR dX11_undo_20 fl11_205 rfl sh30 (w10_2 hW sh30) ?_
    refine g_aload_n 0 dX11_undo_23 rfl rfl ?_
    refine g_getR dX11_undo_24 fl11_42 rfl c0 (w11_5 hW c0) ?_
    refine g_getR dX11_undo_27 fl11_69 rfl sh30 (w10_1 hW sh30) ?_
    exact g_callV (As := [.ref 37]) (st := []) dX11_undo_30 clX11_246 (s10_2 sh30) rfl rfl (Nat.le_of_ble_eq_true rfl) (rmSH (by decide) (by decide)) (h1 q1)
  · refine g_bipush (v := -2) dX11_undo_13 (by decide) ?_
    exact g_iret dX11_undo_15 rfl enSH (h2 q1)
theorem bX11_undo_33 {X : pX} {Q : Option Value → pMem → Prop} {m : pMem} {a0 : Nat} (hW : Wf m) (c0 : SH[a0]? = some (.inl 11))
    (h1 : Q (some (.int (mI m 41 2))) m) :
    Go X 3 mX11_undo Q 33 [(0, .ref a0)] [] m := by
  refine g_aload_n 0 dX11_undo_33 rfl rfl ?_
  refine g_getR dX11_undo_34 fl11_42 rfl c0 (w11_5 hW c0) ?_
  refine g_getR dX11_undo_37 fl11_205 rfl sh30 (w10_2 hW sh30) ?_
  refine g_getI dX11_undo_40 fl11_209 (s10_2 sh30) ?_
  exact g_iret dX11_undo_43 rfl enSH h1
theorem bX11_ahead_0 {X : pX} {Q : Option Value → pMem → Prop} {m : pMem} {a0 : Nat} {x1 : Int32} {x2 : Int32} {x3 : Int32} (hW : Wf m) (c0 : SH[a0]? = some (.inl 11))
    (h1 : ¬ x3 = (2 : Int32) → Go X 7 mX11_ahead Q 10 [(0, .ref a0), (1, .int x1), (2, .int x2), (3, .int x3)] [.int (0 : Int32)] m)
    (h2 : x3 = (2 : Int32) → Go X 7 mX11_ahead Q 10 [(0, .ref a0), (1, .int x1), (2, .int x2), (3, .int x3)] [.int (1 : Int32)] m) :
    Go X 7 mX11_ahead Q 0 [(0, .ref a0), (1, .int x1), (2, .int x2), (3, .int x3)] [] m := by
  refine g_iload_n 3 dX11_ahead_0 rfl rfl ?_
  refine g_iconst (v := 2) dX11_ahead_1 (by decide) ?_
  refine g_icmp_ne 9 dX11_ahead_2 (by decide) (fun q1 => ?_) (fun q1 => ?_)
  · refine g_iconst (v := 0) dX11_ahead_9 (by decide) ?_
    exact g_ls [0, 1, 2, 3] rfl (h1 q1)
  · refine g_iconst (v := 1) dX11_ahead_5 (by decide) ?_
    refine g_goto 10 dX11_ahead_6 (by decide) ?_
    exact g_ls [0, 1, 2, 3] rfl (h2 q1)
theorem bX11_ahead_10 {X : pX} {Q : Option Value → pMem → Prop} {m : pMem} {a0 : Nat} {x1 : Int32} {x2 : Int32} {x3 : Int32} (hW : Wf m) (c0 : SH[a0]? = some (.inl 11))
    (h1 : (0 : Int32) = 0 → Cl X 0 mX4_isPerson [.ref 31, .int x1] m (fun v m2 => Go X 7 mX11_ahead Q 42 [(0, .ref a0), (1, .int x1), (2, .int x2), (3, .int x3), (4, .int (0 : Int32))] (v.toList ++ []) m2))
    (h2 : ¬ ((0 : Int32) = 0) → Cl X 0 mX4_isThing [.ref 31, .int x1] m (fun v m2 => Go X 7 mX11_ahead Q 28 [(0, .ref a0), (1, .int x1), (2, .int x2), (3, .int x3), (4, .int (0 : Int32))] (v.toList ++ []) m2)) :
    Go X 7 mX11_ahead Q 10 [(0, .ref a0), (1, .int x1), (2, .int x2), (3, .int x3)] [.int (0 : Int32)] m := by
  refine g_istore (ls2 := [(4, .int (0 : Int32)), (0, .ref a0), (1, .int x1), (2, .int x2), (3, .int x3)]) dX11_ahead_10 (by decide) rfl ?_
  refine g_iload 0 dX11_ahead_12 rfl ?_
  refine g_if_eq 31 dX11_ahead_14 (by decide) (fun q1 => ?_) (fun q1 => ?_)
  · refine g_aload_n 1 dX11_ahead_31 rfl rfl ?_
    refine g_getR dX11_ahead_32 fl11_42 rfl c0 (w11_5 hW c0) ?_
    refine g_getR dX11_ahead_35 fl11_56 rfl sh30 (w10_0 hW sh30) ?_
    refine g_iload_n 2 dX11_ahead_38 rfl rfl ?_
    refine g_ls [1, 2, 3, 4, 0] (ls2 := [(0, .ref a0), (1, .int x1), (2, .int x2), (3, .int x3), (4, .int (0 : Int32))]) rfl ?_
    exact g_callV (As := [.int x1]) (st := []) dX11_ahead_39 clX11_135 (s10_0 sh30) rfl rfl (Nat.le_of_ble_eq_true rfl) (rmSH (by decide) (by decide)) (h1 q1)
  · refine g_aload_n 1 dX11_ahead_17 rfl rfl ?_
    refine g_getR dX11_ahead_18 fl11_42 rfl c0 (w11_5 hW c0) ?_
    refine g_getR dX11_ahead_21 fl11_56 rfl sh30 (w10_0 hW sh30) ?_
    refine g_iload_n 2 dX11_ahead_24 rfl rfl ?_
    refine g_ls [1, 2, 3, 4, 0] (ls2 := [(0, .ref a0), (1, .int x1), (2, .int x2), (3, .int x3), (4, .int (0 : Int32))]) rfl ?_
    exact g_callV (As := [.int x1]) (st := []) dX11_ahead_25 clX11_158 (s10_0 sh30) rfl rfl (Nat.le_of_ble_eq_true rfl) (rmSH (by decide) (by decide)) (h2 q1)
theorem bX11_ahead_10v1 {X : pX} {Q : Option Value → pMem → Prop} {m : pMem} {a0 : Nat} {x1 : Int32} {x2 : Int32} {x3 : Int32} (hW : Wf m) (c0 : SH[a0]? = some (.inl 11))
    (h1 : (1 : Int32) = 0 → Cl X 0 mX4_isPerson [.ref 31, .int x1] m (fun v m2 => Go X 7 mX11_ahead Q 42 [(0, .ref a0), (1, .int x1), (2, .int x2), (3, .int x3), (4, .int (1 : Int32))] (v.toList ++ []) m2))
    (h2 : ¬ ((1 : Int32) = 0) → Cl X 0 mX4_isThing [.ref 31, .int x1] m (fun v m2 => Go X 7 mX11_ahead Q 28 [(0, .ref a0), (1, .int x1), (2, .int x2), (3, .int x3), (4, .int (1 : Int32))] (v.toList ++ []) m2)) :
    Go X 7 mX11_ahead Q 10 [(0, .ref a0), (1, .int x1), (2, .int x2), (3, .int x3)] [.int (1 : Int32)] m := by
  refine g_istore (ls2 := [(4, .int (1 : Int32)), (0, .ref a0), (1, .int x1), (2, .int x2), (3, .int x3)]) dX11_ahead_10 (by decide) rfl ?_
  refine g_iload 0 dX11_ahead_12 rfl ?_
  refine g_if_eq 31 dX11_ahead_14 (by decide) (fun q1 => ?_) (fun q1 => ?_)
  · refine g_aload_n 1 dX11_ahead_31 rfl rfl ?_
    refine g_getR dX11_ahead_32 fl11_42 rfl c0 (w11_5 hW c0) ?_
    refine g_getR dX11_ahead_35 fl11_56 rfl sh30 (w10_0 hW sh30) ?_
    refine g_iload_n 2 dX11_ahead_38 rfl rfl ?_
    refine g_ls [1, 2, 3, 4, 0] (ls2 := [(0, .ref a0), (1, .int x1), (2, .int x2), (3, .int x3), (4, .int (1 : Int32))]) rfl ?_
    exact g_callV (As := [.int x1]) (st := []) dX11_ahead_39 clX11_135 (s10_0 sh30) rfl rfl (Nat.le_of_ble_eq_true rfl) (rmSH (by decide) (by decide)) (h1 q1)
  · refine g_aload_n 1 dX11_ahead_17 rfl rfl ?_
    refine g_getR dX11_ahead_18 fl11_42 rfl c0 (w11_5 hW c0) ?_
    refine g_getR dX11_ahead_21 fl11_56 rfl sh30 (w10_0 hW sh30) ?_
    refine g_iload_n 2 dX11_ahead_24 rfl rfl ?_
    refine g_ls [1, 2, 3, 4, 0] (ls2 := [(0, .ref a0), (1, .int x1), (2, .int x2), (3, .int x3), (4, .int (1 : Int32))]) rfl ?_
    exact g_callV (As := [.int x1]) (st := []) dX11_ahead_25 clX11_158 (s10_0 sh30) rfl rfl (Nat.le_of_ble_eq_true rfl) (rmSH (by decide) (by decide)) (h2 q1)
theorem bX11_ahead_42 {X : pX} {Q : Option Value → pMem → Prop} {m : pMem} {a0 : Nat} {x1 : Int32} {x2 : Int32} {x3 : Int32} {x4 : Int32} {xs0 : Int32} (hW : Wf m) (c0 : SH[a0]? = some (.inl 11))
    (h1 : xs0 = 0 → Q (some (.int (-2 : Int32))) m)
    (h2 : ¬ (xs0 = 0) → x3 < 0 → Q (some (.int (-2 : Int32))) m)
    (h3 : ¬ (xs0 = 0) → ¬ (x3 < 0) → (2 : Int32) < x3 → Q (some (.int (-2 : Int32))) m)
    (h4 : ¬ (xs0 = 0) → ¬ (x3 < 0) → ¬ ((2 : Int32) < x3) → x2 < 0 → Q (some (.int (-2 : Int32))) m)
    (h5 : ¬ (xs0 = 0) → ¬ (x3 < 0) → ¬ ((2 : Int32) < x3) → ¬ (x2 < 0) → x2 ≤ (100 : Int32) → Cl X 6 mX11_goOnFromNow [.ref a0, .int x2] m (fun v m2 => Go X 7 mX11_ahead Q 76 [(0, .ref a0), (1, .int x1), (2, .int x2), (3, .int x3), (4, .int x4), (5, .int xs0)] (v.toList ++ []) m2))
    (h6 : ¬ (xs0 = 0) → ¬ (x3 < 0) → ¬ ((2 : Int32) < x3) → ¬ (x2 < 0) → ¬ (x2 ≤ (100 : Int32)) → Q (some (.int (-2 : Int32))) m) :
    Go X 7 mX11_ahead Q 42 [(0, .ref a0), (1, .int x1), (2, .int x2), (3, .int x3), (4, .int x4)] [.int xs0] m := by
  refine g_istore (ls2 := [(5, .int xs0), (0, .ref a0), (1, .int x1), (2, .int x2), (3, .int x3), (4, .int x4)]) dX11_ahead_42 (by decide) rfl ?_
  refine g_iload 0 dX11_ahead_44 rfl ?_
  refine g_if_eq 68 dX11_ahead_46 (by decide) (fun q1 => ?_) (fun q1 => ?_)
  · refine g_bipush (v := -2) dX11_ahead_68 (by decide) ?_
    exact g_iret dX11_ahead_70 rfl enSH (h1 q1)
  · refine g_iload_n 4 dX11_ahead_49 rfl rfl ?_
    refine g_if_lt 68 dX11_ahead_50 (by decide) (fun q2 => ?_) (fun q2 => ?_)
    · refine g_bipush (v := -2) dX11_ahead_68 (by decide) ?_
      exact g_iret dX11_ahead_70 rfl enSH (h2 q1 q2)
    · refine g_iload_n 4 dX11_ahead_53 rfl rfl ?_
      refine g_iconst (v := 2) dX11_ahead_54 (by decide) ?_
      refine g_icmp_gt 68 dX11_ahead_55 (by decide) (fun q3 => ?_) (fun q3 => ?_)
      · refine g_bipush (v := -2) dX11_ahead_68 (by decide) ?_
        exact g_iret dX11_ahead_70 rfl enSH (h3 q1 q2 q3)
      · refine g_iload_n 3 dX11_ahead_58 rfl rfl ?_
        refine g_if_lt 68 dX11_ahead_59 (by decide) (fun q4 => ?_) (fun q4 => ?_)
        · refine g_bipush (v := -2) dX11_ahead_68 (by decide) ?_
          exact g_iret dX11_ahead_70 rfl enSH (h4 q1 q2 q3 q4)
        · refine g_iload_n 3 dX11_ahead_62 rfl rfl ?_
          refine g_bipush (v := 100) dX11_ahead_63 (by decide) ?_
          refine g_icmp_le 71 dX11_ahead_65 (by decide) (fun q5 => ?_) (fun q5 => ?_)
          · refine g_aload_n 1 dX11_ahead_71 rfl rfl ?_
            refine g_iload_n 3 dX11_ahead_72 rfl rfl ?_
            refine g_ls [1, 2, 3, 4, 5, 0] (ls2 := [(0, .ref a0), (1, .int x1), (2, .int x2), (3, .int x3), (4, .int x4), (5, .int xs0)]) rfl ?_
            exact g_callV (As := [.int x2]) (st := []) dX11_ahead_73 clX11_249 c0 rfl rfl (Nat.le_of_ble_eq_true rfl) (rmSH (by decide) (by decide)) (h5 q1 q2 q3 q4 q5)
          · refine g_bipush (v := -2) dX11_ahead_68 (by decide) ?_
            exact g_iret dX11_ahead_70 rfl enSH (h6 q1 q2 q3 q4 q5)
theorem bX11_ahead_28 {X : pX} {Q : Option Value → pMem → Prop} {m : pMem} {a0 : Nat} {x1 : Int32} {x2 : Int32} {x3 : Int32} {x4 : Int32} {xs0 : Int32} (hW : Wf m) (c0 : SH[a0]? = some (.inl 11))
    (h1 : Go X 7 mX11_ahead Q 42 [(0, .ref a0), (1, .int x1), (2, .int x2), (3, .int x3), (4, .int x4)] [.int xs0] m) :
    Go X 7 mX11_ahead Q 28 [(0, .ref a0), (1, .int x1), (2, .int x2), (3, .int x3), (4, .int x4)] [.int xs0] m := by
  refine g_goto 42 dX11_ahead_28 (by decide) ?_
  exact g_ls [0, 1, 2, 3, 4] rfl h1
theorem bX11_ahead_76 {X : pX} {Q : Option Value → pMem → Prop} {m : pMem} {a0 : Nat} {x1 : Int32} {x2 : Int32} {x3 : Int32} {x4 : Int32} {x5 : Int32} (hW : Wf m) (c0 : SH[a0]? = some (.inl 11))
    (h1 : x4 = 0 → ¬ x3 = 0 → vp_in x1 4)
    (h2 : x4 = 0 → ¬ x3 = 0 → Q (some (.int (mI m 525 x1.toNatClampNeg))) m)
    (h3 : x4 = 0 → x3 = 0 → vp_in x1 4)
    (h4 : x4 = 0 → x3 = 0 → Q (some (.int (mI m 524 x1.toNatClampNeg))) m)
    (h5 : ¬ (x4 = 0) → vp_in x1 6)
    (h6 : ¬ (x4 = 0) → Q (some (.int (mI m 526 x1.toNatClampNeg))) m) :
    Go X 7 mX11_ahead Q 76 [(0, .ref a0), (1, .int x1), (2, .int x2), (3, .int x3), (4, .int x4), (5, .int x5)] [] m := by
  refine g_iload 4 dX11_ahead_76 rfl ?_
  refine g_if_eq 91 dX11_ahead_78 (by decide) (fun q1 => ?_) (fun q1 => ?_)
  · refine g_iload_n 3 dX11_ahead_91 rfl rfl ?_
    refine g_if_ne 107 dX11_ahead_92 (by decide) (fun q2 => ?_) (fun q2 => ?_)
    · refine g_aload_n 0 dX11_ahead_107 rfl rfl ?_
      refine g_getR dX11_ahead_108 fl11_90 rfl c0 (w11_11 hW c0) ?_
      refine g_getR dX11_ahead_111 fl11_149 rfl sh523 (w8_2 hW sh523) ?_
      refine g_iload_n 1 dX11_ahead_114 rfl rfl ?_
      refine g_iald (j := x1.toNatClampNeg) dX11_ahead_115 (s8_2 sh523) (h1 q1 q2) rfl ?_
      exact g_iret dX11_ahead_116 rfl enSH (h2 q1 q2)
    · refine g_aload_n 0 dX11_ahead_95 rfl rfl ?_
      refine g_getR dX11_ahead_96 fl11_90 rfl c0 (w11_11 hW c0) ?_
      refine g_getR dX11_ahead_99 fl11_146 rfl sh523 (w8_1 hW sh523) ?_
      refine g_iload_n 1 dX11_ahead_102 rfl rfl ?_
      refine g_iald (j := x1.toNatClampNeg) dX11_ahead_103 (s8_1 sh523) (h3 q1 q2) rfl ?_
      refine g_goto 116 dX11_ahead_104 (by decide) ?_
      exact g_iret dX11_ahead_116 rfl enSH (h4 q1 q2)
  · refine g_aload_n 0 dX11_ahead_81 rfl rfl ?_
    refine g_getR dX11_ahead_82 fl11_90 rfl c0 (w11_11 hW c0) ?_
    refine g_getR dX11_ahead_85 fl11_167 rfl sh523 (w8_3 hW sh523) ?_
    refine g_iload_n 1 dX11_ahead_88 rfl rfl ?_
    refine g_iald (j := x1.toNatClampNeg) dX11_ahead_89 (s8_3 sh523) (h5 q1) rfl ?_
    exact g_iret dX11_ahead_90 rfl enSH (h6 q1)
theorem bX11_comes_0 {X : pX} {Q : Option Value → pMem → Prop} {m : pMem} {a0 : Nat} {x1 : Int32} (hW : Wf m) (c0 : SH[a0]? = some (.inl 11))
    (h1 : Cl X 0 mX4_isPerson [.ref 31, .int x1] m (fun v m2 => Go X 5 mX11_comes Q 11 [(0, .ref a0), (1, .int x1)] (v.toList ++ []) m2)) :
    Go X 5 mX11_comes Q 0 [(0, .ref a0), (1, .int x1)] [] m := by
  refine g_aload_n 0 dX11_comes_0 rfl rfl ?_
  refine g_getR dX11_comes_1 fl11_42 rfl c0 (w11_5 hW c0) ?_
  refine g_getR dX11_comes_4 fl11_56 rfl sh30 (w10_0 hW sh30) ?_
  refine g_iload_n 1 dX11_comes_7 rfl rfl ?_
  exact g_callV (As := [.int x1]) (st := []) dX11_comes_8 clX11_135 (s10_0 sh30) rfl rfl (Nat.le_of_ble_eq_true rfl) (rmSH (by decide) (by decide)) h1
theorem bX11_comes_11 {X : pX} {Q : Option Value → pMem → Prop} {m : pMem} {a0 : Nat} {x1 : Int32} {xs0 : Int32} (hW : Wf m) (c0 : SH[a0]? = some (.inl 11))
    (h1 : ¬ xs0 = 0 → Cl X 1 mX8_copy [.ref 523, .ref 37] m (fun v m2 => Go X 5 mX11_comes Q 30 [(0, .ref a0), (1, .int x1)] (v.toList ++ []) m2))
    (h2 : xs0 = 0 → Q (some (.int (-1 : Int32))) m) :
    Go X 5 mX11_comes Q 11 [(0, .ref a0), (1, .int x1)] [.int xs0] m := by
  refine g_if_ne 16 dX11_comes_11 (by decide) (fun q1 => ?_) (fun q1 => ?_)
  · refine g_aload_n 0 dX11_comes_16 rfl rfl ?_
    refine g_getR dX11_comes_17 fl11_90 rfl c0 (w11_11 hW c0) ?_
    refine g_aload_n 0 dX11_comes_20 rfl rfl ?_
    refine g_getR dX11_comes_21 fl11_42 rfl c0 (w11_5 hW c0) ?_
    refine g_getR dX11_comes_24 fl11_69 rfl sh30 (w10_1 hW sh30) ?_
    exact g_callV (As := [.ref 37]) (st := []) dX11_comes_27 clX11_252 sh523 rfl rfl (Nat.le_of_ble_eq_true rfl) (rmSH (by decide) (by decide)) (h1 q1)
  · refine g_iconst (v := -1) dX11_comes_14 (by decide) ?_
    exact g_iret dX11_comes_15 rfl enSH (h2 q1)
theorem bX11_comes_30 {X : pX} {Q : Option Value → pMem → Prop} {m : pMem} {a0 : Nat} {x1 : Int32} (hW : Wf m) (c0 : SH[a0]? = some (.inl 11))
    (h1 : Go X 5 mX11_comes Q 32 [(0, .ref a0), (1, .int x1), (2, .int (0 : Int32))] [] m) :
    Go X 5 mX11_comes Q 30 [(0, .ref a0), (1, .int x1)] [] m := by
  refine g_iconst (v := 0) dX11_comes_30 (by decide) ?_
  refine g_istore_n (ls2 := [(2, .int (0 : Int32)), (0, .ref a0), (1, .int x1)]) dX11_comes_31 rfl (by decide) rfl ?_
  exact g_ls [1, 2, 0] rfl h1
theorem bX11_comes_32 {X : pX} {Q : Option Value → pMem → Prop} {m : pMem} {a0 : Nat} {x1 : Int32} {x2 : Int32} (hW : Wf m) (c0 : SH[a0]? = some (.inl 11))
    (h1 : (200 : Int32) ≤ x2 → Q (some (.int (-2 : Int32))) m)
    (h2 : ¬ ((200 : Int32) ≤ x2) → vp_in x1 4)
    (h3 : ¬ ((200 : Int32) ≤ x2) → ¬ (mI m 524 x1.toNatClampNeg) = (mI m 31 2) → Cl X 1 mX11_inForce [.ref a0] m (fun v m2 => Go X 5 mX11_comes Q 81 [(0, .ref a0), (1, .int x1), (2, .int x2)] (v.toList ++ [.ref 523, .ref 512]) m2))
    (h4 : ¬ ((200 : Int32) ≤ x2) → (mI m 524 x1.toNatClampNeg) = (mI m 31 2) → Q (some (.int (mI m 523 0))) m) :
    Go X 5 mX11_comes Q 32 [(0, .ref a0), (1, .int x1), (2, .int x2)] [] m := by
  refine g_iload_n 2 dX11_comes_32 rfl rfl ?_
  refine g_sipush (v := 200) dX11_comes_33 (by decide) ?_
  refine g_icmp_ge 91 dX11_comes_36 (by decide) (fun q1 => ?_) (fun q1 => ?_)
  · refine g_bipush (v := -2) dX11_comes_91 (by decide) ?_
    exact g_iret dX11_comes_93 rfl enSH (h1 q1)
  · refine g_aload_n 0 dX11_comes_39 rfl rfl ?_
    refine g_getR dX11_comes_40 fl11_90 rfl c0 (w11_11 hW c0) ?_
    refine g_getR dX11_comes_43 fl11_146 rfl sh523 (w8_1 hW sh523) ?_
    refine g_iload_n 1 dX11_comes_46 rfl rfl ?_
    refine g_iald (j := x1.toNatClampNeg) dX11_comes_47 (s8_1 sh523) (h2 q1) rfl ?_
    refine g_aload_n 0 dX11_comes_48 rfl rfl ?_
    refine g_getR dX11_comes_49 fl11_42 rfl c0 (w11_5 hW c0) ?_
    refine g_getR dX11_comes_52 fl11_56 rfl sh30 (w10_0 hW sh30) ?_
    refine g_getI dX11_comes_55 fl11_179 (s10_0 sh30) ?_
    refine g_icmp_ne 69 dX11_comes_58 (by decide) (fun q2 => ?_) (fun q2 => ?_)
    · refine g_aload_n 0 dX11_comes_69 rfl rfl ?_
      refine g_getR dX11_comes_70 fl11_63 rfl c0 (w11_8 hW c0) ?_
      refine g_aload_n 0 dX11_comes_73 rfl rfl ?_
      refine g_getR dX11_comes_74 fl11_90 rfl c0 (w11_11 hW c0) ?_
      refine g_aload_n 0 dX11_comes_77 rfl rfl ?_
      exact g_callV (As := []) (st := [.ref 523, .ref 512]) dX11_comes_78 clX11_225 c0 rfl rfl (Nat.le_of_ble_eq_true rfl) (rmSH (by decide) (by decide)) (h3 q1 q2)
    · refine g_aload_n 0 dX11_comes_61 rfl rfl ?_
      refine g_getR dX11_comes_62 fl11_90 rfl c0 (w11_11 hW c0) ?_
      refine g_getI dX11_comes_65 fl11_185 sh523 ?_
      exact g_iret dX11_comes_68 rfl enSH (h4 q1 q2)
theorem bX11_comes_81 {X : pX} {Q : Option Value → pMem → Prop} {m : pMem} {a0 : Nat} {x1 : Int32} {x2 : Int32} {as0 : Nat} {as1 : Nat} {as2 : Nat} (hW : Wf m) (c0 : SH[a0]? = some (.inl 11)) (cs0 : SH[as0]? = some (.inl 6)) (cs1 : SH[as1]? = some (.inl 8)) (cs2 : SH[as2]? = some (.inl 0))
    (h1 : Cl X 4 mX0_oneDay [.ref as2, .ref as1, .ref as0] m (fun v m2 => Go X 5 mX11_comes Q 84 [(0, .ref a0), (1, .int x1), (2, .int x2)] (v.toList ++ []) m2)) :
    Go X 5 mX11_comes Q 81 [(0, .ref a0), (1, .int x1), (2, .int x2)] [.ref as0, .ref as1, .ref as2] m := by
  exact g_callV (As := [.ref as1, .ref as0]) (st := []) dX11_comes_81 clX11_229 cs2 rfl rfl (Nat.le_of_ble_eq_true rfl) (rmSH (by decide) (by decide)) h1
theorem bX11_comes_81v1 {X : pX} {Q : Option Value → pMem → Prop} {m : pMem} {a0 : Nat} {x1 : Int32} {x2 : Int32} {as1 : Nat} {as2 : Nat} (hW : Wf m) (c0 : SH[a0]? = some (.inl 11)) (cs1 : SH[as1]? = some (.inl 8)) (cs2 : SH[as2]? = some (.inl 0))
    (h1 : Cl X 4 mX0_oneDay [.ref as2, .ref as1, .null] m (fun v m2 => Go X 5 mX11_comes Q 84 [(0, .ref a0), (1, .int x1), (2, .int x2)] (v.toList ++ []) m2)) :
    Go X 5 mX11_comes Q 81 [(0, .ref a0), (1, .int x1), (2, .int x2)] [.null, .ref as1, .ref as2] m := by
  exact g_callV (As := [.ref as1, .null]) (st := []) dX11_comes_81 clX11_229 cs2 rfl rfl (Nat.le_of_ble_eq_true rfl) (rmSH (by decide) (by decide)) h1
theorem bX11_comes_84 {X : pX} {Q : Option Value → pMem → Prop} {m : pMem} {a0 : Nat} {x1 : Int32} {x2 : Int32} {xs0 : Int32} (hW : Wf m) (c0 : SH[a0]? = some (.inl 11))
    (h1 : Go X 5 mX11_comes Q 32 [(0, .ref a0), (1, .int x1), (2, .int (x2 + (1 : Int32)))] [] m) :
    Go X 5 mX11_comes Q 84 [(0, .ref a0), (1, .int x1), (2, .int x2)] [.int xs0] m := by
  refine g_pop dX11_comes_84 rfl ?_
  refine g_iinc (v := x2 + (1 : Int32)) (ls2 := [(2, .int (x2 + (1 : Int32))), (0, .ref a0), (1, .int x1)]) 2 dX11_comes_85 rfl rfl (by decide) rfl ?_
  refine g_goto 32 dX11_comes_88 (by decide) ?_
  exact g_ls [1, 2, 0] rfl h1
theorem bX11_wealth_0 {X : pX} {Q : Option Value → pMem → Prop} {m : pMem} {a0 : Nat} {x1 : Int32} (hW : Wf m) (c0 : SH[a0]? = some (.inl 11))
    (h1 : (mI m 31 0) = 0 → Q (some (.int (-1 : Int32))) m)
    (h2 : ¬ ((mI m 31 0) = 0) → x1 < 0 → Q (some (.int (-1 : Int32))) m)
    (h3 : ¬ ((mI m 31 0) = 0) → ¬ (x1 < 0) → x1 ≤ (100 : Int32) → Cl X 6 mX11_goOnFromNow [.ref a0, .int x1] m (fun v m2 => Go X 7 mX11_wealth Q 30 [(0, .ref a0), (1, .int x1)] (v.toList ++ []) m2))
    (h4 : ¬ ((mI m 31 0) = 0) → ¬ (x1 < 0) → ¬ (x1 ≤ (100 : Int32)) → Q (some (.int (-1 : Int32))) m) :
    Go X 7 mX11_wealth Q 0 [(0, .ref a0), (1, .int x1)] [] m := by
  refine g_aload_n 0 dX11_wealth_0 rfl rfl ?_
  refine g_getR dX11_wealth_1 fl11_42 rfl c0 (w11_5 hW c0) ?_
  refine g_getR dX11_wealth_4 fl11_56 rfl sh30 (w10_0 hW sh30) ?_
  refine g_getZ dX11_wealth_7 fl11_217 (s10_0 sh30) ?_
  refine g_if_eq 23 dX11_wealth_10 (by decide) (fun q1 => ?_) (fun q1 => ?_)
  · refine g_iconst (v := -1) dX11_wealth_23 (by decide) ?_
    exact g_iret dX11_wealth_24 rfl enSH (h1 q1)
  · refine g_iload_n 1 dX11_wealth_13 rfl rfl ?_
    refine g_if_lt 23 dX11_wealth_14 (by decide) (fun q2 => ?_) (fun q2 => ?_)
    · refine g_iconst (v := -1) dX11_wealth_23 (by decide) ?_
      exact g_iret dX11_wealth_24 rfl enSH (h2 q1 q2)
    · refine g_iload_n 1 dX11_wealth_17 rfl rfl ?_
      refine g_bipush (v := 100) dX11_wealth_18 (by decide) ?_
      refine g_icmp_le 25 dX11_wealth_20 (by decide) (fun q3 => ?_) (fun q3 => ?_)
      · refine g_aload_n 0 dX11_wealth_25 rfl rfl ?_
        refine g_iload_n 1 dX11_wealth_26 rfl rfl ?_
        exact g_callV (As := [.int x1]) (st := []) dX11_wealth_27 clX11_249 c0 rfl rfl (Nat.le_of_ble_eq_true rfl) (rmSH (by decide) (by decide)) (h3 q1 q2 q3)
      · refine g_iconst (v := -1) dX11_wealth_23 (by decide) ?_
        exact g_iret dX11_wealth_24 rfl enSH (h4 q1 q2 q3)
theorem bX11_wealth_30 {X : pX} {Q : Option Value → pMem → Prop} {m : pMem} {a0 : Nat} {x1 : Int32} (hW : Wf m) (c0 : SH[a0]? = some (.inl 11))
    (h1 : Cl X 2 mX0_worthInTown [.ref 512, .ref 523] m (fun v m2 => Go X 7 mX11_wealth Q 41 [(0, .ref a0), (1, .int x1)] (v.toList ++ []) m2)) :
    Go X 7 mX11_wealth Q 30 [(0, .ref a0), (1, .int x1)] [] m := by
  refine g_aload_n 0 dX11_wealth_30 rfl rfl ?_
  refine g_getR dX11_wealth_31 fl11_63 rfl c0 (w11_8 hW c0) ?_
  refine g_aload_n 0 dX11_wealth_34 rfl rfl ?_
  refine g_getR dX11_wealth_35 fl11_90 rfl c0 (w11_11 hW c0) ?_
  exact g_callV (As := [.ref 523]) (st := []) dX11_wealth_38 clX11_192 sh512 rfl rfl (Nat.le_of_ble_eq_true rfl) (rmSH (by decide) (by decide)) h1
theorem bX11_wealth_41 {X : pX} {Q : Option Value → pMem → Prop} {m : pMem} {a0 : Nat} {x1 : Int32} {xs0 : Int32} (hW : Wf m) (c0 : SH[a0]? = some (.inl 11))
    (h1 : Q (some (.int xs0)) m) :
    Go X 7 mX11_wealth Q 41 [(0, .ref a0), (1, .int x1)] [.int xs0] m := by
  exact g_iret dX11_wealth_41 rfl enSH h1
theorem bX11_robbed_0 {X : pX} {Q : Option Value → pMem → Prop} {m : pMem} {a0 : Nat} {x1 : Int32} {x2 : Int32} (hW : Wf m) (c0 : SH[a0]? = some (.inl 11))
    (h1 : (mI m 31 0) = 0 → Q (some (.int (-2 : Int32))) m)
    (h2 : ¬ ((mI m 31 0) = 0) → x1 < (1 : Int32) → Q (some (.int (-2 : Int32))) m)
    (h3 : ¬ ((mI m 31 0) = 0) → ¬ (x1 < (1 : Int32)) → (60 : Int32) < x1 → Q (some (.int (-2 : Int32))) m)
    (h4 : ¬ ((mI m 31 0) = 0) → ¬ (x1 < (1 : Int32)) → ¬ ((60 : Int32) < x1) → x2 < 0 → Q (some (.int (-2 : Int32))) m)
    (h5 : ¬ ((mI m 31 0) = 0) → ¬ (x1 < (1 : Int32)) → ¬ ((60 : Int32) < x1) → ¬ (x2 < 0) → x2 ≤ (1 : Int32) → Cl X 6 mX11_wealthWithout [.ref a0, .int (-1 : Int32), .int x1] m (fun v m2 => Go X 7 mX11_robbed Q 44 [(0, .ref a0), (1, .int x1), (2, .int x2), (3, .int (-1 : Int32))] (v.toList ++ []) m2))
    (h6 : ¬ ((mI m 31 0) = 0) → ¬ (x1 < (1 : Int32)) → ¬ ((60 : Int32) < x1) → ¬ (x2 < 0) → ¬ (x2 ≤ (1 : Int32)) → Q (some (.int (-2 : Int32))) m) :
    Go X 7 mX11_robbed Q 0 [(0, .ref a0), (1, .int x1), (2, .int x2)] [] m := by
  refine g_aload_n 0 dX11_robbed_0 rfl rfl ?_
  refine g_getR dX11_robbed_1 fl11_42 rfl c0 (w11_5 hW c0) ?_
  refine g_getR dX11_robbed_4 fl11_56 rfl sh30 (w10_0 hW sh30) ?_
  refine g_getZ dX11_robbed_7 fl11_217 (s10_0 sh30) ?_
  refine g_if_eq 33 dX11_robbed_10 (by decide) (fun q1 => ?_) (fun q1 => ?_)
  · refine g_bipush (v := -2) dX11_robbed_33 (by decide) ?_
    exact g_iret dX11_robbed_35 rfl enSH (h1 q1)
  · refine g_iload_n 1 dX11_robbed_13 rfl rfl ?_
    refine g_iconst (v := 1) dX11_robbed_14 (by decide) ?_
    refine g_icmp_lt 33 dX11_robbed_15 (by decide) (fun q2 => ?_) (fun q2 => ?_)
    · refine g_bipush (v := -2) dX11_robbed_33 (by decide) ?_
      exact g_iret dX11_robbed_35 rfl enSH (h2 q1 q2)
    · refine g_iload_n 1 dX11_robbed_18 rfl rfl ?_
      refine g_bipush (v := 60) dX11_robbed_19 (by decide) ?_
      refine g_icmp_gt 33 dX11_robbed_21 (by decide) (fun q3 => ?_) (fun q3 => ?_)
      · refine g_bipush (v := -2) dX11_robbed_33 (by decide) ?_
        exact g_iret dX11_robbed_35 rfl enSH (h3 q1 q2 q3)
      · refine g_iload_n 2 dX11_robbed_24 rfl rfl ?_
        refine g_if_lt 33 dX11_robbed_25 (by decide) (fun q4 => ?_) (fun q4 => ?_)
        · refine g_bipush (v := -2) dX11_robbed_33 (by decide) ?_
          exact g_iret dX11_robbed_35 rfl enSH (h4 q1 q2 q3 q4)
        · refine g_iload_n 2 dX11_robbed_28 rfl rfl ?_
          refine g_iconst (v := 1) dX11_robbed_29 (by decide) ?_
          refine g_icmp_le 36 dX11_robbed_30 (by decide) (fun q5 => ?_) (fun q5 => ?_)
          · refine g_iconst (v := -1) dX11_robbed_36 (by decide) ?_
            refine g_istore_n (ls2 := [(3, .int (-1 : Int32)), (0, .ref a0), (1, .int x1), (2, .int x2)]) dX11_robbed_37 rfl (by decide) rfl ?_
            refine g_aload_n 1 dX11_robbed_38 rfl rfl ?_
            refine g_iconst (v := -1) dX11_robbed_39 (by decide) ?_
            refine g_iload_n 2 dX11_robbed_40 rfl rfl ?_
            refine g_ls [1, 2, 3, 0] (ls2 := [(0, .ref a0), (1, .int x1), (2, .int x2), (3, .int (-1 : Int32))]) rfl ?_
            exact g_callV (As := [.int (-1 : Int32), .int x1]) (st := []) dX11_robbed_41 clX11_255 c0 rfl rfl (Nat.le_of_ble_eq_true rfl) (rmSH (by decide) (by decide)) (h5 q1 q2 q3 q4 q5)
          · refine g_bipush (v := -2) dX11_robbed_33 (by decide) ?_
            exact g_iret dX11_robbed_35 rfl enSH (h6 q1 q2 q3 q4 q5)
theorem bX11_robbed_44 {X : pX} {Q : Option Value → pMem → Prop} {m : pMem} {a0 : Nat} {x1 : Int32} {x2 : Int32} {x3 : Int32} {xs0 : Int32} (hW : Wf m) (c0 : SH[a0]? = some (.inl 11))
    (h1 : Go X 7 mX11_robbed Q 49 [(0, .ref a0), (1, .int x1), (2, .int x2), (3, .int x3), (4, .int xs0), (5, .int (0 : Int32))] [] m) :
    Go X 7 mX11_robbed Q 44 [(0, .ref a0), (1, .int x1), (2, .int x2), (3, .int x3)] [.int xs0] m := by
  refine g_istore (ls2 := [(4, .int xs0), (0, .ref a0), (1, .int x1), (2, .int x2), (3, .int x3)]) dX11_robbed_44 (by decide) rfl ?_
  refine g_iconst (v := 0) dX11_robbed_46 (by decide) ?_
  refine g_istore (ls2 := [(5, .int (0 : Int32)), (4, .int xs0), (0, .ref a0), (1, .int x1), (2, .int x2), (3, .int x3)]) dX11_robbed_47 (by decide) rfl ?_
  exact g_ls [2, 3, 4, 5, 1, 0] rfl h1
theorem bX11_robbed_49 {X : pX} {Q : Option Value → pMem → Prop} {m : pMem} {a0 : Nat} {x1 : Int32} {x2 : Int32} {x3 : Int32} {x4 : Int32} {x5 : Int32} (hW : Wf m) (c0 : SH[a0]? = some (.inl 11))
    (h1 : (mI m 31 4) ≤ x5 → ¬ x2 = 0 → Q (some (.int x4)) m)
    (h2 : (mI m 31 4) ≤ x5 → x2 = 0 → Q (some (.int x3)) m)
    (h3 : ¬ ((mI m 31 4) ≤ x5) → Cl X 6 mX11_wealthWithout [.ref a0, .int x5, .int x1] m (fun v m2 => Go X 7 mX11_robbed Q 71 [(0, .ref a0), (1, .int x1), (2, .int x2), (3, .int x3), (4, .int x4), (5, .int x5)] (v.toList ++ []) m2)) :
    Go X 7 mX11_robbed Q 49 [(0, .ref a0), (1, .int x1), (2, .int x2), (3, .int x3), (4, .int x4), (5, .int x5)] [] m := by
  refine g_iload 5 dX11_robbed_49 rfl ?_
  refine g_aload_n 0 dX11_robbed_51 rfl rfl ?_
  refine g_getR dX11_robbed_52 fl11_42 rfl c0 (w11_5 hW c0) ?_
  refine g_getR dX11_robbed_55 fl11_56 rfl sh30 (w10_0 hW sh30) ?_
  refine g_getI dX11_robbed_58 fl11_182 (s10_0 sh30) ?_
  refine g_icmp_ge 93 dX11_robbed_61 (by decide) (fun q1 => ?_) (fun q1 => ?_)
  · refine g_iload_n 2 dX11_robbed_93 rfl rfl ?_
    refine g_if_ne 101 dX11_robbed_94 (by decide) (fun q2 => ?_) (fun q2 => ?_)
    · refine g_iload 4 dX11_robbed_101 rfl ?_
      exact g_iret dX11_robbed_103 rfl enSH (h1 q1 q2)
    · refine g_iload_n 3 dX11_robbed_97 rfl rfl ?_
      refine g_goto 103 dX11_robbed_98 (by decide) ?_
      exact g_iret dX11_robbed_103 rfl enSH (h2 q1 q2)
  · refine g_aload_n 0 dX11_robbed_64 rfl rfl ?_
    refine g_iload 5 dX11_robbed_65 rfl ?_
    refine g_iload_n 1 dX11_robbed_67 rfl rfl ?_
    exact g_callV (As := [.int x5, .int x1]) (st := []) dX11_robbed_68 clX11_255 c0 rfl rfl (Nat.le_of_ble_eq_true rfl) (rmSH (by decide) (by decide)) (h3 q1)
theorem bX11_robbed_71 {X : pX} {Q : Option Value → pMem → Prop} {m : pMem} {a0 : Nat} {x1 : Int32} {x2 : Int32} {x3 : Int32} {x4 : Int32} {x5 : Int32} {xs0 : Int32} (hW : Wf m) (c0 : SH[a0]? = some (.inl 11))
    (h1 : xs0 ≤ x4 → Go X 7 mX11_robbed Q 49 [(0, .ref a0), (1, .int x1), (2, .int x2), (3, .int x3), (4, .int x4), (5, .int (x5 + (1 : Int32)))] [] m)
    (h2 : ¬ (xs0 ≤ x4) → Go X 7 mX11_robbed Q 49 [(0, .ref a0), (1, .int x1), (2, .int x2), (3, .int x5), (4, .int xs0), (5, .int (x5 + (1 : Int32)))] [] m) :
    Go X 7 mX11_robbed Q 71 [(0, .ref a0), (1, .int x1), (2, .int x2), (3, .int x3), (4, .int x4), (5, .int x5)] [.int xs0] m := by
  refine g_istore (ls2 := [(6, .int xs0), (0, .ref a0), (1, .int x1), (2, .int x2), (3, .int x3), (4, .int x4), (5, .int x5)]) dX11_robbed_71 (by decide) rfl ?_
  refine g_iload 0 dX11_robbed_73 rfl ?_
  refine g_iload 5 dX11_robbed_75 rfl ?_
  refine g_icmp_le 87 dX11_robbed_77 (by decide) (fun q1 => ?_) (fun q1 => ?_)
  · refine g_iinc (v := x5 + (1 : Int32)) (ls2 := [(5, .int (x5 + (1 : Int32))), (6, .int xs0), (0, .ref a0), (1, .int x1), (2, .int x2), (3, .int x3), (4, .int x4)]) 6 dX11_robbed_87 rfl rfl (by decide) rfl ?_
    refine g_goto 49 dX11_robbed_90 (by decide) ?_
    exact g_ls [2, 3, 4, 5, 6, 0] rfl (h1 q1)
  · refine g_iload 0 dX11_robbed_80 rfl ?_
    refine g_istore (ls2 := [(4, .int xs0), (6, .int xs0), (0, .ref a0), (1, .int x1), (2, .int x2), (3, .int x3), (5, .int x5)]) dX11_robbed_82 (by decide) rfl ?_
    refine g_iload 6 dX11_robbed_84 rfl ?_
    refine g_istore_n (ls2 := [(3, .int x5), (4, .int xs0), (6, .int xs0), (0, .ref a0), (1, .int x1), (2, .int x2), (5, .int x5)]) dX11_robbed_86 rfl (by decide) rfl ?_
    refine g_iinc (v := x5 + (1 : Int32)) (ls2 := [(5, .int (x5 + (1 : Int32))), (3, .int x5), (4, .int xs0), (6, .int xs0), (0, .ref a0), (1, .int x1), (2, .int x2)]) 6 dX11_robbed_87 rfl rfl (by decide) rfl ?_
    refine g_goto 49 dX11_robbed_90 (by decide) ?_
    exact g_ls [4, 5, 6, 1, 2, 0] rfl (h2 q1)
theorem bX11_wealthWithout_0 {X : pX} {Q : Option Value → pMem → Prop} {m : pMem} {a0 : Nat} {x1 : Int32} {x2 : Int32} (hW : Wf m) (c0 : SH[a0]? = some (.inl 11))
    (h1 : Cl X 1 mX8_copy [.ref 523, .ref 37] m (fun v m2 => Go X 6 mX11_wealthWithout Q 14 [(0, .ref a0), (1, .int x1), (2, .int x2)] (v.toList ++ []) m2)) :
    Go X 6 mX11_wealthWithout Q 0 [(0, .ref a0), (1, .int x1), (2, .int x2)] [] m := by
  refine g_aload_n 0 dX11_wealthWithout_0 rfl rfl ?_
  refine g_getR dX11_wealthWithout_1 fl11_90 rfl c0 (w11_11 hW c0) ?_
  refine g_aload_n 0 dX11_wealthWithout_4 rfl rfl ?_
  refine g_getR dX11_wealthWithout_5 fl11_42 rfl c0 (w11_5 hW c0) ?_
  refine g_getR dX11_wealthWithout_8 fl11_69 rfl sh30 (w10_1 hW sh30) ?_
  exact g_callV (As := [.ref 37]) (st := []) dX11_wealthWithout_11 clX11_252 sh523 rfl rfl (Nat.le_of_ble_eq_true rfl) (rmSH (by decide) (by decide)) h1
theorem bX11_wealthWithout_14 {X : pX} {Q : Option Value → pMem → Prop} {m : pMem} {a0 : Nat} {x1 : Int32} {x2 : Int32} (hW : Wf m) (c0 : SH[a0]? = some (.inl 11))
    (h1 : Cl X 0 mX4_isThing [.ref 31, .int x1] m (fun v m2 => Go X 6 mX11_wealthWithout Q 25 [(0, .ref a0), (1, .int x1), (2, .int x2)] (v.toList ++ []) m2)) :
    Go X 6 mX11_wealthWithout Q 14 [(0, .ref a0), (1, .int x1), (2, .int x2)] [] m := by
  refine g_aload_n 0 dX11_wealthWithout_14 rfl rfl ?_
  refine g_getR dX11_wealthWithout_15 fl11_42 rfl c0 (w11_5 hW c0) ?_
  refine g_getR dX11_wealthWithout_18 fl11_56 rfl sh30 (w10_0 hW sh30) ?_
  refine g_iload_n 1 dX11_wealthWithout_21 rfl rfl ?_
  exact g_callV (As := [.int x1]) (st := []) dX11_wealthWithout_22 clX11_158 (s10_0 sh30) rfl rfl (Nat.le_of_ble_eq_true rfl) (rmSH (by decide) (by decide)) h1
theorem bX11_wealthWithout_25 {X : pX} {Q : Option Value → pMem → Prop} {m : pMem} {a0 : Nat} {x1 : Int32} {x2 : Int32} {xs0 : Int32} (hW : Wf m) (c0 : SH[a0]? = some (.inl 11))
    (h1 : xs0 = 0 → Cl X 1 mX11_inForce [.ref a0] m (fun v m2 => Go X 6 mX11_wealthWithout Q 50 [(0, .ref a0), (1, .int x1), (2, .int x2)] (v.toList ++ [.ref 523, .ref 512]) m2))
    (h2 : ¬ (xs0 = 0) → vp_in x1 6)
    (h3 : ¬ (xs0 = 0) → Cl X 1 mX11_inForce [.ref a0] (uI m 526 x1.toNatClampNeg (-1 : Int32)) (fun v m2 => Go X 6 mX11_wealthWithout Q 50 [(0, .ref a0), (1, .int x1), (2, .int x2)] (v.toList ++ [.ref 523, .ref 512]) m2)) :
    Go X 6 mX11_wealthWithout Q 25 [(0, .ref a0), (1, .int x1), (2, .int x2)] [.int xs0] m := by
  refine g_if_eq 38 dX11_wealthWithout_25 (by decide) (fun q1 => ?_) (fun q1 => ?_)
  · refine g_aload_n 0 dX11_wealthWithout_38 rfl rfl ?_
    refine g_getR dX11_wealthWithout_39 fl11_63 rfl c0 (w11_8 hW c0) ?_
    refine g_aload_n 0 dX11_wealthWithout_42 rfl rfl ?_
    refine g_getR dX11_wealthWithout_43 fl11_90 rfl c0 (w11_11 hW c0) ?_
    refine g_aload_n 0 dX11_wealthWithout_46 rfl rfl ?_
    exact g_callV (As := []) (st := [.ref 523, .ref 512]) dX11_wealthWithout_47 clX11_225 c0 rfl rfl (Nat.le_of_ble_eq_true rfl) (rmSH (by decide) (by decide)) (h1 q1)
  · refine g_aload_n 0 dX11_wealthWithout_28 rfl rfl ?_
    refine g_getR dX11_wealthWithout_29 fl11_90 rfl c0 (w11_11 hW c0) ?_
    refine g_getR dX11_wealthWithout_32 fl11_167 rfl sh523 (w8_3 hW sh523) ?_
    refine g_iload_n 1 dX11_wealthWithout_35 rfl rfl ?_
    refine g_iconst (v := -1) dX11_wealthWithout_36 (by decide) ?_
    refine g_iast (j := x1.toNatClampNeg) dX11_wealthWithout_37 (s8_3 sh523) (h2 q1) rfl ?_
    refine g_aload_n 0 dX11_wealthWithout_38 rfl rfl ?_
    refine g_getR dX11_wealthWithout_39 fl11_63 rfl c0 (w11_8 hW c0) ?_
    refine g_aload_n 0 dX11_wealthWithout_42 rfl rfl ?_
    refine g_getR dX11_wealthWithout_43 fl11_90 rfl c0 (w11_11 hW c0) ?_
    refine g_aload_n 0 dX11_wealthWithout_46 rfl rfl ?_
    exact g_callV (As := []) (st := [.ref 523, .ref 512]) dX11_wealthWithout_47 clX11_225 c0 rfl rfl (Nat.le_of_ble_eq_true rfl) (rmSH (by decide) (by decide)) (h3 q1)
theorem bX11_wealthWithout_50 {X : pX} {Q : Option Value → pMem → Prop} {m : pMem} {a0 : Nat} {x1 : Int32} {x2 : Int32} {as0 : Nat} {as1 : Nat} {as2 : Nat} (hW : Wf m) (c0 : SH[a0]? = some (.inl 11)) (cs0 : SH[as0]? = some (.inl 6)) (cs1 : SH[as1]? = some (.inl 8)) (cs2 : SH[as2]? = some (.inl 0))
    (h1 : Cl X 5 mX0_goOn [.ref as2, .ref as1, .ref as0, .int x2] m (fun v m2 => Go X 6 mX11_wealthWithout Q 54 [(0, .ref a0), (1, .int x1), (2, .int x2)] (v.toList ++ []) m2)) :
    Go X 6 mX11_wealthWithout Q 50 [(0, .ref a0), (1, .int x1), (2, .int x2)] [.ref as0, .ref as1, .ref as2] m := by
  refine g_iload_n 2 dX11_wealthWithout_50 rfl rfl ?_
  exact g_callV (As := [.ref as1, .ref as0, .int x2]) (st := []) dX11_wealthWithout_51 clX11_259 cs2 rfl rfl (Nat.le_of_ble_eq_true rfl) (rmSH (by decide) (by decide)) h1
theorem bX11_wealthWithout_50v1 {X : pX} {Q : Option Value → pMem → Prop} {m : pMem} {a0 : Nat} {x1 : Int32} {x2 : Int32} {as1 : Nat} {as2 : Nat} (hW : Wf m) (c0 : SH[a0]? = some (.inl 11)) (cs1 : SH[as1]? = some (.inl 8)) (cs2 : SH[as2]? = some (.inl 0))
    (h1 : Cl X 5 mX0_goOn [.ref as2, .ref as1, .null, .int x2] m (fun v m2 => Go X 6 mX11_wealthWithout Q 54 [(0, .ref a0), (1, .int x1), (2, .int x2)] (v.toList ++ []) m2)) :
    Go X 6 mX11_wealthWithout Q 50 [(0, .ref a0), (1, .int x1), (2, .int x2)] [.null, .ref as1, .ref as2] m := by
  refine g_iload_n 2 dX11_wealthWithout_50 rfl rfl ?_
  exact g_callV (As := [.ref as1, .null, .int x2]) (st := []) dX11_wealthWithout_51 clX11_259 cs2 rfl rfl (Nat.le_of_ble_eq_true rfl) (rmSH (by decide) (by decide)) h1
theorem bX11_wealthWithout_54 {X : pX} {Q : Option Value → pMem → Prop} {m : pMem} {a0 : Nat} {x1 : Int32} {x2 : Int32} (hW : Wf m) (c0 : SH[a0]? = some (.inl 11))
    (h1 : Cl X 2 mX0_worthInTown [.ref 512, .ref 523] m (fun v m2 => Go X 6 mX11_wealthWithout Q 65 [(0, .ref a0), (1, .int x1), (2, .int x2)] (v.toList ++ []) m2)) :
    Go X 6 mX11_wealthWithout Q 54 [(0, .ref a0), (1, .int x1), (2, .int x2)] [] m := by
  refine g_aload_n 0 dX11_wealthWithout_54 rfl rfl ?_
  refine g_getR dX11_wealthWithout_55 fl11_63 rfl c0 (w11_8 hW c0) ?_
  refine g_aload_n 0 dX11_wealthWithout_58 rfl rfl ?_
  refine g_getR dX11_wealthWithout_59 fl11_90 rfl c0 (w11_11 hW c0) ?_
  exact g_callV (As := [.ref 523]) (st := []) dX11_wealthWithout_62 clX11_192 sh512 rfl rfl (Nat.le_of_ble_eq_true rfl) (rmSH (by decide) (by decide)) h1
theorem bX11_wealthWithout_65 {X : pX} {Q : Option Value → pMem → Prop} {m : pMem} {a0 : Nat} {x1 : Int32} {x2 : Int32} {xs0 : Int32} (hW : Wf m) (c0 : SH[a0]? = some (.inl 11))
    (h1 : Q (some (.int xs0)) m) :
    Go X 6 mX11_wealthWithout Q 65 [(0, .ref a0), (1, .int x1), (2, .int x2)] [.int xs0] m := by
  exact g_iret dX11_wealthWithout_65 rfl enSH h1
theorem bX11_far_0 {X : pX} {Q : Option Value → pMem → Prop} {m : pMem} {a0 : Nat} {x1 : Int32} {x2 : Int32} (hW : Wf m) (c0 : SH[a0]? = some (.inl 11))
    (h1 : Cl X 1 mX11_isAtPlace [.ref a0, .int x1] m (fun v m2 => Go X 3 mX11_far Q 5 [(0, .ref a0), (1, .int x1), (2, .int x2)] (v.toList ++ []) m2)) :
    Go X 3 mX11_far Q 0 [(0, .ref a0), (1, .int x1), (2, .int x2)] [] m := by
  refine g_aload_n 0 dX11_far_0 rfl rfl ?_
  refine g_iload_n 1 dX11_far_1 rfl rfl ?_
  exact g_callV (As := [.int x1]) (st := []) dX11_far_2 clX11_233 c0 rfl rfl (Nat.le_of_ble_eq_true rfl) (rmSH (by decide) (by decide)) h1
theorem bX11_far_5 {X : pX} {Q : Option Value → pMem → Prop} {m : pMem} {a0 : Nat} {x1 : Int32} {x2 : Int32} {xs0 : Int32} (hW : Wf m) (c0 : SH[a0]? = some (.inl 11))
    (h1 : xs0 = 0 → Q (some (.int (-1 : Int32))) m)
    (h2 : ¬ (xs0 = 0) → Cl X 1 mX3_canBeCarried [.ref 514, .int x2] m (fun v m2 => Go X 3 mX11_far Q 16 [(0, .ref a0), (1, .int x1), (2, .int x2)] (v.toList ++ []) m2)) :
    Go X 3 mX11_far Q 5 [(0, .ref a0), (1, .int x1), (2, .int x2)] [.int xs0] m := by
  refine g_if_eq 19 dX11_far_5 (by decide) (fun q1 => ?_) (fun q1 => ?_)
  · refine g_iconst (v := -1) dX11_far_19 (by decide) ?_
    exact g_iret dX11_far_20 rfl enSH (h1 q1)
  · refine g_aload_n 0 dX11_far_8 rfl rfl ?_
    refine g_getR dX11_far_9 fl11_76 rfl c0 (w11_9 hW c0) ?_
    refine g_iload_n 2 dX11_far_12 rfl rfl ?_
    exact g_callV (As := [.int x2]) (st := []) dX11_far_13 clX11_263 sh514 rfl rfl (Nat.le_of_ble_eq_true rfl) (rmSH (by decide) (by decide)) (h2 q1)
theorem bX11_far_16 {X : pX} {Q : Option Value → pMem → Prop} {m : pMem} {a0 : Nat} {x1 : Int32} {x2 : Int32} {xs0 : Int32} (hW : Wf m) (c0 : SH[a0]? = some (.inl 11))
    (h1 : ¬ xs0 = 0 → Cl X 2 mX3_daysToTown [.ref 514, .int x1, .int x2] m (fun v m2 => Go X 3 mX11_far Q 30 [(0, .ref a0), (1, .int x1), (2, .int x2)] (v.toList ++ []) m2))
    (h2 : xs0 = 0 → Q (some (.int (-1 : Int32))) m) :
    Go X 3 mX11_far Q 16 [(0, .ref a0), (1, .int x1), (2, .int x2)] [.int xs0] m := by
  refine g_if_ne 21 dX11_far_16 (by decide) (fun q1 => ?_) (fun q1 => ?_)
  · refine g_aload_n 0 dX11_far_21 rfl rfl ?_
    refine g_getR dX11_far_22 fl11_76 rfl c0 (w11_9 hW c0) ?_
    refine g_iload_n 1 dX11_far_25 rfl rfl ?_
    refine g_iload_n 2 dX11_far_26 rfl rfl ?_
    exact g_callV (As := [.int x1, .int x2]) (st := []) dX11_far_27 clX11_266 sh514 rfl rfl (Nat.le_of_ble_eq_true rfl) (rmSH (by decide) (by decide)) (h1 q1)
  · refine g_iconst (v := -1) dX11_far_19 (by decide) ?_
    exact g_iret dX11_far_20 rfl enSH (h2 q1)
theorem bX11_far_30 {X : pX} {Q : Option Value → pMem → Prop} {m : pMem} {a0 : Nat} {x1 : Int32} {x2 : Int32} {xs0 : Int32} (hW : Wf m) (c0 : SH[a0]? = some (.inl 11))
    (h1 : Q (some (.int xs0)) m) :
    Go X 3 mX11_far Q 30 [(0, .ref a0), (1, .int x1), (2, .int x2)] [.int xs0] m := by
  exact g_iret dX11_far_30 rfl enSH h1
theorem bX11_load_0 {X : pX} {Q : Option Value → pMem → Prop} {m : pMem} {a0 : Nat} {x1 : Int32} {x2 : Int32} {x3 : Int32} (hW : Wf m) (c0 : SH[a0]? = some (.inl 11))
    (h1 : Cl X 1 mX11_isAtPlace [.ref a0, .int x1] m (fun v m2 => Go X 4 mX11_load Q 5 [(0, .ref a0), (1, .int x1), (2, .int x2), (3, .int x3)] (v.toList ++ []) m2)) :
    Go X 4 mX11_load Q 0 [(0, .ref a0), (1, .int x1), (2, .int x2), (3, .int x3)] [] m := by
  refine g_aload_n 0 dX11_load_0 rfl rfl ?_
  refine g_iload_n 1 dX11_load_1 rfl rfl ?_
  exact g_callV (As := [.int x1]) (st := []) dX11_load_2 clX11_233 c0 rfl rfl (Nat.le_of_ble_eq_true rfl) (rmSH (by decide) (by decide)) h1
theorem bX11_load_5 {X : pX} {Q : Option Value → pMem → Prop} {m : pMem} {a0 : Nat} {x1 : Int32} {x2 : Int32} {x3 : Int32} {xs0 : Int32} (hW : Wf m) (c0 : SH[a0]? = some (.inl 11))
    (h1 : xs0 = 0 → Q (some (.int (-1 : Int32))) m)
    (h2 : ¬ (xs0 = 0) → x2 < (1 : Int32) → Q (some (.int (-1 : Int32))) m)
    (h3 : ¬ (xs0 = 0) → ¬ (x2 < (1 : Int32)) → (60 : Int32) < x2 → Q (some (.int (-1 : Int32))) m)
    (h4 : ¬ (xs0 = 0) → ¬ (x2 < (1 : Int32)) → ¬ ((60 : Int32) < x2) → x3 < 0 → Q (some (.int (-1 : Int32))) m)
    (h5 : ¬ (xs0 = 0) → ¬ (x2 < (1 : Int32)) → ¬ ((60 : Int32) < x2) → ¬ (x3 < 0) → x3 ≤ (2 : Int32) → Cl X 3 mX3_bestLoad [.ref 514, .int x1, .int x2] m (fun v m2 => Go X 4 mX11_load Q 39 [(0, .ref a0), (1, .int x1), (2, .int x2), (3, .int x3)] (v.toList ++ []) m2))
    (h6 : ¬ (xs0 = 0) → ¬ (x2 < (1 : Int32)) → ¬ ((60 : Int32) < x2) → ¬ (x3 < 0) → ¬ (x3 ≤ (2 : Int32)) → Q (some (.int (-1 : Int32))) m) :
    Go X 4 mX11_load Q 5 [(0, .ref a0), (1, .int x1), (2, .int x2), (3, .int x3)] [.int xs0] m := by
  refine g_if_eq 28 dX11_load_5 (by decide) (fun q1 => ?_) (fun q1 => ?_)
  · refine g_iconst (v := -1) dX11_load_28 (by decide) ?_
    exact g_iret dX11_load_29 rfl enSH (h1 q1)
  · refine g_iload_n 2 dX11_load_8 rfl rfl ?_
    refine g_iconst (v := 1) dX11_load_9 (by decide) ?_
    refine g_icmp_lt 28 dX11_load_10 (by decide) (fun q2 => ?_) (fun q2 => ?_)
    · refine g_iconst (v := -1) dX11_load_28 (by decide) ?_
      exact g_iret dX11_load_29 rfl enSH (h2 q1 q2)
    · refine g_iload_n 2 dX11_load_13 rfl rfl ?_
      refine g_bipush (v := 60) dX11_load_14 (by decide) ?_
      refine g_icmp_gt 28 dX11_load_16 (by decide) (fun q3 => ?_) (fun q3 => ?_)
      · refine g_iconst (v := -1) dX11_load_28 (by decide) ?_
        exact g_iret dX11_load_29 rfl enSH (h3 q1 q2 q3)
      · refine g_iload_n 3 dX11_load_19 rfl rfl ?_
        refine g_if_lt 28 dX11_load_20 (by decide) (fun q4 => ?_) (fun q4 => ?_)
        · refine g_iconst (v := -1) dX11_load_28 (by decide) ?_
          exact g_iret dX11_load_29 rfl enSH (h4 q1 q2 q3 q4)
        · refine g_iload_n 3 dX11_load_23 rfl rfl ?_
          refine g_iconst (v := 2) dX11_load_24 (by decide) ?_
          refine g_icmp_le 30 dX11_load_25 (by decide) (fun q5 => ?_) (fun q5 => ?_)
          · refine g_aload_n 0 dX11_load_30 rfl rfl ?_
            refine g_getR dX11_load_31 fl11_76 rfl c0 (w11_9 hW c0) ?_
            refine g_iload_n 1 dX11_load_34 rfl rfl ?_
            refine g_iload_n 2 dX11_load_35 rfl rfl ?_
            exact g_callV (As := [.int x1, .int x2]) (st := []) dX11_load_36 clX11_269 sh514 rfl rfl (Nat.le_of_ble_eq_true rfl) (rmSH (by decide) (by decide)) (h5 q1 q2 q3 q4 q5)
          · refine g_iconst (v := -1) dX11_load_28 (by decide) ?_
            exact g_iret dX11_load_29 rfl enSH (h6 q1 q2 q3 q4 q5)
theorem bX11_load_39 {X : pX} {Q : Option Value → pMem → Prop} {m : pMem} {a0 : Nat} {x1 : Int32} {x2 : Int32} {x3 : Int32} {xs0 : Int32} (hW : Wf m) (c0 : SH[a0]? = some (.inl 11))
    (h1 : ¬ xs0 = (-1 : Int32) → x3 = 0 → Q (some (.int xs0)) m)
    (h2 : ¬ xs0 = (-1 : Int32) → ¬ x3 = 0 → x3 = 1 → Cl X 0 mX4_worthOf [.ref 31, .int xs0] m (fun v m2 => Go X 4 mX11_load Q 91 [(0, .ref a0), (1, .int x1), (2, .int x2), (3, .int x3), (4, .int xs0)] (v.toList ++ []) m2))
    (h3 : ¬ xs0 = (-1 : Int32) → ¬ x3 = 0 → ¬ x3 = 1 → Cl X 2 mX3_daysToTown [.ref 514, .int x1, .int xs0] m (fun v m2 => Go X 4 mX11_load Q 102 [(0, .ref a0), (1, .int x1), (2, .int x2), (3, .int x3), (4, .int xs0)] (v.toList ++ []) m2))
    (h4 : xs0 = (-1 : Int32) → Q (some (.int (-2 : Int32))) m) :
    Go X 4 mX11_load Q 39 [(0, .ref a0), (1, .int x1), (2, .int x2), (3, .int x3)] [.int xs0] m := by
  refine g_istore (ls2 := [(4, .int xs0), (0, .ref a0), (1, .int x1), (2, .int x2), (3, .int x3)]) dX11_load_39 (by decide) rfl ?_
  refine g_iload 0 dX11_load_41 rfl ?_
  refine g_iconst (v := -1) dX11_load_43 (by decide) ?_
  refine g_icmp_ne 50 dX11_load_44 (by decide) (fun q1 => ?_) (fun q1 => ?_)
  · refine g_iload_n 4 dX11_load_50 rfl rfl ?_
    by_cases q2 : x3 = 0
    · refine g_lookup 76 dX11_load_51 rfl (by rw [q2] <;> rfl) (by decide) ?_
      refine g_iload 0 dX11_load_76 rfl ?_
      exact g_iret dX11_load_78 rfl enSH (h1 q1 q2)
    by_cases q3 : x3 = 1
    · refine g_lookup 79 dX11_load_51 rfl (by rw [q3] <;> rfl) (by decide) ?_
      refine g_aload_n 1 dX11_load_79 rfl rfl ?_
      refine g_getR dX11_load_80 fl11_42 rfl c0 (w11_5 hW c0) ?_
      refine g_getR dX11_load_83 fl11_56 rfl sh30 (w10_0 hW sh30) ?_
      refine g_iload 0 dX11_load_86 rfl ?_
      refine g_ls [1, 2, 3, 4, 0] (ls2 := [(0, .ref a0), (1, .int x1), (2, .int x2), (3, .int x3), (4, .int xs0)]) rfl ?_
      exact g_callV (As := [.int xs0]) (st := []) dX11_load_88 clX11_155 (s10_0 sh30) rfl rfl (Nat.le_of_ble_eq_true rfl) (rmSH (by decide) (by decide)) (h2 q1 q2 q3)
    refine g_lookup (off := 41) 92 dX11_load_51 rfl ?_ (by decide) ?_
    · have zq2 : ¬ (0 : Int) = x3.toInt := fun q => q2 (Int32.toInt_inj.mp (by rw [← q]; rfl)); have zq3 : ¬ (1 : Int) = x3.toInt := fun q => q3 (Int32.toInt_inj.mp (by rw [← q]; rfl))
      simp [Op.lookupswitch.offset, zq2, zq3]
    refine g_aload_n 1 dX11_load_92 rfl rfl ?_
    refine g_getR dX11_load_93 fl11_76 rfl c0 (w11_9 hW c0) ?_
    refine g_iload_n 2 dX11_load_96 rfl rfl ?_
    refine g_iload 0 dX11_load_97 rfl ?_
    refine g_ls [1, 2, 3, 4, 0] (ls2 := [(0, .ref a0), (1, .int x1), (2, .int x2), (3, .int x3), (4, .int xs0)]) rfl ?_
    exact g_callV (As := [.int x1, .int xs0]) (st := []) dX11_load_99 clX11_266 sh514 rfl rfl (Nat.le_of_ble_eq_true rfl) (rmSH (by decide) (by decide)) (h3 q1 q2 q3)
  · refine g_bipush (v := -2) dX11_load_47 (by decide) ?_
    exact g_iret dX11_load_49 rfl enSH (h4 q1)
theorem bX11_load_91 {X : pX} {Q : Option Value → pMem → Prop} {m : pMem} {a0 : Nat} {x1 : Int32} {x2 : Int32} {x3 : Int32} {x4 : Int32} {xs0 : Int32} (hW : Wf m) (c0 : SH[a0]? = some (.inl 11))
    (h1 : Q (some (.int xs0)) m) :
    Go X 4 mX11_load Q 91 [(0, .ref a0), (1, .int x1), (2, .int x2), (3, .int x3), (4, .int x4)] [.int xs0] m := by
  exact g_iret dX11_load_91 rfl enSH h1
theorem bX11_load_102 {X : pX} {Q : Option Value → pMem → Prop} {m : pMem} {a0 : Nat} {x1 : Int32} {x2 : Int32} {x3 : Int32} {x4 : Int32} {xs0 : Int32} (hW : Wf m) (c0 : SH[a0]? = some (.inl 11))
    (h1 : Q (some (.int xs0)) m) :
    Go X 4 mX11_load Q 102 [(0, .ref a0), (1, .int x1), (2, .int x2), (3, .int x3), (4, .int x4)] [.int xs0] m := by
  exact g_iret dX11_load_102 rfl enSH h1
theorem bX11_had_0 {X : pX} {Q : Option Value → pMem → Prop} {m : pMem} {a0 : Nat} {x1 : Int32} {x2 : Int32} {x3 : Int32} {x4 : Int32} {x5 : Int32} (hW : Wf m) (c0 : SH[a0]? = some (.inl 11))
    (h1 : Cl X 0 mX4_isPerson [.ref 31, .int x1] m (fun v m2 => Go X 3 mX11_had Q 11 [(0, .ref a0), (1, .int x1), (2, .int x2), (3, .int x3), (4, .int x4), (5, .int x5)] (v.toList ++ []) m2)) :
    Go X 3 mX11_had Q 0 [(0, .ref a0), (1, .int x1), (2, .int x2), (3, .int x3), (4, .int x4), (5, .int x5)] [] m := by
  refine g_aload_n 0 dX11_had_0 rfl rfl ?_
  refine g_getR dX11_had_1 fl11_42 rfl c0 (w11_5 hW c0) ?_
  refine g_getR dX11_had_4 fl11_56 rfl sh30 (w10_0 hW sh30) ?_
  refine g_iload_n 1 dX11_had_7 rfl rfl ?_
  exact g_callV (As := [.int x1]) (st := []) dX11_had_8 clX11_135 (s10_0 sh30) rfl rfl (Nat.le_of_ble_eq_true rfl) (rmSH (by decide) (by decide)) h1
theorem bX11_had_11 {X : pX} {Q : Option Value → pMem → Prop} {m : pMem} {a0 : Nat} {x1 : Int32} {x2 : Int32} {x3 : Int32} {x4 : Int32} {x5 : Int32} {xs0 : Int32} (hW : Wf m) (c0 : SH[a0]? = some (.inl 11))
    (h1 : xs0 = 0 → Q (some (.int (-3 : Int32))) m)
    (h2 : ¬ (xs0 = 0) → x2 < 0 → Q (some (.int (-3 : Int32))) m)
    (h3 : ¬ (xs0 = 0) → ¬ (x2 < 0) → x3 ≤ x2 → Q (some (.int (-3 : Int32))) m)
    (h4 : ¬ (xs0 = 0) → ¬ (x2 < 0) → ¬ (x3 ≤ x2) → (mI m 31 2) < x3 → Q (some (.int (-3 : Int32))) m)
    (h5 : ¬ (xs0 = 0) → ¬ (x2 < 0) → ¬ (x3 ≤ x2) → ¬ ((mI m 31 2) < x3) → x4 < (1 : Int32) → Q (some (.int (-3 : Int32))) m)
    (h6 : ¬ (xs0 = 0) → ¬ (x2 < 0) → ¬ (x3 ≤ x2) → ¬ ((mI m 31 2) < x3) → ¬ (x4 < (1 : Int32)) → (100 : Int32) < x4 → Q (some (.int (-3 : Int32))) m)
    (h7 : ¬ (xs0 = 0) → ¬ (x2 < 0) → ¬ (x3 ≤ x2) → ¬ ((mI m 31 2) < x3) → ¬ (x4 < (1 : Int32)) → ¬ ((100 : Int32) < x4) → x5 < 0 → Q (some (.int (-3 : Int32))) m)
    (h8 : ¬ (xs0 = 0) → ¬ (x2 < 0) → ¬ (x3 ≤ x2) → ¬ ((mI m 31 2) < x3) → ¬ (x4 < (1 : Int32)) → ¬ ((100 : Int32) < x4) → ¬ (x5 < 0) → x5 ≤ (2 : Int32) → Cl X 2 mX3_thatTook [.ref 514, .int x1, .int x2, .int x3, .int x4, .int x5] m (fun v m2 => Go X 3 mX11_had Q 78 [(0, .ref a0), (1, .int x1), (2, .int x2), (3, .int x3), (4, .int x4), (5, .int x5)] (v.toList ++ []) m2))
    (h9 : ¬ (xs0 = 0) → ¬ (x2 < 0) → ¬ (x3 ≤ x2) → ¬ ((mI m 31 2) < x3) → ¬ (x4 < (1 : Int32)) → ¬ ((100 : Int32) < x4) → ¬ (x5 < 0) → ¬ (x5 ≤ (2 : Int32)) → Q (some (.int (-3 : Int32))) m) :
    Go X 3 mX11_had Q 11 [(0, .ref a0), (1, .int x1), (2, .int x2), (3, .int x3), (4, .int x4), (5, .int x5)] [.int xs0] m := by
  refine g_if_eq 61 dX11_had_11 (by decide) (fun q1 => ?_) (fun q1 => ?_)
  · refine g_bipush (v := -3) dX11_had_61 (by decide) ?_
    exact g_iret dX11_had_63 rfl enSH (h1 q1)
  · refine g_iload_n 2 dX11_had_14 rfl rfl ?_
    refine g_if_lt 61 dX11_had_15 (by decide) (fun q2 => ?_) (fun q2 => ?_)
    · refine g_bipush (v := -3) dX11_had_61 (by decide) ?_
      exact g_iret dX11_had_63 rfl enSH (h2 q1 q2)
    · refine g_iload_n 3 dX11_had_18 rfl rfl ?_
      refine g_iload_n 2 dX11_had_19 rfl rfl ?_
      refine g_icmp_le 61 dX11_had_20 (by decide) (fun q3 => ?_) (fun q3 => ?_)
      · refine g_bipush (v := -3) dX11_had_61 (by decide) ?_
        exact g_iret dX11_had_63 rfl enSH (h3 q1 q2 q3)
      · refine g_iload_n 3 dX11_had_23 rfl rfl ?_
        refine g_aload_n 0 dX11_had_24 rfl rfl ?_
        refine g_getR dX11_had_25 fl11_42 rfl c0 (w11_5 hW c0) ?_
        refine g_getR dX11_had_28 fl11_56 rfl sh30 (w10_0 hW sh30) ?_
        refine g_getI dX11_had_31 fl11_179 (s10_0 sh30) ?_
        refine g_icmp_gt 61 dX11_had_34 (by decide) (fun q4 => ?_) (fun q4 => ?_)
        · refine g_bipush (v := -3) dX11_had_61 (by decide) ?_
          exact g_iret dX11_had_63 rfl enSH (h4 q1 q2 q3 q4)
        · refine g_iload 4 dX11_had_37 rfl ?_
          refine g_iconst (v := 1) dX11_had_39 (by decide) ?_
          refine g_icmp_lt 61 dX11_had_40 (by decide) (fun q5 => ?_) (fun q5 => ?_)
          · refine g_bipush (v := -3) dX11_had_61 (by decide) ?_
            exact g_iret dX11_had_63 rfl enSH (h5 q1 q2 q3 q4 q5)
          · refine g_iload 4 dX11_had_43 rfl ?_
            refine g_bipush (v := 100) dX11_had_45 (by decide) ?_
            refine g_icmp_gt 61 dX11_had_47 (by decide) (fun q6 => ?_) (fun q6 => ?_)
            · refine g_bipush (v := -3) dX11_had_61 (by decide) ?_
              exact g_iret dX11_had_63 rfl enSH (h6 q1 q2 q3 q4 q5 q6)
            · refine g_iload 5 dX11_had_50 rfl ?_
              refine g_if_lt 61 dX11_had_52 (by decide) (fun q7 => ?_) (fun q7 => ?_)
              · refine g_bipush (v := -3) dX11_had_61 (by decide) ?_
                exact g_iret dX11_had_63 rfl enSH (h7 q1 q2 q3 q4 q5 q6 q7)
              · refine g_iload 5 dX11_had_55 rfl ?_
                refine g_iconst (v := 2) dX11_had_57 (by decide) ?_
                refine g_icmp_le 64 dX11_had_58 (by decide) (fun q8 => ?_) (fun q8 => ?_)
                · refine g_aload_n 0 dX11_had_64 rfl rfl ?_
                  refine g_getR dX11_had_65 fl11_76 rfl c0 (w11_9 hW c0) ?_
                  refine g_iload_n 1 dX11_had_68 rfl rfl ?_
                  refine g_iload_n 2 dX11_had_69 rfl rfl ?_
                  refine g_iload_n 3 dX11_had_70 rfl rfl ?_
                  refine g_iload 4 dX11_had_71 rfl ?_
                  refine g_iload 5 dX11_had_73 rfl ?_
                  exact g_callV (As := [.int x1, .int x2, .int x3, .int x4, .int x5]) (st := []) dX11_had_75 clX11_272 sh514 rfl rfl (Nat.le_of_ble_eq_true rfl) (rmSH (by decide) (by decide)) (h8 q1 q2 q3 q4 q5 q6 q7 q8)
                · refine g_bipush (v := -3) dX11_had_61 (by decide) ?_
                  exact g_iret dX11_had_63 rfl enSH (h9 q1 q2 q3 q4 q5 q6 q7 q8)
theorem bX11_had_78 {X : pX} {Q : Option Value → pMem → Prop} {m : pMem} {a0 : Nat} {x1 : Int32} {x2 : Int32} {x3 : Int32} {x4 : Int32} {x5 : Int32} {xs0 : Int32} (hW : Wf m) (c0 : SH[a0]? = some (.inl 11))
    (h1 : Q (some (.int xs0)) m) :
    Go X 3 mX11_had Q 78 [(0, .ref a0), (1, .int x1), (2, .int x2), (3, .int x3), (4, .int x4), (5, .int x5)] [.int xs0] m := by
  exact g_iret dX11_had_78 rfl enSH h1
theorem bX11_exchange_0 {X : pX} {Q : Option Value → pMem → Prop} {m : pMem} {a0 : Nat} {x1 : Int32} {x2 : Int32} {x3 : Int32} (hW : Wf m) (c0 : SH[a0]? = some (.inl 11))
    (h1 : Cl X 2 mX11_areAtOnePlace [.ref a0, .int x1, .int x2] m (fun v m2 => Go X 5 mX11_exchange Q 6 [(0, .ref a0), (1, .int x1), (2, .int x2), (3, .int x3)] (v.toList ++ []) m2)) :
    Go X 5 mX11_exchange Q 0 [(0, .ref a0), (1, .int x1), (2, .int x2), (3, .int x3)] [] m := by
  refine g_aload_n 0 dX11_exchange_0 rfl rfl ?_
  refine g_iload_n 1 dX11_exchange_1 rfl rfl ?_
  refine g_iload_n 2 dX11_exchange_2 rfl rfl ?_
  exact g_callV (As := [.int x1, .int x2]) (st := []) dX11_exchange_3 clX11_242 c0 rfl rfl (Nat.le_of_ble_eq_true rfl) (rmSH (by decide) (by decide)) h1
theorem bX11_exchange_6 {X : pX} {Q : Option Value → pMem → Prop} {m : pMem} {a0 : Nat} {x1 : Int32} {x2 : Int32} {x3 : Int32} {xs0 : Int32} (hW : Wf m) (c0 : SH[a0]? = some (.inl 11))
    (h1 : xs0 = 0 → Q (some (.int (-2 : Int32))) m)
    (h2 : ¬ (xs0 = 0) → x3 < 0 → Q (some (.int (-2 : Int32))) m)
    (h3 : ¬ (xs0 = 0) → ¬ (x3 < 0) → x3 ≤ (2 : Int32) → Cl X 4 mX3_bestExchange [.ref 514, .int x1, .int x2] m (fun v m2 => Go X 5 mX11_exchange Q 30 [(0, .ref a0), (1, .int x1), (2, .int x2), (3, .int x3)] (v.toList ++ []) m2))
    (h4 : ¬ (xs0 = 0) → ¬ (x3 < 0) → ¬ (x3 ≤ (2 : Int32)) → Q (some (.int (-2 : Int32))) m) :
    Go X 5 mX11_exchange Q 6 [(0, .ref a0), (1, .int x1), (2, .int x2), (3, .int x3)] [.int xs0] m := by
  refine g_if_eq 18 dX11_exchange_6 (by decide) (fun q1 => ?_) (fun q1 => ?_)
  · refine g_bipush (v := -2) dX11_exchange_18 (by decide) ?_
    exact g_iret dX11_exchange_20 rfl enSH (h1 q1)
  · refine g_iload_n 3 dX11_exchange_9 rfl rfl ?_
    refine g_if_lt 18 dX11_exchange_10 (by decide) (fun q2 => ?_) (fun q2 => ?_)
    · refine g_bipush (v := -2) dX11_exchange_18 (by decide) ?_
      exact g_iret dX11_exchange_20 rfl enSH (h2 q1 q2)
    · refine g_iload_n 3 dX11_exchange_13 rfl rfl ?_
      refine g_iconst (v := 2) dX11_exchange_14 (by decide) ?_
      refine g_icmp_le 21 dX11_exchange_15 (by decide) (fun q3 => ?_) (fun q3 => ?_)
      · refine g_aload_n 0 dX11_exchange_21 rfl rfl ?_
        refine g_getR dX11_exchange_22 fl11_76 rfl c0 (w11_9 hW c0) ?_
        refine g_iload_n 1 dX11_exchange_25 rfl rfl ?_
        refine g_iload_n 2 dX11_exchange_26 rfl rfl ?_
        exact g_callV (As := [.int x1, .int x2]) (st := []) dX11_exchange_27 clX11_276 sh514 rfl rfl (Nat.le_of_ble_eq_true rfl) (rmSH (by decide) (by decide)) (h3 q1 q2 q3)
      · refine g_bipush (v := -2) dX11_exchange_18 (by decide) ?_
        exact g_iret dX11_exchange_20 rfl enSH (h4 q1 q2 q3)
theorem bX11_exchange_30 {X : pX} {Q : Option Value → pMem → Prop} {m : pMem} {a0 : Nat} {x1 : Int32} {x2 : Int32} {x3 : Int32} {xs0 : Int32} (hW : Wf m) (c0 : SH[a0]? = some (.inl 11))
    (h1 : ¬ x3 = 0 → ¬ xs0 = (-1 : Int32) → ¬ x3 = (1 : Int32) → Q (some (.int (xs0 - xs0 / (6 : Int32) * (6 : Int32)))) m)
    (h2 : ¬ x3 = 0 → ¬ xs0 = (-1 : Int32) → x3 = (1 : Int32) → Q (some (.int (xs0 / (6 : Int32)))) m)
    (h3 : ¬ x3 = 0 → xs0 = (-1 : Int32) → Q (some (.int (-1 : Int32))) m)
    (h4 : x3 = 0 → Cl X 3 mX3_daysOfBoth [.ref 514, .int x1, .int x2, .int xs0] m (fun v m2 => Go X 5 mX11_exchange Q 47 [(0, .ref a0), (1, .int x1), (2, .int x2), (3, .int x3), (4, .int xs0)] (v.toList ++ []) m2)) :
    Go X 5 mX11_exchange Q 30 [(0, .ref a0), (1, .int x1), (2, .int x2), (3, .int x3)] [.int xs0] m := by
  refine g_istore (ls2 := [(4, .int xs0), (0, .ref a0), (1, .int x1), (2, .int x2), (3, .int x3)]) dX11_exchange_30 (by decide) rfl ?_
  refine g_iload_n 4 dX11_exchange_32 rfl rfl ?_
  refine g_if_ne 48 dX11_exchange_33 (by decide) (fun q1 => ?_) (fun q1 => ?_)
  · refine g_iload 0 dX11_exchange_48 rfl ?_
    refine g_iconst (v := -1) dX11_exchange_50 (by decide) ?_
    refine g_icmp_ne 56 dX11_exchange_51 (by decide) (fun q2 => ?_) (fun q2 => ?_)
    · refine g_iload_n 4 dX11_exchange_56 rfl rfl ?_
      refine g_iconst (v := 1) dX11_exchange_57 (by decide) ?_
      refine g_icmp_ne 69 dX11_exchange_58 (by decide) (fun q3 => ?_) (fun q3 => ?_)
      · refine g_iload 0 dX11_exchange_69 rfl ?_
        refine g_bipush (v := 6) dX11_exchange_71 (by decide) ?_
        refine g_irem dX11_exchange_73 (by decide) ?_
        exact g_iret dX11_exchange_74 rfl enSH (h1 q1 q2 q3)
      · refine g_iload 0 dX11_exchange_61 rfl ?_
        refine g_bipush (v := 6) dX11_exchange_63 (by decide) ?_
        refine g_idiv dX11_exchange_65 (by decide) ?_
        refine g_goto 74 dX11_exchange_66 (by decide) ?_
        exact g_iret dX11_exchange_74 rfl enSH (h2 q1 q2 q3)
    · refine g_iconst (v := -1) dX11_exchange_54 (by decide) ?_
      exact g_iret dX11_exchange_55 rfl enSH (h3 q1 q2)
  · refine g_aload_n 1 dX11_exchange_36 rfl rfl ?_
    refine g_getR dX11_exchange_37 fl11_76 rfl c0 (w11_9 hW c0) ?_
    refine g_iload_n 2 dX11_exchange_40 rfl rfl ?_
    refine g_iload_n 3 dX11_exchange_41 rfl rfl ?_
    refine g_iload 0 dX11_exchange_42 rfl ?_
    refine g_ls [1, 2, 3, 4, 0] (ls2 := [(0, .ref a0), (1, .int x1), (2, .int x2), (3, .int x3), (4, .int xs0)]) rfl ?_
    exact g_callV (As := [.int x1, .int x2, .int xs0]) (st := []) dX11_exchange_44 clX11_279 sh514 rfl rfl (Nat.le_of_ble_eq_true rfl) (rmSH (by decide) (by decide)) (h4 q1)
theorem bX11_exchange_47 {X : pX} {Q : Option Value → pMem → Prop} {m : pMem} {a0 : Nat} {x1 : Int32} {x2 : Int32} {x3 : Int32} {x4 : Int32} {xs0 : Int32} (hW : Wf m) (c0 : SH[a0]? = some (.inl 11))
    (h1 : Q (some (.int xs0)) m) :
    Go X 5 mX11_exchange Q 47 [(0, .ref a0), (1, .int x1), (2, .int x2), (3, .int x3), (4, .int x4)] [.int xs0] m := by
  exact g_iret dX11_exchange_47 rfl enSH h1
theorem bX11_game_0 {X : pX} {Q : Option Value → pMem → Prop} {m : pMem} {a0 : Nat} {x1 : Int32} {x2 : Int32} {x3 : Int32} (hW : Wf m) (c0 : SH[a0]? = some (.inl 11))
    (h1 : Cl X 2 mX11_areAtOnePlace [.ref a0, .int x1, .int x2] m (fun v m2 => Go X 4 mX11_game Q 6 [(0, .ref a0), (1, .int x1), (2, .int x2), (3, .int x3)] (v.toList ++ []) m2)) :
    Go X 4 mX11_game Q 0 [(0, .ref a0), (1, .int x1), (2, .int x2), (3, .int x3)] [] m := by
  refine g_aload_n 0 dX11_game_0 rfl rfl ?_
  refine g_iload_n 1 dX11_game_1 rfl rfl ?_
  refine g_iload_n 2 dX11_game_2 rfl rfl ?_
  exact g_callV (As := [.int x1, .int x2]) (st := []) dX11_game_3 clX11_242 c0 rfl rfl (Nat.le_of_ble_eq_true rfl) (rmSH (by decide) (by decide)) h1
theorem bX11_game_6 {X : pX} {Q : Option Value → pMem → Prop} {m : pMem} {a0 : Nat} {x1 : Int32} {x2 : Int32} {x3 : Int32} {xs0 : Int32} (hW : Wf m) (c0 : SH[a0]? = some (.inl 11))
    (h1 : xs0 = 0 → Q (some (.int (-10000 : Int32))) m)
    (h2 : ¬ (xs0 = 0) → x3 < 0 → Q (some (.int (-10000 : Int32))) m)
    (h3 : ¬ (xs0 = 0) → ¬ (x3 < 0) → x3 ≤ (1 : Int32) → Cl X 3 mX1_play [.ref 515, .int x1, .int x2] m (fun v m2 => Go X 4 mX11_game Q 31 [(0, .ref a0), (1, .int x1), (2, .int x2), (3, .int x3)] (v.toList ++ []) m2))
    (h4 : ¬ (xs0 = 0) → ¬ (x3 < 0) → ¬ (x3 ≤ (1 : Int32)) → Q (some (.int (-10000 : Int32))) m) :
    Go X 4 mX11_game Q 6 [(0, .ref a0), (1, .int x1), (2, .int x2), (3, .int x3)] [.int xs0] m := by
  refine g_if_eq 18 dX11_game_6 (by decide) (fun q1 => ?_) (fun q1 => ?_)
  · refine g_sipush (v := -10000) dX11_game_18 (by decide) ?_
    exact g_iret dX11_game_21 rfl enSH (h1 q1)
  · refine g_iload_n 3 dX11_game_9 rfl rfl ?_
    refine g_if_lt 18 dX11_game_10 (by decide) (fun q2 => ?_) (fun q2 => ?_)
    · refine g_sipush (v := -10000) dX11_game_18 (by decide) ?_
      exact g_iret dX11_game_21 rfl enSH (h2 q1 q2)
    · refine g_iload_n 3 dX11_game_13 rfl rfl ?_
      refine g_iconst (v := 1) dX11_game_14 (by decide) ?_
      refine g_icmp_le 22 dX11_game_15 (by decide) (fun q3 => ?_) (fun q3 => ?_)
      · refine g_aload_n 0 dX11_game_22 rfl rfl ?_
        refine g_getR dX11_game_23 fl11_83 rfl c0 (w11_10 hW c0) ?_
        refine g_iload_n 1 dX11_game_26 rfl rfl ?_
        refine g_iload_n 2 dX11_game_27 rfl rfl ?_
        exact g_callV (As := [.int x1, .int x2]) (st := []) dX11_game_28 clX11_283 sh515 rfl rfl (Nat.le_of_ble_eq_true rfl) (rmSH (by decide) (by decide)) (h3 q1 q2 q3)
      · refine g_sipush (v := -10000) dX11_game_18 (by decide) ?_
        exact g_iret dX11_game_21 rfl enSH (h4 q1 q2 q3)
theorem bX11_game_31 {X : pX} {Q : Option Value → pMem → Prop} {m : pMem} {a0 : Nat} {x1 : Int32} {x2 : Int32} {x3 : Int32} (hW : Wf m) (c0 : SH[a0]? = some (.inl 11))
    (h1 : ¬ x3 = 0 → Q (some (.int (mI m 515 9))) m)
    (h2 : x3 = 0 → Q (some (.int (mI m 515 8))) m) :
    Go X 4 mX11_game Q 31 [(0, .ref a0), (1, .int x1), (2, .int x2), (3, .int x3)] [] m := by
  refine g_iload_n 3 dX11_game_31 rfl rfl ?_
  refine g_if_ne 45 dX11_game_32 (by decide) (fun q1 => ?_) (fun q1 => ?_)
  · refine g_aload_n 0 dX11_game_45 rfl rfl ?_
    refine g_getR dX11_game_46 fl11_83 rfl c0 (w11_10 hW c0) ?_
    refine g_getI dX11_game_49 fl11_290 sh515 ?_
    exact g_iret dX11_game_52 rfl enSH (h1 q1)
  · refine g_aload_n 0 dX11_game_35 rfl rfl ?_
    refine g_getR dX11_game_36 fl11_83 rfl c0 (w11_10 hW c0) ?_
    refine g_getI dX11_game_39 fl11_287 sh515 ?_
    refine g_goto 52 dX11_game_42 (by decide) ?_
    exact g_iret dX11_game_52 rfl enSH (h2 q1)
theorem bX11_pence_0 {X : pX} {Q : Option Value → pMem → Prop} {m : pMem} {a0 : Nat} {x1 : Int32} {x2 : Int32} (hW : Wf m) (c0 : SH[a0]? = some (.inl 11))
    (h1 : Cl X 0 mX4_isPerson [.ref 31, .int x2] m (fun v m2 => Go X 4 mX11_pence Q 11 [(0, .ref a0), (1, .int x1), (2, .int x2)] (v.toList ++ []) m2)) :
    Go X 4 mX11_pence Q 0 [(0, .ref a0), (1, .int x1), (2, .int x2)] [] m := by
  refine g_aload_n 0 dX11_pence_0 rfl rfl ?_
  refine g_getR dX11_pence_1 fl11_42 rfl c0 (w11_5 hW c0) ?_
  refine g_getR dX11_pence_4 fl11_56 rfl sh30 (w10_0 hW sh30) ?_
  refine g_iload_n 2 dX11_pence_7 rfl rfl ?_
  exact g_callV (As := [.int x2]) (st := []) dX11_pence_8 clX11_135 (s10_0 sh30) rfl rfl (Nat.le_of_ble_eq_true rfl) (rmSH (by decide) (by decide)) h1
theorem bX11_pence_11 {X : pX} {Q : Option Value → pMem → Prop} {m : pMem} {a0 : Nat} {x1 : Int32} {x2 : Int32} {xs0 : Int32} (hW : Wf m) (c0 : SH[a0]? = some (.inl 11))
    (h1 : xs0 = 0 → Q (some (.int (-1 : Int32))) m)
    (h2 : ¬ (xs0 = 0) → x1 < 0 → Q (some (.int (-1 : Int32))) m)
    (h3 : ¬ (xs0 = 0) → ¬ (x1 < 0) → x1 ≤ (9999 : Int32) → Cl X 3 mX3_penceOf [.ref 514, .int x1, .int x2] m (fun v m2 => Go X 4 mX11_pence Q 36 [(0, .ref a0), (1, .int x1), (2, .int x2)] (v.toList ++ []) m2))
    (h4 : ¬ (xs0 = 0) → ¬ (x1 < 0) → ¬ (x1 ≤ (9999 : Int32)) → Q (some (.int (-1 : Int32))) m) :
    Go X 4 mX11_pence Q 11 [(0, .ref a0), (1, .int x1), (2, .int x2)] [.int xs0] m := by
  refine g_if_eq 25 dX11_pence_11 (by decide) (fun q1 => ?_) (fun q1 => ?_)
  · refine g_iconst (v := -1) dX11_pence_25 (by decide) ?_
    exact g_iret dX11_pence_26 rfl enSH (h1 q1)
  · refine g_iload_n 1 dX11_pence_14 rfl rfl ?_
    refine g_if_lt 25 dX11_pence_15 (by decide) (fun q2 => ?_) (fun q2 => ?_)
    · refine g_iconst (v := -1) dX11_pence_25 (by decide) ?_
      exact g_iret dX11_pence_26 rfl enSH (h2 q1 q2)
    · refine g_iload_n 1 dX11_pence_18 rfl rfl ?_
      refine g_sipush (v := 9999) dX11_pence_19 (by decide) ?_
      refine g_icmp_le 27 dX11_pence_22 (by decide) (fun q3 => ?_) (fun q3 => ?_)
      · refine g_aload_n 0 dX11_pence_27 rfl rfl ?_
        refine g_getR dX11_pence_28 fl11_76 rfl c0 (w11_9 hW c0) ?_
        refine g_iload_n 1 dX11_pence_31 rfl rfl ?_
        refine g_iload_n 2 dX11_pence_32 rfl rfl ?_
        exact g_callV (As := [.int x1, .int x2]) (st := []) dX11_pence_33 clX11_293 sh514 rfl rfl (Nat.le_of_ble_eq_true rfl) (rmSH (by decide) (by decide)) (h3 q1 q2 q3)
      · refine g_iconst (v := -1) dX11_pence_25 (by decide) ?_
        exact g_iret dX11_pence_26 rfl enSH (h4 q1 q2 q3)
theorem bX11_pence_36 {X : pX} {Q : Option Value → pMem → Prop} {m : pMem} {a0 : Nat} {x1 : Int32} {x2 : Int32} {xs0 : Int32} (hW : Wf m) (c0 : SH[a0]? = some (.inl 11))
    (h1 : Q (some (.int xs0)) m) :
    Go X 4 mX11_pence Q 36 [(0, .ref a0), (1, .int x1), (2, .int x2)] [.int xs0] m := by
  exact g_iret dX11_pence_36 rfl enSH h1
theorem bX11_note_0 {X : pX} {Q : Option Value → pMem → Prop} {m : pMem} {a0 : Nat} {x1 : Int32} {x2 : Int32} {x3 : Int32} (hW : Wf m) (c0 : SH[a0]? = some (.inl 11))
    (h1 : ¬ x1 = (-1 : Int32) → x1 < 0 → Q (some (.int (-2 : Int32))) m)
    (h2 : ¬ x1 = (-1 : Int32) → ¬ (x1 < 0) → (60 : Int32) < x1 → Q (some (.int (-2 : Int32))) m)
    (h3 : ¬ x1 = (-1 : Int32) → ¬ (x1 < 0) → ¬ ((60 : Int32) < x1) → Cl X 0 mX4_isPerson [.ref 31, .int x2] m (fun v m2 => Go X 2 mX11_note Q 36 [(0, .ref a0), (1, .int x1), (2, .int x2), (3, .int x3)] (v.toList ++ []) m2))
    (h4 : x1 = (-1 : Int32) → Q (some (.int (0 : Int32))) (uI m 30 5 (0 : Int32))) :
    Go X 2 mX11_note Q 0 [(0, .ref a0), (1, .int x1), (2, .int x2), (3, .int x3)] [] m := by
  refine g_iload_n 1 dX11_note_0 rfl rfl ?_
  refine g_iconst (v := -1) dX11_note_1 (by decide) ?_
  refine g_icmp_ne 15 dX11_note_2 (by decide) (fun q1 => ?_) (fun q1 => ?_)
  · refine g_iload_n 1 dX11_note_15 rfl rfl ?_
    refine g_if_lt 63 dX11_note_16 (by decide) (fun q2 => ?_) (fun q2 => ?_)
    · refine g_bipush (v := -2) dX11_note_63 (by decide) ?_
      exact g_iret dX11_note_65 rfl enSH (h1 q1 q2)
    · refine g_iload_n 1 dX11_note_19 rfl rfl ?_
      refine g_bipush (v := 60) dX11_note_20 (by decide) ?_
      refine g_icmp_gt 63 dX11_note_22 (by decide) (fun q3 => ?_) (fun q3 => ?_)
      · refine g_bipush (v := -2) dX11_note_63 (by decide) ?_
        exact g_iret dX11_note_65 rfl enSH (h2 q1 q2 q3)
      · refine g_aload_n 0 dX11_note_25 rfl rfl ?_
        refine g_getR dX11_note_26 fl11_42 rfl c0 (w11_5 hW c0) ?_
        refine g_getR dX11_note_29 fl11_56 rfl sh30 (w10_0 hW sh30) ?_
        refine g_iload_n 2 dX11_note_32 rfl rfl ?_
        exact g_callV (As := [.int x2]) (st := []) dX11_note_33 clX11_135 (s10_0 sh30) rfl rfl (Nat.le_of_ble_eq_true rfl) (rmSH (by decide) (by decide)) (h3 q1 q2 q3)
  · refine g_aload_n 0 dX11_note_5 rfl rfl ?_
    refine g_getR dX11_note_6 fl11_42 rfl c0 (w11_5 hW c0) ?_
    refine g_iconst (v := 0) dX11_note_9 (by decide) ?_
    refine g_putI dX11_note_10 fl11_202 (fun h => by cases h) sh30 ?_
    refine g_iconst (v := 0) dX11_note_13 (by decide) ?_
    exact g_iret dX11_note_14 rfl enSH (h4 q1)
theorem bX11_note_36 {X : pX} {Q : Option Value → pMem → Prop} {m : pMem} {a0 : Nat} {x1 : Int32} {x2 : Int32} {x3 : Int32} {xs0 : Int32} (hW : Wf m) (c0 : SH[a0]? = some (.inl 11))
    (h1 : xs0 = 0 → Q (some (.int (-2 : Int32))) m)
    (h2 : ¬ (xs0 = 0) → Cl X 0 mX4_isPlace [.ref 31, .int x3] m (fun v m2 => Go X 2 mX11_note Q 50 [(0, .ref a0), (1, .int x1), (2, .int x2), (3, .int x3)] (v.toList ++ []) m2)) :
    Go X 2 mX11_note Q 36 [(0, .ref a0), (1, .int x1), (2, .int x2), (3, .int x3)] [.int xs0] m := by
  refine g_if_eq 63 dX11_note_36 (by decide) (fun q1 => ?_) (fun q1 => ?_)
  · refine g_bipush (v := -2) dX11_note_63 (by decide) ?_
    exact g_iret dX11_note_65 rfl enSH (h1 q1)
  · refine g_aload_n 0 dX11_note_39 rfl rfl ?_
    refine g_getR dX11_note_40 fl11_42 rfl c0 (w11_5 hW c0) ?_
    refine g_getR dX11_note_43 fl11_56 rfl sh30 (w10_0 hW sh30) ?_
    refine g_iload_n 3 dX11_note_46 rfl rfl ?_
    exact g_callV (As := [.int x3]) (st := []) dX11_note_47 clX11_296 (s10_0 sh30) rfl rfl (Nat.le_of_ble_eq_true rfl) (rmSH (by decide) (by decide)) (h2 q1)
theorem bX11_note_50 {X : pX} {Q : Option Value → pMem → Prop} {m : pMem} {a0 : Nat} {x1 : Int32} {x2 : Int32} {x3 : Int32} {xs0 : Int32} (hW : Wf m) (c0 : SH[a0]? = some (.inl 11))
    (h1 : xs0 = 0 → Q (some (.int (-2 : Int32))) m)
    (h2 : ¬ (xs0 = 0) → Cl X 0 mX10_canNote [.ref 30] m (fun v m2 => Go X 2 mX11_note Q 60 [(0, .ref a0), (1, .int x1), (2, .int x2), (3, .int x3)] (v.toList ++ []) m2)) :
    Go X 2 mX11_note Q 50 [(0, .ref a0), (1, .int x1), (2, .int x2), (3, .int x3)] [.int xs0] m := by
  refine g_if_eq 63 dX11_note_50 (by decide) (fun q1 => ?_) (fun q1 => ?_)
  · refine g_bipush (v := -2) dX11_note_63 (by decide) ?_
    exact g_iret dX11_note_65 rfl enSH (h1 q1)
  · refine g_aload_n 0 dX11_note_53 rfl rfl ?_
    refine g_getR dX11_note_54 fl11_42 rfl c0 (w11_5 hW c0) ?_
    exact g_callV (As := []) (st := []) dX11_note_57 clX11_299 sh30 rfl rfl (Nat.le_of_ble_eq_true rfl) (rmSH (by decide) (by decide)) (h2 q1)
theorem bX11_note_60 {X : pX} {Q : Option Value → pMem → Prop} {m : pMem} {a0 : Nat} {x1 : Int32} {x2 : Int32} {x3 : Int32} {xs0 : Int32} (hW : Wf m) (c0 : SH[a0]? = some (.inl 11))
    (h1 : ¬ xs0 = 0 → Cl X 1 mX10_addNote [.ref 30, .int x1, .int x2, .int x3] m (fun v m2 => Go X 2 mX11_note Q 76 [(0, .ref a0), (1, .int x1), (2, .int x2), (3, .int x3)] (v.toList ++ []) m2))
    (h2 : xs0 = 0 → Q (some (.int (-2 : Int32))) m) :
    Go X 2 mX11_note Q 60 [(0, .ref a0), (1, .int x1), (2, .int x2), (3, .int x3)] [.int xs0] m := by
  refine g_if_ne 66 dX11_note_60 (by decide) (fun q1 => ?_) (fun q1 => ?_)
  · refine g_aload_n 0 dX11_note_66 rfl rfl ?_
    refine g_getR dX11_note_67 fl11_42 rfl c0 (w11_5 hW c0) ?_
    refine g_iload_n 1 dX11_note_70 rfl rfl ?_
    refine g_iload_n 2 dX11_note_71 rfl rfl ?_
    refine g_iload_n 3 dX11_note_72 rfl rfl ?_
    exact g_callV (As := [.int x1, .int x2, .int x3]) (st := []) dX11_note_73 clX11_302 sh30 rfl rfl (Nat.le_of_ble_eq_true rfl) (rmSH (by decide) (by decide)) (h1 q1)
  · refine g_bipush (v := -2) dX11_note_63 (by decide) ?_
    exact g_iret dX11_note_65 rfl enSH (h2 q1)
theorem bX11_note_76 {X : pX} {Q : Option Value → pMem → Prop} {m : pMem} {a0 : Nat} {x1 : Int32} {x2 : Int32} {x3 : Int32} (hW : Wf m) (c0 : SH[a0]? = some (.inl 11))
    (h1 : Q (some (.int (mI m 30 5))) m) :
    Go X 2 mX11_note Q 76 [(0, .ref a0), (1, .int x1), (2, .int x2), (3, .int x3)] [] m := by
  refine g_aload_n 0 dX11_note_76 rfl rfl ?_
  refine g_getR dX11_note_77 fl11_42 rfl c0 (w11_5 hW c0) ?_
  refine g_getI dX11_note_80 fl11_202 sh30 ?_
  exact g_iret dX11_note_83 rfl enSH h1
theorem bX11_ruled_0 {X : pX} {Q : Option Value → pMem → Prop} {m : pMem} {a0 : Nat} {x1 : Int32} (hW : Wf m) (c0 : SH[a0]? = some (.inl 11))
    (h1 : (mI m 31 0) = 0 → Q (some (.int (-3 : Int32))) m)
    (h2 : ¬ ((mI m 31 0) = 0) → x1 < 0 → Q (some (.int (-3 : Int32))) m)
    (h3 : ¬ ((mI m 31 0) = 0) → ¬ (x1 < 0) → x1 ≤ (1 : Int32) → Go X 6 mX11_ruled Q 33 [(0, .ref a0), (1, .int x1), (2, .int (0 : Int32)), (3, .int (-2 : Int32)), (4, .int (-1 : Int32))] [] m)
    (h4 : ¬ ((mI m 31 0) = 0) → ¬ (x1 < 0) → ¬ (x1 ≤ (1 : Int32)) → Q (some (.int (-3 : Int32))) m) :
    Go X 6 mX11_ruled Q 0 [(0, .ref a0), (1, .int x1)] [] m := by
  refine g_aload_n 0 dX11_ruled_0 rfl rfl ?_
  refine g_getR dX11_ruled_1 fl11_42 rfl c0 (w11_5 hW c0) ?_
  refine g_getR dX11_ruled_4 fl11_56 rfl sh30 (w10_0 hW sh30) ?_
  refine g_getZ dX11_ruled_7 fl11_217 (s10_0 sh30) ?_
  refine g_if_eq 22 dX11_ruled_10 (by decide) (fun q1 => ?_) (fun q1 => ?_)
  · refine g_bipush (v := -3) dX11_ruled_22 (by decide) ?_
    exact g_iret dX11_ruled_24 rfl enSH (h1 q1)
  · refine g_iload_n 1 dX11_ruled_13 rfl rfl ?_
    refine g_if_lt 22 dX11_ruled_14 (by decide) (fun q2 => ?_) (fun q2 => ?_)
    · refine g_bipush (v := -3) dX11_ruled_22 (by decide) ?_
      exact g_iret dX11_ruled_24 rfl enSH (h2 q1 q2)
    · refine g_iload_n 1 dX11_ruled_17 rfl rfl ?_
      refine g_iconst (v := 1) dX11_ruled_18 (by decide) ?_
      refine g_icmp_le 25 dX11_ruled_19 (by decide) (fun q3 => ?_) (fun q3 => ?_)
      · refine g_iconst (v := 0) dX11_ruled_25 (by decide) ?_
        refine g_istore_n (ls2 := [(2, .int (0 : Int32)), (0, .ref a0), (1, .int x1)]) dX11_ruled_26 rfl (by decide) rfl ?_
        refine g_bipush (v := -2) dX11_ruled_27 (by decide) ?_
        refine g_istore_n (ls2 := [(3, .int (-2 : Int32)), (2, .int (0 : Int32)), (0, .ref a0), (1, .int x1)]) dX11_ruled_29 rfl (by decide) rfl ?_
        refine g_iconst (v := -1) dX11_ruled_30 (by decide) ?_
        refine g_istore (ls2 := [(4, .int (-1 : Int32)), (3, .int (-2 : Int32)), (2, .int (0 : Int32)), (0, .ref a0), (1, .int x1)]) dX11_ruled_31 (by decide) rfl ?_
        exact g_ls [3, 4, 2, 1, 0] rfl (h3 q1 q2 q3)
      · refine g_bipush (v := -3) dX11_ruled_22 (by decide) ?_
        exact g_iret dX11_ruled_24 rfl enSH (h4 q1 q2 q3)
theorem bX11_ruled_33 {X : pX} {Q : Option Value → pMem → Prop} {m : pMem} {a0 : Nat} {x1 : Int32} {x2 : Int32} {x3 : Int32} {x4 : Int32} (hW : Wf m) (c0 : SH[a0]? = some (.inl 11))
    (h1 : (mI m a0 4) ≤ x4 → ¬ x1 = 0 → Q (some (.int x3)) m)
    (h2 : (mI m a0 4) ≤ x4 → x1 = 0 → Q (some (.int x2)) m)
    (h3 : ¬ ((mI m a0 4) ≤ x4) → Cl X 5 mX11_wouldBeAsNoted [.ref a0, .int x4] m (fun v m2 => Go X 6 mX11_ruled Q 48 [(0, .ref a0), (1, .int x1), (2, .int x2), (3, .int x3), (4, .int x4)] (v.toList ++ []) m2)) :
    Go X 6 mX11_ruled Q 33 [(0, .ref a0), (1, .int x1), (2, .int x2), (3, .int x3), (4, .int x4)] [] m := by
  refine g_iload 4 dX11_ruled_33 rfl ?_
  refine g_aload_n 0 dX11_ruled_35 rfl rfl ?_
  refine g_getI dX11_ruled_36 fl11_126 c0 ?_
  refine g_icmp_ge 67 dX11_ruled_39 (by decide) (fun q1 => ?_) (fun q1 => ?_)
  · refine g_iload_n 1 dX11_ruled_67 rfl rfl ?_
    refine g_if_ne 75 dX11_ruled_68 (by decide) (fun q2 => ?_) (fun q2 => ?_)
    · refine g_iload_n 3 dX11_ruled_75 rfl rfl ?_
      exact g_iret dX11_ruled_76 rfl enSH (h1 q1 q2)
    · refine g_iload_n 2 dX11_ruled_71 rfl rfl ?_
      refine g_goto 76 dX11_ruled_72 (by decide) ?_
      exact g_iret dX11_ruled_76 rfl enSH (h2 q1 q2)
  · refine g_aload_n 0 dX11_ruled_42 rfl rfl ?_
    refine g_iload 4 dX11_ruled_43 rfl ?_
    exact g_callV (As := [.int x4]) (st := []) dX11_ruled_45 clX11_306 c0 rfl rfl (Nat.le_of_ble_eq_true rfl) (rmSH (by decide) (by decide)) (h3 q1)
theorem bX11_ruled_48 {X : pX} {Q : Option Value → pMem → Prop} {m : pMem} {a0 : Nat} {x1 : Int32} {x2 : Int32} {x3 : Int32} {x4 : Int32} {xs0 : Int32} (hW : Wf m) (c0 : SH[a0]? = some (.inl 11))
    (h1 : xs0 = 0 → Go X 6 mX11_ruled Q 33 [(0, .ref a0), (1, .int x1), (2, .int x2), (3, .int x3), (4, .int (x4 + (1 : Int32)))] [] m)
    (h2 : ¬ (xs0 = 0) → ¬ x2 = 0 → Go X 6 mX11_ruled Q 33 [(0, .ref a0), (1, .int x1), (2, .int (x2 + (1 : Int32))), (3, .int x3), (4, .int (x4 + (1 : Int32)))] [] m)
    (h3 : ¬ (xs0 = 0) → x2 = 0 → Go X 6 mX11_ruled Q 33 [(0, .ref a0), (1, .int x1), (2, .int (x2 + (1 : Int32))), (3, .int x4), (4, .int (x4 + (1 : Int32)))] [] m) :
    Go X 6 mX11_ruled Q 48 [(0, .ref a0), (1, .int x1), (2, .int x2), (3, .int x3), (4, .int x4)] [.int xs0] m := by
  refine g_if_eq 61 dX11_ruled_48 (by decide) (fun q1 => ?_) (fun q1 => ?_)
  · refine g_iinc (v := x4 + (1 : Int32)) (ls2 := [(4, .int (x4 + (1 : Int32))), (0, .ref a0), (1, .int x1), (2, .int x2), (3, .int x3)]) 4 dX11_ruled_61 rfl rfl (by decide) rfl ?_
    refine g_goto 33 dX11_ruled_64 (by decide) ?_
    exact g_ls [1, 2, 3, 4, 0] rfl (h1 q1)
  · refine g_iload_n 2 dX11_ruled_51 rfl rfl ?_
    refine g_if_ne 58 dX11_ruled_52 (by decide) (fun q2 => ?_) (fun q2 => ?_)
    · refine g_iinc (v := x2 + (1 : Int32)) (ls2 := [(2, .int (x2 + (1 : Int32))), (0, .ref a0), (1, .int x1), (3, .int x3), (4, .int x4)]) 2 dX11_ruled_58 rfl rfl (by decide) rfl ?_
      refine g_iinc (v := x4 + (1 : Int32)) (ls2 := [(4, .int (x4 + (1 : Int32))), (2, .int (x2 + (1 : Int32))), (0, .ref a0), (1, .int x1), (3, .int x3)]) 4 dX11_ruled_61 rfl rfl (by decide) rfl ?_
      refine g_goto 33 dX11_ruled_64 (by decide) ?_
      exact g_ls [2, 3, 1, 4, 0] rfl (h2 q1 q2)
    · refine g_iload 4 dX11_ruled_55 rfl ?_
      refine g_istore_n (ls2 := [(3, .int x4), (0, .ref a0), (1, .int x1), (2, .int x2), (4, .int x4)]) dX11_ruled_57 rfl (by decide) rfl ?_
      refine g_iinc (v := x2 + (1 : Int32)) (ls2 := [(2, .int (x2 + (1 : Int32))), (3, .int x4), (0, .ref a0), (1, .int x1), (4, .int x4)]) 3 dX11_ruled_58 rfl rfl (by decide) rfl ?_
      refine g_iinc (v := x4 + (1 : Int32)) (ls2 := [(4, .int (x4 + (1 : Int32))), (2, .int (x2 + (1 : Int32))), (3, .int x4), (0, .ref a0), (1, .int x1)]) 4 dX11_ruled_61 rfl rfl (by decide) rfl ?_
      refine g_goto 33 dX11_ruled_64 (by decide) ?_
      exact g_ls [3, 4, 1, 2, 0] rfl (h3 q1 q2)
theorem bX11_look_0 {X : pX} {Q : Option Value → pMem → Prop} {m : pMem} {a0 : Nat} {x1 : Int32} {x2 : Int32} (hW : Wf m) (c0 : SH[a0]? = some (.inl 11))
    (h1 : (mI m 31 0) = 0 → Q (some (.int (-1 : Int32))) m)
    (h2 : ¬ ((mI m 31 0) = 0) → x1 < 0 → Q (some (.int (-1 : Int32))) m)
    (h3 : ¬ ((mI m 31 0) = 0) → ¬ (x1 < 0) → (60 : Int32) < x1 → Q (some (.int (-1 : Int32))) m)
    (h4 : ¬ ((mI m 31 0) = 0) → ¬ (x1 < 0) → ¬ ((60 : Int32) < x1) → x2 < 0 → Q (some (.int (-1 : Int32))) m)
    (h5 : ¬ ((mI m 31 0) = 0) → ¬ (x1 < 0) → ¬ ((60 : Int32) < x1) → ¬ (x2 < 0) → x2 ≤ (1 : Int32) → Cl X 6 mX11_seeAt [.ref a0, .int x1] m (fun v m2 => Go X 7 mX11_look Q 39 [(0, .ref a0), (1, .int x1), (2, .int x2)] (v.toList ++ []) m2))
    (h6 : ¬ ((mI m 31 0) = 0) → ¬ (x1 < 0) → ¬ ((60 : Int32) < x1) → ¬ (x2 < 0) → ¬ (x2 ≤ (1 : Int32)) → Q (some (.int (-1 : Int32))) m) :
    Go X 7 mX11_look Q 0 [(0, .ref a0), (1, .int x1), (2, .int x2)] [] m := by
  refine g_aload_n 0 dX11_look_0 rfl rfl ?_
  refine g_getR dX11_look_1 fl11_42 rfl c0 (w11_5 hW c0) ?_
  refine g_getR dX11_look_4 fl11_56 rfl sh30 (w10_0 hW sh30) ?_
  refine g_getZ dX11_look_7 fl11_217 (s10_0 sh30) ?_
  refine g_if_eq 32 dX11_look_10 (by decide) (fun q1 => ?_) (fun q1 => ?_)
  · refine g_iconst (v := -1) dX11_look_32 (by decide) ?_
    exact g_iret dX11_look_33 rfl enSH (h1 q1)
  · refine g_iload_n 1 dX11_look_13 rfl rfl ?_
    refine g_if_lt 32 dX11_look_14 (by decide) (fun q2 => ?_) (fun q2 => ?_)
    · refine g_iconst (v := -1) dX11_look_32 (by decide) ?_
      exact g_iret dX11_look_33 rfl enSH (h2 q1 q2)
    · refine g_iload_n 1 dX11_look_17 rfl rfl ?_
      refine g_bipush (v := 60) dX11_look_18 (by decide) ?_
      refine g_icmp_gt 32 dX11_look_20 (by decide) (fun q3 => ?_) (fun q3 => ?_)
      · refine g_iconst (v := -1) dX11_look_32 (by decide) ?_
        exact g_iret dX11_look_33 rfl enSH (h3 q1 q2 q3)
      · refine g_iload_n 2 dX11_look_23 rfl rfl ?_
        refine g_if_lt 32 dX11_look_24 (by decide) (fun q4 => ?_) (fun q4 => ?_)
        · refine g_iconst (v := -1) dX11_look_32 (by decide) ?_
          exact g_iret dX11_look_33 rfl enSH (h4 q1 q2 q3 q4)
        · refine g_iload_n 2 dX11_look_27 rfl rfl ?_
          refine g_iconst (v := 1) dX11_look_28 (by decide) ?_
          refine g_icmp_le 34 dX11_look_29 (by decide) (fun q5 => ?_) (fun q5 => ?_)
          · refine g_aload_n 0 dX11_look_34 rfl rfl ?_
            refine g_iload_n 1 dX11_look_35 rfl rfl ?_
            exact g_callV (As := [.int x1]) (st := []) dX11_look_36 clX11_309 c0 rfl rfl (Nat.le_of_ble_eq_true rfl) (rmSH (by decide) (by decide)) (h5 q1 q2 q3 q4 q5)
          · refine g_iconst (v := -1) dX11_look_32 (by decide) ?_
            exact g_iret dX11_look_33 rfl enSH (h6 q1 q2 q3 q4 q5)
theorem bX11_look_39 {X : pX} {Q : Option Value → pMem → Prop} {m : pMem} {a0 : Nat} {x1 : Int32} {x2 : Int32} {xs0 : Int32} (hW : Wf m) (c0 : SH[a0]? = some (.inl 11))
    (h1 : ¬ xs0 = 0 → Go X 7 mX11_look Q 58 [(0, .ref a0), (2, .int x2), (3, .int xs0), (4, .int (-2 : Int32)), (5, .int (-2 : Int32)), (6, .int (0 : Int32))] [] m)
    (h2 : xs0 = 0 → Q (some (.int (-2 : Int32))) m) :
    Go X 7 mX11_look Q 39 [(0, .ref a0), (1, .int x1), (2, .int x2)] [.int xs0] m := by
  refine g_istore_n (ls2 := [(3, .int xs0), (0, .ref a0), (1, .int x1), (2, .int x2)]) dX11_look_39 rfl (by decide) rfl ?_
  refine g_iload_n 0 dX11_look_40 rfl rfl ?_
  refine g_if_ne 47 dX11_look_41 (by decide) (fun q1 => ?_) (fun q1 => ?_)
  · refine g_bipush (v := -2) dX11_look_47 (by decide) ?_
    refine g_istore (ls2 := [(4, .int (-2 : Int32)), (3, .int xs0), (0, .ref a0), (1, .int x1), (2, .int x2)]) dX11_look_49 (by decide) rfl ?_
    refine g_bipush (v := -2) dX11_look_51 (by decide) ?_
    refine g_istore (ls2 := [(5, .int (-2 : Int32)), (4, .int (-2 : Int32)), (3, .int xs0), (0, .ref a0), (1, .int x1), (2, .int x2)]) dX11_look_53 (by decide) rfl ?_
    refine g_iconst (v := 0) dX11_look_55 (by decide) ?_
    refine g_istore (ls2 := [(6, .int (0 : Int32)), (5, .int (-2 : Int32)), (4, .int (-2 : Int32)), (3, .int xs0), (0, .ref a0), (1, .int x1), (2, .int x2)]) dX11_look_56 (by decide) rfl ?_
    exact g_ls [4, 6, 3, 2, 1, 0] rfl (h1 q1)
  · refine g_bipush (v := -2) dX11_look_44 (by decide) ?_
    exact g_iret dX11_look_46 rfl enSH (h2 q1)
theorem bX11_look_58 {X : pX} {Q : Option Value → pMem → Prop} {m : pMem} {a0 : Nat} {x2 : Int32} {x3 : Int32} {x4 : Int32} {x5 : Int32} {x6 : Int32} (hW : Wf m) (c0 : SH[a0]? = some (.inl 11))
    (h1 : (mI m 31 3) ≤ x6 → ¬ x2 = 0 → Q (some (.int x5)) m)
    (h2 : (mI m 31 3) ≤ x6 → x2 = 0 → Q (some (.int x4)) m)
    (h3 : ¬ ((mI m 31 3) ≤ x6) → Cl X 1 mX11_mostAlike [.ref a0, .int x3, .int x6] m (fun v m2 => Go X 7 mX11_look Q 80 [(0, .ref a0), (2, .int x2), (3, .int x3), (4, .int x4), (5, .int x5), (6, .int x6)] (v.toList ++ []) m2)) :
    Go X 7 mX11_look Q 58 [(0, .ref a0), (2, .int x2), (3, .int x3), (4, .int x4), (5, .int x5), (6, .int x6)] [] m := by
  refine g_iload 5 dX11_look_58 rfl ?_
  refine g_aload_n 0 dX11_look_60 rfl rfl ?_
  refine g_getR dX11_look_61 fl11_42 rfl c0 (w11_5 hW c0) ?_
  refine g_getR dX11_look_64 fl11_56 rfl sh30 (w10_0 hW sh30) ?_
  refine g_getI dX11_look_67 fl11_121 (s10_0 sh30) ?_
  refine g_icmp_ge 110 dX11_look_70 (by decide) (fun q1 => ?_) (fun q1 => ?_)
  · refine g_iload_n 1 dX11_look_110 rfl rfl ?_
    refine g_if_ne 119 dX11_look_111 (by decide) (fun q2 => ?_) (fun q2 => ?_)
    · refine g_iload 4 dX11_look_119 rfl ?_
      exact g_iret dX11_look_121 rfl enSH (h1 q1 q2)
    · refine g_iload 3 dX11_look_114 rfl ?_
      refine g_goto 121 dX11_look_116 (by decide) ?_
      exact g_iret dX11_look_121 rfl enSH (h2 q1 q2)
  · refine g_aload_n 0 dX11_look_73 rfl rfl ?_
    refine g_iload_n 2 dX11_look_74 rfl rfl ?_
    refine g_iload 5 dX11_look_75 rfl ?_
    exact g_callV (As := [.int x3, .int x6]) (st := []) dX11_look_77 clX11_312 c0 rfl rfl (Nat.le_of_ble_eq_true rfl) (rmSH (by decide) (by decide)) (h3 q1)
theorem bX11_look_80 {X : pX} {Q : Option Value → pMem → Prop} {m : pMem} {a0 : Nat} {x2 : Int32} {x3 : Int32} {x4 : Int32} {x5 : Int32} {x6 : Int32} {xs0 : Int32} (hW : Wf m) (c0 : SH[a0]? = some (.inl 11))
    (h1 : x4 = (-2 : Int32) → Go X 7 mX11_look Q 58 [(0, .ref a0), (2, .int x2), (3, .int x3), (4, .int x6), (5, .int xs0), (6, .int (x6 + (1 : Int32)))] [] m)
    (h2 : ¬ (x4 = (-2 : Int32)) → x5 ≤ xs0 → Go X 7 mX11_look Q 58 [(0, .ref a0), (2, .int x2), (3, .int x3), (4, .int x4), (5, .int x5), (6, .int (x6 + (1 : Int32)))] [] m)
    (h3 : ¬ (x4 = (-2 : Int32)) → ¬ (x5 ≤ xs0) → Go X 7 mX11_look Q 58 [(0, .ref a0), (2, .int x2), (3, .int x3), (4, .int x6), (5, .int xs0), (6, .int (x6 + (1 : Int32)))] [] m) :
    Go X 7 mX11_look Q 80 [(0, .ref a0), (2, .int x2), (3, .int x3), (4, .int x4), (5, .int x5), (6, .int x6)] [.int xs0] m := by
  refine g_istore (ls2 := [(7, .int xs0), (0, .ref a0), (2, .int x2), (3, .int x3), (4, .int x4), (5, .int x5), (6, .int x6)]) dX11_look_80 (by decide) rfl ?_
  refine g_iload 4 dX11_look_82 rfl ?_
  refine g_bipush (v := -2) dX11_look_84 (by decide) ?_
  refine g_icmp_eq 96 dX11_look_86 (by decide) (fun q1 => ?_) (fun q1 => ?_)
  · refine g_iload 6 dX11_look_96 rfl ?_
    refine g_istore (ls2 := [(4, .int x6), (7, .int xs0), (0, .ref a0), (2, .int x2), (3, .int x3), (5, .int x5), (6, .int x6)]) dX11_look_98 (by decide) rfl ?_
    refine g_iload 1 dX11_look_100 rfl ?_
    refine g_istore (ls2 := [(5, .int xs0), (4, .int x6), (7, .int xs0), (0, .ref a0), (2, .int x2), (3, .int x3), (6, .int x6)]) dX11_look_102 (by decide) rfl ?_
    refine g_iinc (v := x6 + (1 : Int32)) (ls2 := [(6, .int (x6 + (1 : Int32))), (5, .int xs0), (4, .int x6), (7, .int xs0), (0, .ref a0), (2, .int x2), (3, .int x3)]) 6 dX11_look_104 rfl rfl (by decide) rfl ?_
    refine g_goto 58 dX11_look_107 (by decide) ?_
    exact g_ls [4, 5, 6, 2, 1, 0] rfl (h1 q1)
  · refine g_iload 0 dX11_look_89 rfl ?_
    refine g_iload 5 dX11_look_91 rfl ?_
    refine g_icmp_ge 104 dX11_look_93 (by decide) (fun q2 => ?_) (fun q2 => ?_)
    · refine g_iinc (v := x6 + (1 : Int32)) (ls2 := [(6, .int (x6 + (1 : Int32))), (7, .int xs0), (0, .ref a0), (2, .int x2), (3, .int x3), (4, .int x4), (5, .int x5)]) 6 dX11_look_104 rfl rfl (by decide) rfl ?_
      refine g_goto 58 dX11_look_107 (by decide) ?_
      exact g_ls [2, 3, 4, 5, 6, 0] rfl (h2 q1 q2)
    · refine g_iload 6 dX11_look_96 rfl ?_
      refine g_istore (ls2 := [(4, .int x6), (7, .int xs0), (0, .ref a0), (2, .int x2), (3, .int x3), (5, .int x5), (6, .int x6)]) dX11_look_98 (by decide) rfl ?_
      refine g_iload 1 dX11_look_100 rfl ?_
      refine g_istore (ls2 := [(5, .int xs0), (4, .int x6), (7, .int xs0), (0, .ref a0), (2, .int x2), (3, .int x3), (6, .int x6)]) dX11_look_102 (by decide) rfl ?_
      refine g_iinc (v := x6 + (1 : Int32)) (ls2 := [(6, .int (x6 + (1 : Int32))), (5, .int xs0), (4, .int x6), (7, .int xs0), (0, .ref a0), (2, .int x2), (3, .int x3)]) 6 dX11_look_104 rfl rfl (by decide) rfl ?_
      refine g_goto 58 dX11_look_107 (by decide) ?_
      exact g_ls [4, 5, 6, 2, 1, 0] rfl (h3 q1 q2)
theorem bX11_wouldBeAsNoted_0 {X : pX} {Q : Option Value → pMem → Prop} {m : pMem} {a0 : Nat} {x1 : Int32} (hW : Wf m) (c0 : SH[a0]? = some (.inl 11))
    (h1 : Cl X 1 mX4_begin [.ref 31, .ref 523] m (fun v m2 => Go X 5 mX11_wouldBeAsNoted Q 14 [(0, .ref a0), (1, .int x1)] (v.toList ++ []) m2)) :
    Go X 5 mX11_wouldBeAsNoted Q 0 [(0, .ref a0), (1, .int x1)] [] m := by
  refine g_aload_n 0 dX11_wouldBeAsNoted_0 rfl rfl ?_
  refine g_getR dX11_wouldBeAsNoted_1 fl11_42 rfl c0 (w11_5 hW c0) ?_
  refine g_getR dX11_wouldBeAsNoted_4 fl11_56 rfl sh30 (w10_0 hW sh30) ?_
  refine g_aload_n 0 dX11_wouldBeAsNoted_7 rfl rfl ?_
  refine g_getR dX11_wouldBeAsNoted_8 fl11_90 rfl c0 (w11_11 hW c0) ?_
  exact g_callV (As := [.ref 523]) (st := []) dX11_wouldBeAsNoted_11 clX11_315 (s10_0 sh30) rfl rfl (Nat.le_of_ble_eq_true rfl) (rmSH (by decide) (by decide)) h1
theorem bX11_wouldBeAsNoted_14 {X : pX} {Q : Option Value → pMem → Prop} {m : pMem} {a0 : Nat} {x1 : Int32} (hW : Wf m) (c0 : SH[a0]? = some (.inl 11))
    (h1 : Go X 5 mX11_wouldBeAsNoted Q 16 [(0, .ref a0), (1, .int x1), (2, .int (0 : Int32))] [] m) :
    Go X 5 mX11_wouldBeAsNoted Q 14 [(0, .ref a0), (1, .int x1)] [] m := by
  refine g_iconst (v := 0) dX11_wouldBeAsNoted_14 (by decide) ?_
  refine g_istore_n (ls2 := [(2, .int (0 : Int32)), (0, .ref a0), (1, .int x1)]) dX11_wouldBeAsNoted_15 rfl (by decide) rfl ?_
  exact g_ls [1, 2, 0] rfl h1
theorem bX11_wouldBeAsNoted_16 {X : pX} {Q : Option Value → pMem → Prop} {m : pMem} {a0 : Nat} {x1 : Int32} {x2 : Int32} (hW : Wf m) (c0 : SH[a0]? = some (.inl 11))
    (h1 : (60 : Int32) < x2 → Q (some (.int (1 : Int32))) m)
    (h2 : ¬ ((60 : Int32) < x2) → Cl X 1 mX10_isAsNoted [.ref 30, .ref 523] m (fun v m2 => Go X 5 mX11_wouldBeAsNoted Q 33 [(0, .ref a0), (1, .int x1), (2, .int x2)] (v.toList ++ []) m2)) :
    Go X 5 mX11_wouldBeAsNoted Q 16 [(0, .ref a0), (1, .int x1), (2, .int x2)] [] m := by
  refine g_iload_n 2 dX11_wouldBeAsNoted_16 rfl rfl ?_
  refine g_bipush (v := 60) dX11_wouldBeAsNoted_17 (by decide) ?_
  refine g_icmp_gt 61 dX11_wouldBeAsNoted_19 (by decide) (fun q1 => ?_) (fun q1 => ?_)
  · refine g_iconst (v := 1) dX11_wouldBeAsNoted_61 (by decide) ?_
    exact g_bret dX11_wouldBeAsNoted_62 rfl (Or.inr rfl) enSH (h1 q1)
  · refine g_aload_n 0 dX11_wouldBeAsNoted_22 rfl rfl ?_
    refine g_getR dX11_wouldBeAsNoted_23 fl11_42 rfl c0 (w11_5 hW c0) ?_
    refine g_aload_n 0 dX11_wouldBeAsNoted_26 rfl rfl ?_
    refine g_getR dX11_wouldBeAsNoted_27 fl11_90 rfl c0 (w11_11 hW c0) ?_
    exact g_callV (As := [.ref 523]) (st := []) dX11_wouldBeAsNoted_30 clX11_317 sh30 rfl rfl (Nat.le_of_ble_eq_true rfl) (rmSH (by decide) (by decide)) (h2 q1)
theorem bX11_wouldBeAsNoted_33 {X : pX} {Q : Option Value → pMem → Prop} {m : pMem} {a0 : Nat} {x1 : Int32} {x2 : Int32} {xs0 : Int32} (hW : Wf m) (c0 : SH[a0]? = some (.inl 11))
    (h1 : ¬ xs0 = 0 → Cl X 0 mX11_ruleOf [.ref a0, .int x1] m (fun v m2 => Go X 5 mX11_wouldBeAsNoted Q 51 [(0, .ref a0), (1, .int x1), (2, .int x2)] (v.toList ++ [.ref 523, .ref 512]) m2))
    (h2 : xs0 = 0 → Q (some (.int (0 : Int32))) m) :
    Go X 5 mX11_wouldBeAsNoted Q 33 [(0, .ref a0), (1, .int x1), (2, .int x2)] [.int xs0] m := by
  refine g_if_ne 38 dX11_wouldBeAsNoted_33 (by decide) (fun q1 => ?_) (fun q1 => ?_)
  · refine g_aload_n 0 dX11_wouldBeAsNoted_38 rfl rfl ?_
    refine g_getR dX11_wouldBeAsNoted_39 fl11_63 rfl c0 (w11_8 hW c0) ?_
    refine g_aload_n 0 dX11_wouldBeAsNoted_42 rfl rfl ?_
    refine g_getR dX11_wouldBeAsNoted_43 fl11_90 rfl c0 (w11_11 hW c0) ?_
    refine g_aload_n 0 dX11_wouldBeAsNoted_46 rfl rfl ?_
    refine g_iload_n 1 dX11_wouldBeAsNoted_47 rfl rfl ?_
    exact g_callV (As := [.int x1]) (st := [.ref 523, .ref 512]) dX11_wouldBeAsNoted_48 clX11_321 c0 rfl rfl (Nat.le_of_ble_eq_true rfl) (rmSH (by decide) (by decide)) (h1 q1)
  · refine g_iconst (v := 0) dX11_wouldBeAsNoted_36 (by decide) ?_
    exact g_bret dX11_wouldBeAsNoted_37 rfl (Or.inl rfl) enSH (h2 q1)
theorem bX11_wouldBeAsNoted_51 {X : pX} {Q : Option Value → pMem → Prop} {m : pMem} {a0 : Nat} {x1 : Int32} {x2 : Int32} {as0 : Nat} {as1 : Nat} {as2 : Nat} (hW : Wf m) (c0 : SH[a0]? = some (.inl 11)) (cs0 : SH[as0]? = some (.inl 6)) (cs1 : SH[as1]? = some (.inl 8)) (cs2 : SH[as2]? = some (.inl 0))
    (h1 : Cl X 4 mX0_oneDay [.ref as2, .ref as1, .ref as0] m (fun v m2 => Go X 5 mX11_wouldBeAsNoted Q 54 [(0, .ref a0), (1, .int x1), (2, .int x2)] (v.toList ++ []) m2)) :
    Go X 5 mX11_wouldBeAsNoted Q 51 [(0, .ref a0), (1, .int x1), (2, .int x2)] [.ref as0, .ref as1, .ref as2] m := by
  exact g_callV (As := [.ref as1, .ref as0]) (st := []) dX11_wouldBeAsNoted_51 clX11_229 cs2 rfl rfl (Nat.le_of_ble_eq_true rfl) (rmSH (by decide) (by decide)) h1
theorem bX11_wouldBeAsNoted_51v1 {X : pX} {Q : Option Value → pMem → Prop} {m : pMem} {a0 : Nat} {x1 : Int32} {x2 : Int32} {as1 : Nat} {as2 : Nat} (hW : Wf m) (c0 : SH[a0]? = some (.inl 11)) (cs1 : SH[as1]? = some (.inl 8)) (cs2 : SH[as2]? = some (.inl 0))
    (h1 : Cl X 4 mX0_oneDay [.ref as2, .ref as1, .null] m (fun v m2 => Go X 5 mX11_wouldBeAsNoted Q 54 [(0, .ref a0), (1, .int x1), (2, .int x2)] (v.toList ++ []) m2)) :
    Go X 5 mX11_wouldBeAsNoted Q 51 [(0, .ref a0), (1, .int x1), (2, .int x2)] [.null, .ref as1, .ref as2] m := by
  exact g_callV (As := [.ref as1, .null]) (st := []) dX11_wouldBeAsNoted_51 clX11_229 cs2 rfl rfl (Nat.le_of_ble_eq_true rfl) (rmSH (by decide) (by decide)) h1
theorem bX11_wouldBeAsNoted_54 {X : pX} {Q : Option Value → pMem → Prop} {m : pMem} {a0 : Nat} {x1 : Int32} {x2 : Int32} {xs0 : Int32} (hW : Wf m) (c0 : SH[a0]? = some (.inl 11))
    (h1 : Go X 5 mX11_wouldBeAsNoted Q 16 [(0, .ref a0), (1, .int x1), (2, .int (x2 + (1 : Int32)))] [] m) :
    Go X 5 mX11_wouldBeAsNoted Q 54 [(0, .ref a0), (1, .int x1), (2, .int x2)] [.int xs0] m := by
  refine g_pop dX11_wouldBeAsNoted_54 rfl ?_
  refine g_iinc (v := x2 + (1 : Int32)) (ls2 := [(2, .int (x2 + (1 : Int32))), (0, .ref a0), (1, .int x1)]) 2 dX11_wouldBeAsNoted_55 rfl rfl (by decide) rfl ?_
  refine g_goto 16 dX11_wouldBeAsNoted_58 (by decide) ?_
  exact g_ls [1, 2, 0] rfl h1
theorem bX11_seeAt_0 {X : pX} {Q : Option Value → pMem → Prop} {m : pMem} {a0 : Nat} {x1 : Int32} (hW : Wf m) (c0 : SH[a0]? = some (.inl 11))
    (h1 : Go X 6 mX11_seeAt Q 4 [(0, .ref a0), (1, .int x1), (2, .int (0 : Int32)), (3, .int (-1 : Int32))] [] m) :
    Go X 6 mX11_seeAt Q 0 [(0, .ref a0), (1, .int x1)] [] m := by
  refine g_iconst (v := 0) dX11_seeAt_0 (by decide) ?_
  refine g_istore_n (ls2 := [(2, .int (0 : Int32)), (0, .ref a0), (1, .int x1)]) dX11_seeAt_1 rfl (by decide) rfl ?_
  refine g_iconst (v := -1) dX11_seeAt_2 (by decide) ?_
  refine g_istore_n (ls2 := [(3, .int (-1 : Int32)), (2, .int (0 : Int32)), (0, .ref a0), (1, .int x1)]) dX11_seeAt_3 rfl (by decide) rfl ?_
  exact g_ls [2, 3, 1, 0] rfl h1
theorem bX11_seeAt_4 {X : pX} {Q : Option Value → pMem → Prop} {m : pMem} {a0 : Nat} {x1 : Int32} {x2 : Int32} {x3 : Int32} (hW : Wf m) (c0 : SH[a0]? = some (.inl 11))
    (h1 : (mI m a0 4) ≤ x3 → Q (some (.int x2)) m)
    (h2 : ¬ ((mI m a0 4) ≤ x3) → (7 : Int32) ≤ x2 → Go X 6 mX11_seeAt Q 4 [(0, .ref a0), (1, .int x1), (2, .int x2), (3, .int (x3 + (1 : Int32)))] [] m)
    (h3 : ¬ ((mI m a0 4) ≤ x3) → ¬ ((7 : Int32) ≤ x2) → Cl X 5 mX11_wouldBeAsNoted [.ref a0, .int x3] m (fun v m2 => Go X 6 mX11_seeAt Q 26 [(0, .ref a0), (1, .int x1), (2, .int x2), (3, .int x3)] (v.toList ++ []) m2)) :
    Go X 6 mX11_seeAt Q 4 [(0, .ref a0), (1, .int x1), (2, .int x2), (3, .int x3)] [] m := by
  refine g_iload_n 3 dX11_seeAt_4 rfl rfl ?_
  refine g_aload_n 0 dX11_seeAt_5 rfl rfl ?_
  refine g_getI dX11_seeAt_6 fl11_126 c0 ?_
  refine g_icmp_ge 88 dX11_seeAt_9 (by decide) (fun q1 => ?_) (fun q1 => ?_)
  · refine g_iload_n 2 dX11_seeAt_88 rfl rfl ?_
    exact g_iret dX11_seeAt_89 rfl enSH (h1 q1)
  · refine g_iload_n 2 dX11_seeAt_12 rfl rfl ?_
    refine g_aload_n 0 dX11_seeAt_13 rfl rfl ?_
    refine g_getR dX11_seeAt_14 fl11_95 rfl c0 (w11_12 hW c0) ?_
    refine g_alen (v := (7 : Int32)) dX11_seeAt_17 sh527 (by decide) (by first | rfl | decide) ?_
    refine g_icmp_ge 82 dX11_seeAt_18 (by decide) (fun q2 => ?_) (fun q2 => ?_)
    · refine g_iinc (v := x3 + (1 : Int32)) (ls2 := [(3, .int (x3 + (1 : Int32))), (0, .ref a0), (1, .int x1), (2, .int x2)]) 3 dX11_seeAt_82 rfl rfl (by decide) rfl ?_
      refine g_goto 4 dX11_seeAt_85 (by decide) ?_
      exact g_ls [1, 2, 3, 0] rfl (h2 q1 q2)
    · refine g_aload_n 0 dX11_seeAt_21 rfl rfl ?_
      refine g_iload_n 3 dX11_seeAt_22 rfl rfl ?_
      exact g_callV (As := [.int x3]) (st := []) dX11_seeAt_23 clX11_306 c0 rfl rfl (Nat.le_of_ble_eq_true rfl) (rmSH (by decide) (by decide)) (h3 q1 q2)
theorem bX11_seeAt_26 {X : pX} {Q : Option Value → pMem → Prop} {m : pMem} {a0 : Nat} {x1 : Int32} {x2 : Int32} {x3 : Int32} {xs0 : Int32} (hW : Wf m) (c0 : SH[a0]? = some (.inl 11))
    (h1 : xs0 = 0 → Go X 6 mX11_seeAt Q 4 [(0, .ref a0), (1, .int x1), (2, .int x2), (3, .int (x3 + (1 : Int32)))] [] m)
    (h2 : ¬ (xs0 = 0) → Cl X 1 mX4_begin [.ref 31, .ref 523] m (fun v m2 => Go X 6 mX11_seeAt Q 43 [(0, .ref a0), (1, .int x1), (2, .int x2), (3, .int x3)] (v.toList ++ []) m2)) :
    Go X 6 mX11_seeAt Q 26 [(0, .ref a0), (1, .int x1), (2, .int x2), (3, .int x3)] [.int xs0] m := by
  refine g_if_eq 82 dX11_seeAt_26 (by decide) (fun q1 => ?_) (fun q1 => ?_)
  · refine g_iinc (v := x3 + (1 : Int32)) (ls2 := [(3, .int (x3 + (1 : Int32))), (0, .ref a0), (1, .int x1), (2, .int x2)]) 3 dX11_seeAt_82 rfl rfl (by decide) rfl ?_
    refine g_goto 4 dX11_seeAt_85 (by decide) ?_
    exact g_ls [1, 2, 3, 0] rfl (h1 q1)
  · refine g_aload_n 0 dX11_seeAt_29 rfl rfl ?_
    refine g_getR dX11_seeAt_30 fl11_42 rfl c0 (w11_5 hW c0) ?_
    refine g_getR dX11_seeAt_33 fl11_56 rfl sh30 (w10_0 hW sh30) ?_
    refine g_aload_n 0 dX11_seeAt_36 rfl rfl ?_
    refine g_getR dX11_seeAt_37 fl11_90 rfl c0 (w11_11 hW c0) ?_
    exact g_callV (As := [.ref 523]) (st := []) dX11_seeAt_40 clX11_315 (s10_0 sh30) rfl rfl (Nat.le_of_ble_eq_true rfl) (rmSH (by decide) (by decide)) (h2 q1)
theorem bX11_seeAt_43 {X : pX} {Q : Option Value → pMem → Prop} {m : pMem} {a0 : Nat} {x1 : Int32} {x2 : Int32} {x3 : Int32} (hW : Wf m) (c0 : SH[a0]? = some (.inl 11))
    (h1 : Cl X 0 mX11_ruleOf [.ref a0, .int x3] m (fun v m2 => Go X 6 mX11_seeAt Q 56 [(0, .ref a0), (1, .int x1), (2, .int x2), (3, .int x3)] (v.toList ++ [.ref 523, .ref 512]) m2)) :
    Go X 6 mX11_seeAt Q 43 [(0, .ref a0), (1, .int x1), (2, .int x2), (3, .int x3)] [] m := by
  refine g_aload_n 0 dX11_seeAt_43 rfl rfl ?_
  refine g_getR dX11_seeAt_44 fl11_63 rfl c0 (w11_8 hW c0) ?_
  refine g_aload_n 0 dX11_seeAt_47 rfl rfl ?_
  refine g_getR dX11_seeAt_48 fl11_90 rfl c0 (w11_11 hW c0) ?_
  refine g_aload_n 0 dX11_seeAt_51 rfl rfl ?_
  refine g_iload_n 3 dX11_seeAt_52 rfl rfl ?_
  exact g_callV (As := [.int x3]) (st := [.ref 523, .ref 512]) dX11_seeAt_53 clX11_321 c0 rfl rfl (Nat.le_of_ble_eq_true rfl) (rmSH (by decide) (by decide)) h1
theorem bX11_seeAt_56 {X : pX} {Q : Option Value → pMem → Prop} {m : pMem} {a0 : Nat} {x1 : Int32} {x2 : Int32} {x3 : Int32} {as0 : Nat} {as1 : Nat} {as2 : Nat} (hW : Wf m) (c0 : SH[a0]? = some (.inl 11)) (cs0 : SH[as0]? = some (.inl 6)) (cs1 : SH[as1]? = some (.inl 8)) (cs2 : SH[as2]? = some (.inl 0))
    (h1 : Cl X 5 mX0_goOn [.ref as2, .ref as1, .ref as0, .int x1] m (fun v m2 => Go X 6 mX11_seeAt Q 60 [(0, .ref a0), (1, .int x1), (2, .int x2), (3, .int x3)] (v.toList ++ []) m2)) :
    Go X 6 mX11_seeAt Q 56 [(0, .ref a0), (1, .int x1), (2, .int x2), (3, .int x3)] [.ref as0, .ref as1, .ref as2] m := by
  refine g_iload_n 1 dX11_seeAt_56 rfl rfl ?_
  exact g_callV (As := [.ref as1, .ref as0, .int x1]) (st := []) dX11_seeAt_57 clX11_259 cs2 rfl rfl (Nat.le_of_ble_eq_true rfl) (rmSH (by decide) (by decide)) h1
theorem bX11_seeAt_56v1 {X : pX} {Q : Option Value → pMem → Prop} {m : pMem} {a0 : Nat} {x1 : Int32} {x2 : Int32} {x3 : Int32} {as1 : Nat} {as2 : Nat} (hW : Wf m) (c0 : SH[a0]? = some (.inl 11)) (cs1 : SH[as1]? = some (.inl 8)) (cs2 : SH[as2]? = some (.inl 0))
    (h1 : Cl X 5 mX0_goOn [.ref as2, .ref as1, .null, .int x1] m (fun v m2 => Go X 6 mX11_seeAt Q 60 [(0, .ref a0), (1, .int x1), (2, .int x2), (3, .int x3)] (v.toList ++ []) m2)) :
    Go X 6 mX11_seeAt Q 56 [(0, .ref a0), (1, .int x1), (2, .int x2), (3, .int x3)] [.null, .ref as1, .ref as2] m := by
  refine g_iload_n 1 dX11_seeAt_56 rfl rfl ?_
  exact g_callV (As := [.ref as1, .null, .int x1]) (st := []) dX11_seeAt_57 clX11_259 cs2 rfl rfl (Nat.le_of_ble_eq_true rfl) (rmSH (by decide) (by decide)) h1
theorem bX11_seeAt_60 {X : pX} {Q : Option Value → pMem → Prop} {m : pMem} {a0 : Nat} {x1 : Int32} {x2 : Int32} {x3 : Int32} (hW : Wf m) (c0 : SH[a0]? = some (.inl 11))
    (h1 : vp_in x2 7)
    (h2 : Go X 6 mX11_seeAt Q 4 [(0, .ref a0), (1, .int x1), (2, .int (x2 + (1 : Int32))), (3, .int (x3 + (1 : Int32)))] [] (uC m 524 0 (528 + x2.toNatClampNeg) 0 4)) :
    Go X 6 mX11_seeAt Q 60 [(0, .ref a0), (1, .int x1), (2, .int x2), (3, .int x3)] [] m := by
  refine g_aload_n 0 dX11_seeAt_60 rfl rfl ?_
  refine g_getR dX11_seeAt_61 fl11_90 rfl c0 (w11_11 hW c0) ?_
  refine g_getR dX11_seeAt_64 fl11_146 rfl sh523 (w8_1 hW sh523) ?_
  refine g_iconst (v := 0) dX11_seeAt_67 (by decide) ?_
  refine g_aload_n 0 dX11_seeAt_68 rfl rfl ?_
  refine g_getR dX11_seeAt_69 fl11_95 rfl c0 (w11_12 hW c0) ?_
  refine g_iload_n 2 dX11_seeAt_72 rfl rfl ?_
  refine g_aaldA dX11_seeAt_73 sh527 h1 rfl (wSeen hW (inN h1)) ?_
  refine g_iconst (v := 0) dX11_seeAt_74 (by decide) ?_
  refine g_iconst (v := 4) dX11_seeAt_75 (by decide) ?_
  refine g_copyN (s1 := 0) (d1 := 0) (n1 := 4) dX11_seeAt_76 acwX11_325 (s8_1 sh523) (shSeen _ (inN h1)) (by decide) (by decide) (by decide) (by decide) (by decide) (by decide) (Nat.le_of_ble_eq_true rfl) ⟨by decide, by decide⟩ ?_
  refine g_iinc (v := x2 + (1 : Int32)) (ls2 := [(2, .int (x2 + (1 : Int32))), (0, .ref a0), (1, .int x1), (3, .int x3)]) 2 dX11_seeAt_79 rfl rfl (by decide) rfl ?_
  refine g_iinc (v := x3 + (1 : Int32)) (ls2 := [(3, .int (x3 + (1 : Int32))), (2, .int (x2 + (1 : Int32))), (0, .ref a0), (1, .int x1)]) 3 dX11_seeAt_82 rfl rfl (by decide) rfl ?_
  refine g_goto 4 dX11_seeAt_85 (by decide) ?_
  exact g_ls [2, 3, 1, 0] rfl h2
theorem bX11_mostAlike_0 {X : pX} {Q : Option Value → pMem → Prop} {m : pMem} {a0 : Nat} {x1 : Int32} {x2 : Int32} (hW : Wf m) (c0 : SH[a0]? = some (.inl 11))
    (h1 : Go X 1 mX11_mostAlike Q 5 [(0, .ref a0), (1, .int x1), (2, .int x2), (3, .int (0 : Int32)), (4, .int (0 : Int32))] [] m) :
    Go X 1 mX11_mostAlike Q 0 [(0, .ref a0), (1, .int x1), (2, .int x2)] [] m := by
  refine g_iconst (v := 0) dX11_mostAlike_0 (by decide) ?_
  refine g_istore_n (ls2 := [(3, .int (0 : Int32)), (0, .ref a0), (1, .int x1), (2, .int x2)]) dX11_mostAlike_1 rfl (by decide) rfl ?_
  refine g_iconst (v := 0) dX11_mostAlike_2 (by decide) ?_
  refine g_istore (ls2 := [(4, .int (0 : Int32)), (3, .int (0 : Int32)), (0, .ref a0), (1, .int x1), (2, .int x2)]) dX11_mostAlike_3 (by decide) rfl ?_
  exact g_ls [2, 3, 4, 1, 0] rfl h1
theorem bX11_mostAlike_5 {X : pX} {Q : Option Value → pMem → Prop} {m : pMem} {a0 : Nat} {x1 : Int32} {x2 : Int32} {x3 : Int32} {x4 : Int32} (hW : Wf m) (c0 : SH[a0]? = some (.inl 11))
    (h1 : x1 ≤ x4 → Q (some (.int x3)) m)
    (h2 : ¬ (x1 ≤ x4) → Go X 1 mX11_mostAlike Q 17 [(0, .ref a0), (1, .int x1), (2, .int x2), (3, .int x3), (4, .int x4), (5, .int (0 : Int32)), (6, .int (0 : Int32))] [] m) :
    Go X 1 mX11_mostAlike Q 5 [(0, .ref a0), (1, .int x1), (2, .int x2), (3, .int x3), (4, .int x4)] [] m := by
  refine g_iload 4 dX11_mostAlike_5 rfl ?_
  refine g_iload_n 1 dX11_mostAlike_7 rfl rfl ?_
  refine g_icmp_ge 66 dX11_mostAlike_8 (by decide) (fun q1 => ?_) (fun q1 => ?_)
  · refine g_iload_n 3 dX11_mostAlike_66 rfl rfl ?_
    exact g_iret dX11_mostAlike_67 rfl enSH (h1 q1)
  · refine g_iconst (v := 0) dX11_mostAlike_11 (by decide) ?_
    refine g_istore (ls2 := [(5, .int (0 : Int32)), (0, .ref a0), (1, .int x1), (2, .int x2), (3, .int x3), (4, .int x4)]) dX11_mostAlike_12 (by decide) rfl ?_
    refine g_iconst (v := 0) dX11_mostAlike_14 (by decide) ?_
    refine g_istore (ls2 := [(6, .int (0 : Int32)), (5, .int (0 : Int32)), (0, .ref a0), (1, .int x1), (2, .int x2), (3, .int x3), (4, .int x4)]) dX11_mostAlike_15 (by decide) rfl ?_
    exact g_ls [2, 3, 4, 5, 6, 1, 0] rfl (h2 q1)
theorem bX11_mostAlike_17 {X : pX} {Q : Option Value → pMem → Prop} {m : pMem} {a0 : Nat} {x1 : Int32} {x2 : Int32} {x3 : Int32} {x4 : Int32} {x5 : Int32} {x6 : Int32} (hW : Wf m) (c0 : SH[a0]? = some (.inl 11))
    (h1 : x1 ≤ x6 → Cl X 0 mJ9_max_7cf53 [.int x3, .int x5] m (fun v m2 => Go X 1 mX11_mostAlike Q 59 [(0, .ref a0), (1, .int x1), (2, .int x2), (3, .int x3), (4, .int x4), (5, .int x5), (6, .int x6)] (v.toList ++ []) m2))
    (h2 : ¬ (x1 ≤ x6) → vp_in x6 7)
    (h3 : ¬ (x1 ≤ x6) → vp_in x2 4)
    (h4 : ¬ (x1 ≤ x6) → vp_in x4 7)
    (h5 : ¬ (x1 ≤ x6) → vp_in x2 4)
    (h6 : ¬ (x1 ≤ x6) → ¬ (mI m (528 + x6.toNatClampNeg) x2.toNatClampNeg) = (mI m (528 + x4.toNatClampNeg) x2.toNatClampNeg) → Go X 1 mX11_mostAlike Q 17 [(0, .ref a0), (1, .int x1), (2, .int x2), (3, .int x3), (4, .int x4), (5, .int x5), (6, .int (x6 + (1 : Int32)))] [] m)
    (h7 : ¬ (x1 ≤ x6) → (mI m (528 + x6.toNatClampNeg) x2.toNatClampNeg) = (mI m (528 + x4.toNatClampNeg) x2.toNatClampNeg) → Go X 1 mX11_mostAlike Q 17 [(0, .ref a0), (1, .int x1), (2, .int x2), (3, .int x3), (4, .int x4), (5, .int (x5 + (1 : Int32))), (6, .int (x6 + (1 : Int32)))] [] m) :
    Go X 1 mX11_mostAlike Q 17 [(0, .ref a0), (1, .int x1), (2, .int x2), (3, .int x3), (4, .int x4), (5, .int x5), (6, .int x6)] [] m := by
  refine g_iload 6 dX11_mostAlike_17 rfl ?_
  refine g_iload_n 1 dX11_mostAlike_19 rfl rfl ?_
  refine g_icmp_ge 53 dX11_mostAlike_20 (by decide) (fun q1 => ?_) (fun q1 => ?_)
  · refine g_iload_n 3 dX11_mostAlike_53 rfl rfl ?_
    refine g_iload 5 dX11_mostAlike_54 rfl ?_
    exact g_callS (As := [.int x3, .int x5]) (st := []) dX11_mostAlike_56 clX11_331 rfl rfl (Nat.le_of_ble_eq_true rfl) (rmSH (by decide) (by decide)) (h1 q1)
  · refine g_aload_n 0 dX11_mostAlike_23 rfl rfl ?_
    refine g_getR dX11_mostAlike_24 fl11_95 rfl c0 (w11_12 hW c0) ?_
    refine g_iload 6 dX11_mostAlike_27 rfl ?_
    refine g_aaldA dX11_mostAlike_29 sh527 (h2 q1) rfl (wSeen hW (inN (h2 q1))) ?_
    refine g_iload_n 2 dX11_mostAlike_30 rfl rfl ?_
    refine g_iald (j := x2.toNatClampNeg) dX11_mostAlike_31 (shSeen _ (inN (h2 q1))) (h3 q1) rfl ?_
    refine g_aload_n 0 dX11_mostAlike_32 rfl rfl ?_
    refine g_getR dX11_mostAlike_33 fl11_95 rfl c0 (w11_12 hW c0) ?_
    refine g_iload 4 dX11_mostAlike_36 rfl ?_
    refine g_aaldA dX11_mostAlike_38 sh527 (h4 q1) rfl (wSeen hW (inN (h4 q1))) ?_
    refine g_iload_n 2 dX11_mostAlike_39 rfl rfl ?_
    refine g_iald (j := x2.toNatClampNeg) dX11_mostAlike_40 (shSeen _ (inN (h4 q1))) (h5 q1) rfl ?_
    refine g_icmp_ne 47 dX11_mostAlike_41 (by decide) (fun q2 => ?_) (fun q2 => ?_)
    · refine g_iinc (v := x6 + (1 : Int32)) (ls2 := [(6, .int (x6 + (1 : Int32))), (0, .ref a0), (1, .int x1), (2, .int x2), (3, .int x3), (4, .int x4), (5, .int x5)]) 6 dX11_mostAlike_47 rfl rfl (by decide) rfl ?_
      refine g_goto 17 dX11_mostAlike_50 (by decide) ?_
      exact g_ls [1, 2, 3, 4, 5, 6, 0] rfl (h6 q1 q2)
    · refine g_iinc (v := x5 + (1 : Int32)) (ls2 := [(5, .int (x5 + (1 : Int32))), (0, .ref a0), (1, .int x1), (2, .int x2), (3, .int x3), (4, .int x4), (6, .int x6)]) 5 dX11_mostAlike_44 rfl rfl (by decide) rfl ?_
      refine g_iinc (v := x6 + (1 : Int32)) (ls2 := [(6, .int (x6 + (1 : Int32))), (5, .int (x5 + (1 : Int32))), (0, .ref a0), (1, .int x1), (2, .int x2), (3, .int x3), (4, .int x4)]) 6 dX11_mostAlike_47 rfl rfl (by decide) rfl ?_
      refine g_goto 17 dX11_mostAlike_50 (by decide) ?_
      exact g_ls [2, 3, 4, 5, 6, 1, 0] rfl (h7 q1 q2)
theorem bX11_mostAlike_59 {X : pX} {Q : Option Value → pMem → Prop} {m : pMem} {a0 : Nat} {x1 : Int32} {x2 : Int32} {x3 : Int32} {x4 : Int32} {x5 : Int32} {x6 : Int32} {xs0 : Int32} (hW : Wf m) (c0 : SH[a0]? = some (.inl 11))
    (h1 : Go X 1 mX11_mostAlike Q 5 [(0, .ref a0), (1, .int x1), (2, .int x2), (3, .int xs0), (4, .int (x4 + (1 : Int32)))] [] m) :
    Go X 1 mX11_mostAlike Q 59 [(0, .ref a0), (1, .int x1), (2, .int x2), (3, .int x3), (4, .int x4), (5, .int x5), (6, .int x6)] [.int xs0] m := by
  refine g_istore_n (ls2 := [(3, .int xs0), (0, .ref a0), (1, .int x1), (2, .int x2), (4, .int x4), (5, .int x5), (6, .int x6)]) dX11_mostAlike_59 rfl (by decide) rfl ?_
  refine g_iinc (v := x4 + (1 : Int32)) (ls2 := [(4, .int (x4 + (1 : Int32))), (3, .int xs0), (0, .ref a0), (1, .int x1), (2, .int x2), (5, .int x5), (6, .int x6)]) 4 dX11_mostAlike_60 rfl rfl (by decide) rfl ?_
  refine g_goto 5 dX11_mostAlike_63 (by decide) ?_
  exact g_ls [2, 3, 4, 1, 0] rfl h1
theorem bX11_seed_0 {X : pX} {Q : Option Value → pMem → Prop} {m : pMem} {a0 : Nat} {x1 : Int32} (hW : Wf m) (c0 : SH[a0]? = some (.inl 11))
    (h1 : 0 ≤ x1 → Q (some (.int (mI m 30 4))) (uI m 30 4 x1))
    (h2 : ¬ (0 ≤ x1) → Q (some (.int (-1 : Int32))) m) :
    Go X 0 mX11_seed Q 0 [(0, .ref a0), (1, .int x1)] [] m := by
  refine g_iload_n 1 dX11_seed_0 rfl rfl ?_
  refine g_if_ge 6 dX11_seed_1 (by decide) (fun q1 => ?_) (fun q1 => ?_)
  · refine g_aload_n 0 dX11_seed_6 rfl rfl ?_
    refine g_getR dX11_seed_7 fl11_42 rfl c0 (w11_5 hW c0) ?_
    refine g_getI dX11_seed_10 fl11_214 sh30 ?_
    refine g_istore_n (ls2 := [(2, .int (mI m 30 4)), (0, .ref a0), (1, .int x1)]) dX11_seed_13 rfl (by decide) rfl ?_
    refine g_aload_n 1 dX11_seed_14 rfl rfl ?_
    refine g_getR dX11_seed_15 fl11_42 rfl c0 (w11_5 hW c0) ?_
    refine g_iload_n 2 dX11_seed_18 rfl rfl ?_
    refine g_putI dX11_seed_19 fl11_214 (fun h => by cases h) sh30 ?_
    refine g_iload_n 0 dX11_seed_22 rfl rfl ?_
    exact g_iret dX11_seed_23 rfl enSH (h1 q1)
  · refine g_iconst (v := -1) dX11_seed_4 (by decide) ?_
    exact g_iret dX11_seed_5 rfl enSH (h2 q1)
theorem bX11_thieves_0 {X : pX} {Q : Option Value → pMem → Prop} {m : pMem} {a0 : Nat} {x1 : Int32} {x2 : Int32} {x3 : Int32} {x4 : Int32} (hW : Wf m) (c0 : SH[a0]? = some (.inl 11))
    (h1 : (mI m 31 0) = 0 → Q (some (.int (-1 : Int32))) m)
    (h2 : ¬ ((mI m 31 0) = 0) → x1 < (1 : Int32) → Q (some (.int (-1 : Int32))) m)
    (h3 : ¬ ((mI m 31 0) = 0) → ¬ (x1 < (1 : Int32)) → (10 : Int32) < x1 → Q (some (.int (-1 : Int32))) m)
    (h4 : ¬ ((mI m 31 0) = 0) → ¬ (x1 < (1 : Int32)) → ¬ ((10 : Int32) < x1) → x2 < (1 : Int32) → Q (some (.int (-1 : Int32))) m)
    (h5 : ¬ ((mI m 31 0) = 0) → ¬ (x1 < (1 : Int32)) → ¬ ((10 : Int32) < x1) → ¬ (x2 < (1 : Int32)) → (60 : Int32) < x2 → Q (some (.int (-1 : Int32))) m)
    (h6 : ¬ ((mI m 31 0) = 0) → ¬ (x1 < (1 : Int32)) → ¬ ((10 : Int32) < x1) → ¬ (x2 < (1 : Int32)) → ¬ ((60 : Int32) < x2) → x3 < 0 → Q (some (.int (-1 : Int32))) m)
    (h7 : ¬ ((mI m 31 0) = 0) → ¬ (x1 < (1 : Int32)) → ¬ ((10 : Int32) < x1) → ¬ (x2 < (1 : Int32)) → ¬ ((60 : Int32) < x2) → ¬ (x3 < 0) → (100 : Int32) < x3 → Q (some (.int (-1 : Int32))) m)
    (h8 : ¬ ((mI m 31 0) = 0) → ¬ (x1 < (1 : Int32)) → ¬ ((10 : Int32) < x1) → ¬ (x2 < (1 : Int32)) → ¬ ((60 : Int32) < x2) → ¬ (x3 < 0) → ¬ ((100 : Int32) < x3) → x4 < 0 → Q (some (.int (-1 : Int32))) m)
    (h9 : ¬ ((mI m 31 0) = 0) → ¬ (x1 < (1 : Int32)) → ¬ ((10 : Int32) < x1) → ¬ (x2 < (1 : Int32)) → ¬ ((60 : Int32) < x2) → ¬ (x3 < 0) → ¬ ((100 : Int32) < x3) → ¬ (x4 < 0) → x4 ≤ (1 : Int32) → Go X 5 mX11_thieves Q 73 [(0, .ref a0), (1, .int x1), (2, .int x2), (3, .int x3), (4, .int x4), (5, .int (mI m 30 4)), (6, .int (0 : Int32)), (7, .int (0 : Int32))] [] m)
    (h10 : ¬ ((mI m 31 0) = 0) → ¬ (x1 < (1 : Int32)) → ¬ ((10 : Int32) < x1) → ¬ (x2 < (1 : Int32)) → ¬ ((60 : Int32) < x2) → ¬ (x3 < 0) → ¬ ((100 : Int32) < x3) → ¬ (x4 < 0) → ¬ (x4 ≤ (1 : Int32)) → Q (some (.int (-1 : Int32))) m) :
    Go X 5 mX11_thieves Q 0 [(0, .ref a0), (1, .int x1), (2, .int x2), (3, .int x3), (4, .int x4)] [] m := by
  refine g_aload_n 0 dX11_thieves_0 rfl rfl ?_
  refine g_getR dX11_thieves_1 fl11_42 rfl c0 (w11_5 hW c0) ?_
  refine g_getR dX11_thieves_4 fl11_56 rfl sh30 (w10_0 hW sh30) ?_
  refine g_getZ dX11_thieves_7 fl11_217 (s10_0 sh30) ?_
  refine g_if_eq 56 dX11_thieves_10 (by decide) (fun q1 => ?_) (fun q1 => ?_)
  · refine g_iconst (v := -1) dX11_thieves_56 (by decide) ?_
    exact g_iret dX11_thieves_57 rfl enSH (h1 q1)
  · refine g_iload_n 1 dX11_thieves_13 rfl rfl ?_
    refine g_iconst (v := 1) dX11_thieves_14 (by decide) ?_
    refine g_icmp_lt 56 dX11_thieves_15 (by decide) (fun q2 => ?_) (fun q2 => ?_)
    · refine g_iconst (v := -1) dX11_thieves_56 (by decide) ?_
      exact g_iret dX11_thieves_57 rfl enSH (h2 q1 q2)
    · refine g_iload_n 1 dX11_thieves_18 rfl rfl ?_
      refine g_bipush (v := 10) dX11_thieves_19 (by decide) ?_
      refine g_icmp_gt 56 dX11_thieves_21 (by decide) (fun q3 => ?_) (fun q3 => ?_)
      · refine g_iconst (v := -1) dX11_thieves_56 (by decide) ?_
        exact g_iret dX11_thieves_57 rfl enSH (h3 q1 q2 q3)
      · refine g_iload_n 2 dX11_thieves_24 rfl rfl ?_
        refine g_iconst (v := 1) dX11_thieves_25 (by decide) ?_
        refine g_icmp_lt 56 dX11_thieves_26 (by decide) (fun q4 => ?_) (fun q4 => ?_)
        · refine g_iconst (v := -1) dX11_thieves_56 (by decide) ?_
          exact g_iret dX11_thieves_57 rfl enSH (h4 q1 q2 q3 q4)
        · refine g_iload_n 2 dX11_thieves_29 rfl rfl ?_
          refine g_bipush (v := 60) dX11_thieves_30 (by decide) ?_
          refine g_icmp_gt 56 dX11_thieves_32 (by decide) (fun q5 => ?_) (fun q5 => ?_)
          · refine g_iconst (v := -1) dX11_thieves_56 (by decide) ?_
            exact g_iret dX11_thieves_57 rfl enSH (h5 q1 q2 q3 q4 q5)
          · refine g_iload_n 3 dX11_thieves_35 rfl rfl ?_
            refine g_if_lt 56 dX11_thieves_36 (by decide) (fun q6 => ?_) (fun q6 => ?_)
            · refine g_iconst (v := -1) dX11_thieves_56 (by decide) ?_
              exact g_iret dX11_thieves_57 rfl enSH (h6 q1 q2 q3 q4 q5 q6)
            · refine g_iload_n 3 dX11_thieves_39 rfl rfl ?_
              refine g_bipush (v := 100) dX11_thieves_40 (by decide) ?_
              refine g_icmp_gt 56 dX11_thieves_42 (by decide) (fun q7 => ?_) (fun q7 => ?_)
              · refine g_iconst (v := -1) dX11_thieves_56 (by decide) ?_
                exact g_iret dX11_thieves_57 rfl enSH (h7 q1 q2 q3 q4 q5 q6 q7)
              · refine g_iload 4 dX11_thieves_45 rfl ?_
                refine g_if_lt 56 dX11_thieves_47 (by decide) (fun q8 => ?_) (fun q8 => ?_)
                · refine g_iconst (v := -1) dX11_thieves_56 (by decide) ?_
                  exact g_iret dX11_thieves_57 rfl enSH (h8 q1 q2 q3 q4 q5 q6 q7 q8)
                · refine g_iload 4 dX11_thieves_50 rfl ?_
                  refine g_iconst (v := 1) dX11_thieves_52 (by decide) ?_
                  refine g_icmp_le 58 dX11_thieves_53 (by decide) (fun q9 => ?_) (fun q9 => ?_)
                  · refine g_aload_n 0 dX11_thieves_58 rfl rfl ?_
                    refine g_getR dX11_thieves_59 fl11_42 rfl c0 (w11_5 hW c0) ?_
                    refine g_getI dX11_thieves_62 fl11_214 sh30 ?_
                    refine g_istore (ls2 := [(5, .int (mI m 30 4)), (0, .ref a0), (1, .int x1), (2, .int x2), (3, .int x3), (4, .int x4)]) dX11_thieves_65 (by decide) rfl ?_
                    refine g_iconst (v := 0) dX11_thieves_67 (by decide) ?_
                    refine g_istore (ls2 := [(6, .int (0 : Int32)), (5, .int (mI m 30 4)), (0, .ref a0), (1, .int x1), (2, .int x2), (3, .int x3), (4, .int x4)]) dX11_thieves_68 (by decide) rfl ?_
                    refine g_iconst (v := 0) dX11_thieves_70 (by decide) ?_
                    refine g_istore (ls2 := [(7, .int (0 : Int32)), (6, .int (0 : Int32)), (5, .int (mI m 30 4)), (0, .ref a0), (1, .int x1), (2, .int x2), (3, .int x3), (4, .int x4)]) dX11_thieves_71 (by decide) rfl ?_
                    exact g_ls [3, 4, 5, 6, 7, 2, 1, 0] rfl (h9 q1 q2 q3 q4 q5 q6 q7 q8 q9)
                  · refine g_iconst (v := -1) dX11_thieves_56 (by decide) ?_
                    exact g_iret dX11_thieves_57 rfl enSH (h10 q1 q2 q3 q4 q5 q6 q7 q8 q9)
theorem bX11_thieves_73 {X : pX} {Q : Option Value → pMem → Prop} {m : pMem} {a0 : Nat} {x1 : Int32} {x2 : Int32} {x3 : Int32} {x4 : Int32} {x5 : Int32} {x6 : Int32} {x7 : Int32} (hW : Wf m) (c0 : SH[a0]? = some (.inl 11))
    (h1 : x1 ≤ x7 → Q (some (.int x6)) m)
    (h2 : ¬ (x1 ≤ x7) → Cl X 1 mX8_copy [.ref 523, .ref 37] m (fun v m2 => Go X 5 mX11_thieves Q 93 [(0, .ref a0), (1, .int x1), (2, .int x2), (3, .int x3), (4, .int x4), (5, .int x5), (6, .int x6), (7, .int x7)] (v.toList ++ []) m2)) :
    Go X 5 mX11_thieves Q 73 [(0, .ref a0), (1, .int x1), (2, .int x2), (3, .int x3), (4, .int x4), (5, .int x5), (6, .int x6), (7, .int x7)] [] m := by
  refine g_iload 7 dX11_thieves_73 rfl ?_
  refine g_iload_n 1 dX11_thieves_75 rfl rfl ?_
  refine g_icmp_ge 177 dX11_thieves_76 (by decide) (fun q1 => ?_) (fun q1 => ?_)
  · refine g_iload 6 dX11_thieves_177 rfl ?_
    exact g_iret dX11_thieves_179 rfl enSH (h1 q1)
  · refine g_aload_n 0 dX11_thieves_79 rfl rfl ?_
    refine g_getR dX11_thieves_80 fl11_90 rfl c0 (w11_11 hW c0) ?_
    refine g_aload_n 0 dX11_thieves_83 rfl rfl ?_
    refine g_getR dX11_thieves_84 fl11_42 rfl c0 (w11_5 hW c0) ?_
    refine g_getR dX11_thieves_87 fl11_69 rfl sh30 (w10_1 hW sh30) ?_
    exact g_callV (As := [.ref 37]) (st := []) dX11_thieves_90 clX11_252 sh523 rfl rfl (Nat.le_of_ble_eq_true rfl) (rmSH (by decide) (by decide)) (h2 q1)
theorem bX11_thieves_93 {X : pX} {Q : Option Value → pMem → Prop} {m : pMem} {a0 : Nat} {x1 : Int32} {x2 : Int32} {x3 : Int32} {x4 : Int32} {x5 : Int32} {x6 : Int32} {x7 : Int32} (hW : Wf m) (c0 : SH[a0]? = some (.inl 11))
    (h1 : Go X 5 mX11_thieves Q 96 [(0, .ref a0), (1, .int x1), (2, .int x2), (3, .int x3), (4, .int x4), (5, .int x5), (6, .int x6), (7, .int x7), (8, .int (0 : Int32))] [] m) :
    Go X 5 mX11_thieves Q 93 [(0, .ref a0), (1, .int x1), (2, .int x2), (3, .int x3), (4, .int x4), (5, .int x5), (6, .int x6), (7, .int x7)] [] m := by
  refine g_iconst (v := 0) dX11_thieves_93 (by decide) ?_
  refine g_istore (ls2 := [(8, .int (0 : Int32)), (0, .ref a0), (1, .int x1), (2, .int x2), (3, .int x3), (4, .int x4), (5, .int x5), (6, .int x6), (7, .int x7)]) dX11_thieves_94 (by decide) rfl ?_
  exact g_ls [1, 2, 3, 4, 5, 6, 7, 8, 0] rfl h1
theorem bX11_thieves_96 {X : pX} {Q : Option Value → pMem → Prop} {m : pMem} {a0 : Nat} {x1 : Int32} {x2 : Int32} {x3 : Int32} {x4 : Int32} {x5 : Int32} {x6 : Int32} {x7 : Int32} {x8 : Int32} (hW : Wf m) (c0 : SH[a0]? = some (.inl 11))
    (h1 : x2 ≤ x8 → ¬ x4 = 0 → Cl X 0 mX0_peopleInTown [.ref 512, .ref 523] m (fun v m2 => Go X 5 mX11_thieves Q 165 [(0, .ref a0), (1, .int x1), (2, .int x2), (3, .int x3), (4, .int x4), (5, .int x5), (6, .int x6), (7, .int x7), (8, .int x8)] (v.toList ++ [.int x6]) m2))
    (h2 : x2 ≤ x8 → x4 = 0 → Cl X 2 mX0_worthInTown [.ref 512, .ref 523] m (fun v m2 => Go X 5 mX11_thieves Q 151 [(0, .ref a0), (1, .int x1), (2, .int x2), (3, .int x3), (4, .int x4), (5, .int x5), (6, .int x6), (7, .int x7), (8, .int x8)] (v.toList ++ [.int x6]) m2))
    (h3 : ¬ (x2 ≤ x8) → Cl X 1 mX11_robByDraw [.ref a0, .int x5, .int x3] m (fun v m2 => Go X 5 mX11_thieves Q 109 [(0, .ref a0), (1, .int x1), (2, .int x2), (3, .int x3), (4, .int x4), (5, .int x5), (6, .int x6), (7, .int x7), (8, .int x8)] (v.toList ++ []) m2)) :
    Go X 5 mX11_thieves Q 96 [(0, .ref a0), (1, .int x1), (2, .int x2), (3, .int x3), (4, .int x4), (5, .int x5), (6, .int x6), (7, .int x7), (8, .int x8)] [] m := by
  refine g_iload 8 dX11_thieves_96 rfl ?_
  refine g_iload_n 2 dX11_thieves_98 rfl rfl ?_
  refine g_icmp_ge 133 dX11_thieves_99 (by decide) (fun q1 => ?_) (fun q1 => ?_)
  · refine g_iload 6 dX11_thieves_133 rfl ?_
    refine g_iload 4 dX11_thieves_135 rfl ?_
    refine g_if_ne 154 dX11_thieves_137 (by decide) (fun q2 => ?_) (fun q2 => ?_)
    · refine g_aload_n 0 dX11_thieves_154 rfl rfl ?_
      refine g_getR dX11_thieves_155 fl11_63 rfl c0 (w11_8 hW c0) ?_
      refine g_aload_n 0 dX11_thieves_158 rfl rfl ?_
      refine g_getR dX11_thieves_159 fl11_90 rfl c0 (w11_11 hW c0) ?_
      exact g_callV (As := [.ref 523]) (st := [.int x6]) dX11_thieves_162 clX11_188 sh512 rfl rfl (Nat.le_of_ble_eq_true rfl) (rmSH (by decide) (by decide)) (h1 q1 q2)
    · refine g_aload_n 0 dX11_thieves_140 rfl rfl ?_
      refine g_getR dX11_thieves_141 fl11_63 rfl c0 (w11_8 hW c0) ?_
      refine g_aload_n 0 dX11_thieves_144 rfl rfl ?_
      refine g_getR dX11_thieves_145 fl11_90 rfl c0 (w11_11 hW c0) ?_
      exact g_callV (As := [.ref 523]) (st := [.int x6]) dX11_thieves_148 clX11_192 sh512 rfl rfl (Nat.le_of_ble_eq_true rfl) (rmSH (by decide) (by decide)) (h2 q1 q2)
  · refine g_aload_n 0 dX11_thieves_102 rfl rfl ?_
    refine g_iload 5 dX11_thieves_103 rfl ?_
    refine g_iload_n 3 dX11_thieves_105 rfl rfl ?_
    exact g_callV (As := [.int x5, .int x3]) (st := []) dX11_thieves_106 clX11_336 c0 rfl rfl (Nat.le_of_ble_eq_true rfl) (rmSH (by decide) (by decide)) (h3 q1)
theorem bX11_thieves_165 {X : pX} {Q : Option Value → pMem → Prop} {m : pMem} {a0 : Nat} {x1 : Int32} {x2 : Int32} {x3 : Int32} {x4 : Int32} {x5 : Int32} {x6 : Int32} {x7 : Int32} {x8 : Int32} {xs0 : Int32} {xs1 : Int32} (hW : Wf m) (c0 : SH[a0]? = some (.inl 11))
    (h1 : Cl X 0 mJ6_bitCount_0f7a4 [.int xs0] m (fun v m2 => Go X 5 mX11_thieves Q 168 [(0, .ref a0), (1, .int x1), (2, .int x2), (3, .int x3), (4, .int x4), (5, .int x5), (6, .int x6), (7, .int x7), (8, .int x8)] (v.toList ++ [.int xs1]) m2)) :
    Go X 5 mX11_thieves Q 165 [(0, .ref a0), (1, .int x1), (2, .int x2), (3, .int x3), (4, .int x4), (5, .int x5), (6, .int x6), (7, .int x7), (8, .int x8)] [.int xs0, .int xs1] m := by
  exact g_callS (As := [.int xs0]) (st := [.int xs1]) dX11_thieves_165 clX11_339 rfl rfl (Nat.le_of_ble_eq_true rfl) (rmSH (by decide) (by decide)) h1
theorem bX11_thieves_151 {X : pX} {Q : Option Value → pMem → Prop} {m : pMem} {a0 : Nat} {x1 : Int32} {x2 : Int32} {x3 : Int32} {x4 : Int32} {x5 : Int32} {x6 : Int32} {x7 : Int32} {x8 : Int32} {xs0 : Int32} {xs1 : Int32} (hW : Wf m) (c0 : SH[a0]? = some (.inl 11))
    (h1 : Go X 5 mX11_thieves Q 73 [(0, .ref a0), (1, .int x1), (2, .int x2), (3, .int x3), (4, .int x4), (5, .int x5), (6, .int (xs1 + xs0)), (7, .int (x7 + (1 : Int32)))] [] m) :
    Go X 5 mX11_thieves Q 151 [(0, .ref a0), (1, .int x1), (2, .int x2), (3, .int x3), (4, .int x4), (5, .int x5), (6, .int x6), (7, .int x7), (8, .int x8)] [.int xs0, .int xs1] m := by
  refine g_goto 168 dX11_thieves_151 (by decide) ?_
  refine g_iadd dX11_thieves_168 ?_
  refine g_istore (ls2 := [(6, .int (xs1 + xs0)), (0, .ref a0), (1, .int x1), (2, .int x2), (3, .int x3), (4, .int x4), (5, .int x5), (7, .int x7), (8, .int x8)]) dX11_thieves_169 (by decide) rfl ?_
  refine g_iinc (v := x7 + (1 : Int32)) (ls2 := [(7, .int (x7 + (1 : Int32))), (6, .int (xs1 + xs0)), (0, .ref a0), (1, .int x1), (2, .int x2), (3, .int x3), (4, .int x4), (5, .int x5), (8, .int x8)]) 7 dX11_thieves_171 rfl rfl (by decide) rfl ?_
  refine g_goto 73 dX11_thieves_174 (by decide) ?_
  exact g_ls [2, 3, 4, 5, 6, 7, 1, 0] rfl h1
theorem bX11_thieves_109 {X : pX} {Q : Option Value → pMem → Prop} {m : pMem} {a0 : Nat} {x1 : Int32} {x2 : Int32} {x3 : Int32} {x4 : Int32} {x5 : Int32} {x6 : Int32} {x7 : Int32} {x8 : Int32} {xs0 : Int32} (hW : Wf m) (c0 : SH[a0]? = some (.inl 11))
    (h1 : Cl X 1 mX11_inForce [.ref a0] m (fun v m2 => Go X 5 mX11_thieves Q 123 [(0, .ref a0), (1, .int x1), (2, .int x2), (3, .int x3), (4, .int x4), (5, .int xs0), (6, .int x6), (7, .int x7), (8, .int x8)] (v.toList ++ [.ref 523, .ref 512]) m2)) :
    Go X 5 mX11_thieves Q 109 [(0, .ref a0), (1, .int x1), (2, .int x2), (3, .int x3), (4, .int x4), (5, .int x5), (6, .int x6), (7, .int x7), (8, .int x8)] [.int xs0] m := by
  refine g_istore (ls2 := [(5, .int xs0), (0, .ref a0), (1, .int x1), (2, .int x2), (3, .int x3), (4, .int x4), (6, .int x6), (7, .int x7), (8, .int x8)]) dX11_thieves_109 (by decide) rfl ?_
  refine g_aload_n 1 dX11_thieves_111 rfl rfl ?_
  refine g_getR dX11_thieves_112 fl11_63 rfl c0 (w11_8 hW c0) ?_
  refine g_aload_n 1 dX11_thieves_115 rfl rfl ?_
  refine g_getR dX11_thieves_116 fl11_90 rfl c0 (w11_11 hW c0) ?_
  refine g_aload_n 1 dX11_thieves_119 rfl rfl ?_
  refine g_ls [1, 2, 3, 4, 5, 0, 6, 7, 8] (ls2 := [(0, .ref a0), (1, .int x1), (2, .int x2), (3, .int x3), (4, .int x4), (5, .int xs0), (6, .int x6), (7, .int x7), (8, .int x8)]) rfl ?_
  exact g_callV (As := []) (st := [.ref 523, .ref 512]) dX11_thieves_120 clX11_225 c0 rfl rfl (Nat.le_of_ble_eq_true rfl) (rmSH (by decide) (by decide)) h1
theorem bX11_thieves_168 {X : pX} {Q : Option Value → pMem → Prop} {m : pMem} {a0 : Nat} {x1 : Int32} {x2 : Int32} {x3 : Int32} {x4 : Int32} {x5 : Int32} {x6 : Int32} {x7 : Int32} {x8 : Int32} {xs0 : Int32} {xs1 : Int32} (hW : Wf m) (c0 : SH[a0]? = some (.inl 11))
    (h1 : Go X 5 mX11_thieves Q 73 [(0, .ref a0), (1, .int x1), (2, .int x2), (3, .int x3), (4, .int x4), (5, .int x5), (6, .int (xs1 + xs0)), (7, .int (x7 + (1 : Int32)))] [] m) :
    Go X 5 mX11_thieves Q 168 [(0, .ref a0), (1, .int x1), (2, .int x2), (3, .int x3), (4, .int x4), (5, .int x5), (6, .int x6), (7, .int x7), (8, .int x8)] [.int xs0, .int xs1] m := by
  refine g_iadd dX11_thieves_168 ?_
  refine g_istore (ls2 := [(6, .int (xs1 + xs0)), (0, .ref a0), (1, .int x1), (2, .int x2), (3, .int x3), (4, .int x4), (5, .int x5), (7, .int x7), (8, .int x8)]) dX11_thieves_169 (by decide) rfl ?_
  refine g_iinc (v := x7 + (1 : Int32)) (ls2 := [(7, .int (x7 + (1 : Int32))), (6, .int (xs1 + xs0)), (0, .ref a0), (1, .int x1), (2, .int x2), (3, .int x3), (4, .int x4), (5, .int x5), (8, .int x8)]) 7 dX11_thieves_171 rfl rfl (by decide) rfl ?_
  refine g_goto 73 dX11_thieves_174 (by decide) ?_
  exact g_ls [2, 3, 4, 5, 6, 7, 1, 0] rfl h1
theorem bX11_thieves_123 {X : pX} {Q : Option Value → pMem → Prop} {m : pMem} {a0 : Nat} {x1 : Int32} {x2 : Int32} {x3 : Int32} {x4 : Int32} {x5 : Int32} {x6 : Int32} {x7 : Int32} {x8 : Int32} {as0 : Nat} {as1 : Nat} {as2 : Nat} (hW : Wf m) (c0 : SH[a0]? = some (.inl 11)) (cs0 : SH[as0]? = some (.inl 6)) (cs1 : SH[as1]? = some (.inl 8)) (cs2 : SH[as2]? = some (.inl 0))
    (h1 : Cl X 4 mX0_oneDay [.ref as2, .ref as1, .ref as0] m (fun v m2 => Go X 5 mX11_thieves Q 126 [(0, .ref a0), (1, .int x1), (2, .int x2), (3, .int x3), (4, .int x4), (5, .int x5), (6, .int x6), (7, .int x7), (8, .int x8)] (v.toList ++ []) m2)) :
    Go X 5 mX11_thieves Q 123 [(0, .ref a0), (1, .int x1), (2, .int x2), (3, .int x3), (4, .int x4), (5, .int x5), (6, .int x6), (7, .int x7), (8, .int x8)] [.ref as0, .ref as1, .ref as2] m := by
  exact g_callV (As := [.ref as1, .ref as0]) (st := []) dX11_thieves_123 clX11_229 cs2 rfl rfl (Nat.le_of_ble_eq_true rfl) (rmSH (by decide) (by decide)) h1
theorem bX11_thieves_123v1 {X : pX} {Q : Option Value → pMem → Prop} {m : pMem} {a0 : Nat} {x1 : Int32} {x2 : Int32} {x3 : Int32} {x4 : Int32} {x5 : Int32} {x6 : Int32} {x7 : Int32} {x8 : Int32} {as1 : Nat} {as2 : Nat} (hW : Wf m) (c0 : SH[a0]? = some (.inl 11)) (cs1 : SH[as1]? = some (.inl 8)) (cs2 : SH[as2]? = some (.inl 0))
    (h1 : Cl X 4 mX0_oneDay [.ref as2, .ref as1, .null] m (fun v m2 => Go X 5 mX11_thieves Q 126 [(0, .ref a0), (1, .int x1), (2, .int x2), (3, .int x3), (4, .int x4), (5, .int x5), (6, .int x6), (7, .int x7), (8, .int x8)] (v.toList ++ []) m2)) :
    Go X 5 mX11_thieves Q 123 [(0, .ref a0), (1, .int x1), (2, .int x2), (3, .int x3), (4, .int x4), (5, .int x5), (6, .int x6), (7, .int x7), (8, .int x8)] [.null, .ref as1, .ref as2] m := by
  exact g_callV (As := [.ref as1, .null]) (st := []) dX11_thieves_123 clX11_229 cs2 rfl rfl (Nat.le_of_ble_eq_true rfl) (rmSH (by decide) (by decide)) h1
theorem bX11_thieves_126 {X : pX} {Q : Option Value → pMem → Prop} {m : pMem} {a0 : Nat} {x1 : Int32} {x2 : Int32} {x3 : Int32} {x4 : Int32} {x5 : Int32} {x6 : Int32} {x7 : Int32} {x8 : Int32} {xs0 : Int32} (hW : Wf m) (c0 : SH[a0]? = some (.inl 11))
    (h1 : Go X 5 mX11_thieves Q 96 [(0, .ref a0), (1, .int x1), (2, .int x2), (3, .int x3), (4, .int x4), (5, .int x5), (6, .int x6), (7, .int x7), (8, .int (x8 + (1 : Int32)))] [] m) :
    Go X 5 mX11_thieves Q 126 [(0, .ref a0), (1, .int x1), (2, .int x2), (3, .int x3), (4, .int x4), (5, .int x5), (6, .int x6), (7, .int x7), (8, .int x8)] [.int xs0] m := by
  refine g_pop dX11_thieves_126 rfl ?_
  refine g_iinc (v := x8 + (1 : Int32)) (ls2 := [(8, .int (x8 + (1 : Int32))), (0, .ref a0), (1, .int x1), (2, .int x2), (3, .int x3), (4, .int x4), (5, .int x5), (6, .int x6), (7, .int x7)]) 8 dX11_thieves_127 rfl rfl (by decide) rfl ?_
  refine g_goto 96 dX11_thieves_130 (by decide) ?_
  exact g_ls [1, 2, 3, 4, 5, 6, 7, 8, 0] rfl h1
theorem bX11_robByDraw_0 {X : pX} {Q : Option Value → pMem → Prop} {m : pMem} {a0 : Nat} {x1 : Int32} {x2 : Int32} (hW : Wf m) (c0 : SH[a0]? = some (.inl 11))
    (h1 : Cl X 0 mX11_drawnFrom [.int x1] m (fun v m2 => Go X 1 mX11_robByDraw Q 4 [(0, .ref a0), (1, .int x1), (2, .int x2)] (v.toList ++ []) m2)) :
    Go X 1 mX11_robByDraw Q 0 [(0, .ref a0), (1, .int x1), (2, .int x2)] [] m := by
  refine g_iload_n 1 dX11_robByDraw_0 rfl rfl ?_
  exact g_callS (As := [.int x1]) (st := []) dX11_robByDraw_1 clX11_344 rfl rfl (Nat.le_of_ble_eq_true rfl) (rmSH (by decide) (by decide)) h1
theorem bX11_robByDraw_4 {X : pX} {Q : Option Value → pMem → Prop} {m : pMem} {a0 : Nat} {x1 : Int32} {x2 : Int32} {xs0 : Int32} (hW : Wf m) (c0 : SH[a0]? = some (.inl 11))
    (h1 : x2 ≤ ((xs0 / (65536 : Int32)) - (xs0 / (65536 : Int32)) / (100 : Int32) * (100 : Int32)) → Q (some (.int xs0)) m)
    (h2 : ¬ (x2 ≤ ((xs0 / (65536 : Int32)) - (xs0 / (65536 : Int32)) / (100 : Int32) * (100 : Int32))) → (1 : Int32) ≤ (mI m 31 4) → Cl X 0 mX11_drawnFrom [.int xs0] m (fun v m2 => Go X 1 mX11_robByDraw Q 41 [(0, .ref a0), (1, .int x1), (2, .int x2), (3, .int xs0), (4, .int (mI m 31 4))] (v.toList ++ []) m2))
    (h3 : ¬ (x2 ≤ ((xs0 / (65536 : Int32)) - (xs0 / (65536 : Int32)) / (100 : Int32) * (100 : Int32))) → ¬ ((1 : Int32) ≤ (mI m 31 4)) → Q (some (.int xs0)) m) :
    Go X 1 mX11_robByDraw Q 4 [(0, .ref a0), (1, .int x1), (2, .int x2)] [.int xs0] m := by
  refine g_istore_n (ls2 := [(3, .int xs0), (0, .ref a0), (1, .int x1), (2, .int x2)]) dX11_robByDraw_4 rfl (by decide) rfl ?_
  refine g_aload_n 1 dX11_robByDraw_5 rfl rfl ?_
  refine g_getR dX11_robByDraw_6 fl11_42 rfl c0 (w11_5 hW c0) ?_
  refine g_getR dX11_robByDraw_9 fl11_56 rfl sh30 (w10_0 hW sh30) ?_
  refine g_getI dX11_robByDraw_12 fl11_182 (s10_0 sh30) ?_
  refine g_istore (ls2 := [(4, .int (mI m 31 4)), (3, .int xs0), (0, .ref a0), (1, .int x1), (2, .int x2)]) dX11_robByDraw_15 (by decide) rfl ?_
  refine g_iload_n 1 dX11_robByDraw_17 rfl rfl ?_
  refine g_ldcw (v := 65536) dX11_robByDraw_18 ciX11_347 ?_
  refine g_idiv dX11_robByDraw_21 (by decide) ?_
  refine g_bipush (v := 100) dX11_robByDraw_22 (by decide) ?_
  refine g_irem dX11_robByDraw_24 (by decide) ?_
  refine g_iload_n 4 dX11_robByDraw_25 rfl rfl ?_
  refine g_icmp_ge 35 dX11_robByDraw_26 (by decide) (fun q1 => ?_) (fun q1 => ?_)
  · refine g_iload_n 1 dX11_robByDraw_35 rfl rfl ?_
    exact g_iret dX11_robByDraw_36 rfl enSH (h1 q1)
  · refine g_iload 0 dX11_robByDraw_29 rfl ?_
    refine g_iconst (v := 1) dX11_robByDraw_31 (by decide) ?_
    refine g_icmp_ge 37 dX11_robByDraw_32 (by decide) (fun q2 => ?_) (fun q2 => ?_)
    · refine g_iload_n 1 dX11_robByDraw_37 rfl rfl ?_
      refine g_ls [2, 3, 4, 1, 0] (ls2 := [(0, .ref a0), (1, .int x1), (2, .int x2), (3, .int xs0), (4, .int (mI m 31 4))]) rfl ?_
      exact g_callS (As := [.int xs0]) (st := []) dX11_robByDraw_38 clX11_344 rfl rfl (Nat.le_of_ble_eq_true rfl) (rmSH (by decide) (by decide)) (h2 q1 q2)
    · refine g_iload_n 1 dX11_robByDraw_35 rfl rfl ?_
      exact g_iret dX11_robByDraw_36 rfl enSH (h3 q1 q2)
theorem bX11_robByDraw_41 {X : pX} {Q : Option Value → pMem → Prop} {m : pMem} {a0 : Nat} {x1 : Int32} {x2 : Int32} {x3 : Int32} {x4 : Int32} {xs0 : Int32} (hW : Wf m) (c0 : SH[a0]? = some (.inl 11))
    (h1 : ¬ x4 = 0)
    (h2 : Cl X 0 mX4_isThing [.ref 31, .int ((xs0 / (65536 : Int32)) - (xs0 / (65536 : Int32)) / x4 * x4)] m (fun v m2 => Go X 1 mX11_robByDraw Q 64 [(0, .ref a0), (1, .int x1), (2, .int x2), (3, .int xs0), (4, .int x4), (5, .int ((xs0 / (65536 : Int32)) - (xs0 / (65536 : Int32)) / x4 * x4))] (v.toList ++ []) m2)) :
    Go X 1 mX11_robByDraw Q 41 [(0, .ref a0), (1, .int x1), (2, .int x2), (3, .int x3), (4, .int x4)] [.int xs0] m := by
  refine g_istore_n (ls2 := [(3, .int xs0), (0, .ref a0), (1, .int x1), (2, .int x2), (4, .int x4)]) dX11_robByDraw_41 rfl (by decide) rfl ?_
  refine g_iload_n 0 dX11_robByDraw_42 rfl rfl ?_
  refine g_ldcw (v := 65536) dX11_robByDraw_43 ciX11_347 ?_
  refine g_idiv dX11_robByDraw_46 (by decide) ?_
  refine g_iload 4 dX11_robByDraw_47 rfl ?_
  refine g_irem dX11_robByDraw_49 h1 ?_
  refine g_istore (ls2 := [(5, .int ((xs0 / (65536 : Int32)) - (xs0 / (65536 : Int32)) / x4 * x4)), (3, .int xs0), (0, .ref a0), (1, .int x1), (2, .int x2), (4, .int x4)]) dX11_robByDraw_50 (by decide) rfl ?_
  refine g_aload_n 2 dX11_robByDraw_52 rfl rfl ?_
  refine g_getR dX11_robByDraw_53 fl11_42 rfl c0 (w11_5 hW c0) ?_
  refine g_getR dX11_robByDraw_56 fl11_56 rfl sh30 (w10_0 hW sh30) ?_
  refine g_iload 0 dX11_robByDraw_59 rfl ?_
  refine g_ls [2, 3, 4, 1, 5, 0] (ls2 := [(0, .ref a0), (1, .int x1), (2, .int x2), (3, .int xs0), (4, .int x4), (5, .int ((xs0 / (65536 : Int32)) - (xs0 / (65536 : Int32)) / x4 * x4))]) rfl ?_
  exact g_callV (As := [.int ((xs0 / (65536 : Int32)) - (xs0 / (65536 : Int32)) / x4 * x4)]) (st := []) dX11_robByDraw_61 clX11_158 (s10_0 sh30) rfl rfl (Nat.le_of_ble_eq_true rfl) (rmSH (by decide) (by decide)) h2
theorem bX11_robByDraw_64 {X : pX} {Q : Option Value → pMem → Prop} {m : pMem} {a0 : Nat} {x1 : Int32} {x2 : Int32} {x3 : Int32} {x4 : Int32} {x5 : Int32} {xs0 : Int32} (hW : Wf m) (c0 : SH[a0]? = some (.inl 11))
    (h1 : xs0 = 0 → Q (some (.int x3)) m)
    (h2 : ¬ (xs0 = 0) → vp_in x5 6)
    (h3 : ¬ (xs0 = 0) → Q (some (.int x3)) (uI m 526 x5.toNatClampNeg (-1 : Int32))) :
    Go X 1 mX11_robByDraw Q 64 [(0, .ref a0), (1, .int x1), (2, .int x2), (3, .int x3), (4, .int x4), (5, .int x5)] [.int xs0] m := by
  refine g_if_eq 78 dX11_robByDraw_64 (by decide) (fun q1 => ?_) (fun q1 => ?_)
  · refine g_iload_n 3 dX11_robByDraw_78 rfl rfl ?_
    exact g_iret dX11_robByDraw_79 rfl enSH (h1 q1)
  · refine g_aload_n 0 dX11_robByDraw_67 rfl rfl ?_
    refine g_getR dX11_robByDraw_68 fl11_90 rfl c0 (w11_11 hW c0) ?_
    refine g_getR dX11_robByDraw_71 fl11_167 rfl sh523 (w8_3 hW sh523) ?_
    refine g_iload 5 dX11_robByDraw_74 rfl ?_
    refine g_iconst (v := -1) dX11_robByDraw_76 (by decide) ?_
    refine g_iast (j := x5.toNatClampNeg) dX11_robByDraw_77 (s8_3 sh523) (h2 q1) rfl ?_
    refine g_iload_n 3 dX11_robByDraw_78 rfl rfl ?_
    exact g_iret dX11_robByDraw_79 rfl enSH (h3 q1)
theorem bX11_drawnFrom_0 {X : pX} {Q : Option Value → pMem → Prop} {m : pMem} {x0 : Int32} (hW : Wf m)
    (h1 : Q (some (.int ((((x0.toInt64 * (1103515245 : Int64)) + (12345 : Int64)) - ((x0.toInt64 * (1103515245 : Int64)) + (12345 : Int64)) / (2147483648 : Int64) * (2147483648 : Int64)).toInt32))) m) :
    Go X 0 mX11_drawnFrom Q 0 [(0, .int x0)] [] m := by
  refine g_iload_n 0 dX11_drawnFrom_0 rfl rfl ?_
  refine g_i2l dX11_drawnFrom_1 ?_
  refine g_ldc2 (v := 1103515245) dX11_drawnFrom_2 cjX11_348 ?_
  refine g_lmul dX11_drawnFrom_5 ?_
  refine g_ldc2 (v := 12345) dX11_drawnFrom_6 cjX11_350 ?_
  refine g_ladd dX11_drawnFrom_9 ?_
  refine g_ldc2 (v := 2147483648) dX11_drawnFrom_10 cjX11_352 ?_
  refine g_lrem dX11_drawnFrom_13 (by decide) ?_
  refine g_l2i dX11_drawnFrom_14 ?_
  exact g_iret dX11_drawnFrom_15 rfl enSH h1
theorem bX11_image_0 {X : pX} {Q : Option Value → pMem → Prop} {m : pMem} {a0 : Nat} {x1 : Int32} (hW : Wf m) (c0 : SH[a0]? = some (.inl 11))
    (h1 : x1 < 0 → Q (some (.int (-1 : Int32))) m)
    (h2 : ¬ (x1 < 0) → x1 < (4 : Int32) → vp_in x1 4)
    (h3 : ¬ (x1 < 0) → x1 < (4 : Int32) → Cl X 3 mX10_copy [.ref (127 + 96 * x1.toNatClampNeg), .ref 30] m (fun v m2 => Go X 4 mX11_image Q 24 [(0, .ref a0), (1, .int x1)] (v.toList ++ []) m2))
    (h4 : ¬ (x1 < 0) → ¬ (x1 < (4 : Int32)) → Q (some (.int (-1 : Int32))) m) :
    Go X 4 mX11_image Q 0 [(0, .ref a0), (1, .int x1)] [] m := by
  refine g_iload_n 1 dX11_image_0 rfl rfl ?_
  refine g_if_lt 9 dX11_image_1 (by decide) (fun q1 => ?_) (fun q1 => ?_)
  · refine g_iconst (v := -1) dX11_image_9 (by decide) ?_
    exact g_iret dX11_image_10 rfl enSH (h1 q1)
  · refine g_iload_n 1 dX11_image_4 rfl rfl ?_
    refine g_iconst (v := 4) dX11_image_5 (by decide) ?_
    refine g_icmp_lt 11 dX11_image_6 (by decide) (fun q2 => ?_) (fun q2 => ?_)
    · refine g_aload_n 0 dX11_image_11 rfl rfl ?_
      refine g_getR dX11_image_12 fl11_46 rfl c0 (w11_6 hW c0) ?_
      refine g_iload_n 1 dX11_image_15 rfl rfl ?_
      refine g_aald dX11_image_16 sh126 (by decide) (h2 q1 q2) rfl (wImages hW (inN (h2 q1 q2))) ?_
      refine g_aload_n 0 dX11_image_17 rfl rfl ?_
      refine g_getR dX11_image_18 fl11_42 rfl c0 (w11_5 hW c0) ?_
      exact g_callV (As := [.ref 30]) (st := []) dX11_image_21 clX11_354 (shImages _ (inN (h2 q1 q2))) rfl rfl (Nat.le_of_ble_eq_true rfl) (rmSH (by decide) (by decide)) (h3 q1 q2)
    · refine g_iconst (v := -1) dX11_image_9 (by decide) ?_
      exact g_iret dX11_image_10 rfl enSH (h4 q1 q2)
theorem bX11_image_24 {X : pX} {Q : Option Value → pMem → Prop} {m : pMem} {a0 : Nat} {x1 : Int32} (hW : Wf m) (c0 : SH[a0]? = some (.inl 11))
    (h1 : vp_in x1 4)
    (h2 : Q (some (.int (mI (uI m 511 x1.toNatClampNeg (1 : Int32)) 37 0))) (uI m 511 x1.toNatClampNeg (1 : Int32))) :
    Go X 4 mX11_image Q 24 [(0, .ref a0), (1, .int x1)] [] m := by
  refine g_aload_n 0 dX11_image_24 rfl rfl ?_
  refine g_getR dX11_image_25 fl11_50 rfl c0 (w11_7 hW c0) ?_
  refine g_iload_n 1 dX11_image_28 rfl rfl ?_
  refine g_iconst (v := 1) dX11_image_29 (by decide) ?_
  refine g_zast (j := x1.toNatClampNeg) dX11_image_30 sh511 h1 rfl (Or.inr rfl) ?_
  refine g_aload_n 0 dX11_image_31 rfl rfl ?_
  refine g_getR dX11_image_32 fl11_42 rfl c0 (w11_5 hW c0) ?_
  refine g_getR dX11_image_35 fl11_69 rfl sh30 (w10_1 hW sh30) ?_
  refine g_getI dX11_image_38 fl11_185 (s10_1 sh30) ?_
  exact g_iret dX11_image_41 rfl enSH h2
theorem bX11_back_0 {X : pX} {Q : Option Value → pMem → Prop} {m : pMem} {a0 : Nat} {x1 : Int32} (hW : Wf m) (c0 : SH[a0]? = some (.inl 11))
    (h1 : x1 < 0 → Q (some (.int (-1 : Int32))) m)
    (h2 : ¬ (x1 < 0) → (4 : Int32) ≤ x1 → Q (some (.int (-1 : Int32))) m)
    (h3 : ¬ (x1 < 0) → ¬ ((4 : Int32) ≤ x1) → vp_in x1 4)
    (h4 : ¬ (x1 < 0) → ¬ ((4 : Int32) ≤ x1) → ¬ (mI m 511 x1.toNatClampNeg) = 0 → vp_in x1 4)
    (h5 : ¬ (x1 < 0) → ¬ ((4 : Int32) ≤ x1) → ¬ (mI m 511 x1.toNatClampNeg) = 0 → Cl X 3 mX10_copy [.ref 30, .ref (127 + 96 * x1.toNatClampNeg)] m (fun v m2 => Go X 4 mX11_back Q 33 [(0, .ref a0), (1, .int x1)] (v.toList ++ []) m2))
    (h6 : ¬ (x1 < 0) → ¬ ((4 : Int32) ≤ x1) → (mI m 511 x1.toNatClampNeg) = 0 → Q (some (.int (-1 : Int32))) m) :
    Go X 4 mX11_back Q 0 [(0, .ref a0), (1, .int x1)] [] m := by
  refine g_iload_n 1 dX11_back_0 rfl rfl ?_
  refine g_if_lt 18 dX11_back_1 (by decide) (fun q1 => ?_) (fun q1 => ?_)
  · refine g_iconst (v := -1) dX11_back_18 (by decide) ?_
    exact g_iret dX11_back_19 rfl enSH (h1 q1)
  · refine g_iload_n 1 dX11_back_4 rfl rfl ?_
    refine g_iconst (v := 4) dX11_back_5 (by decide) ?_
    refine g_icmp_ge 18 dX11_back_6 (by decide) (fun q2 => ?_) (fun q2 => ?_)
    · refine g_iconst (v := -1) dX11_back_18 (by decide) ?_
      exact g_iret dX11_back_19 rfl enSH (h2 q1 q2)
    · refine g_aload_n 0 dX11_back_9 rfl rfl ?_
      refine g_getR dX11_back_10 fl11_50 rfl c0 (w11_7 hW c0) ?_
      refine g_iload_n 1 dX11_back_13 rfl rfl ?_
      refine g_zald (j := x1.toNatClampNeg) dX11_back_14 sh511 (h3 q1 q2) rfl ?_
      refine g_if_ne 20 dX11_back_15 (by decide) (fun q3 => ?_) (fun q3 => ?_)
      · refine g_aload_n 0 dX11_back_20 rfl rfl ?_
        refine g_getR dX11_back_21 fl11_42 rfl c0 (w11_5 hW c0) ?_
        refine g_aload_n 0 dX11_back_24 rfl rfl ?_
        refine g_getR dX11_back_25 fl11_46 rfl c0 (w11_6 hW c0) ?_
        refine g_iload_n 1 dX11_back_28 rfl rfl ?_
        refine g_aald dX11_back_29 sh126 (by decide) (h4 q1 q2 q3) rfl (wImages hW (inN (h4 q1 q2 q3))) ?_
        exact g_callV (As := [.ref (127 + 96 * x1.toNatClampNeg)]) (st := []) dX11_back_30 clX11_354 sh30 rfl rfl (Nat.le_of_ble_eq_true rfl) (rmSH (by decide) (by decide)) (h5 q1 q2 q3)
      · refine g_iconst (v := -1) dX11_back_18 (by decide) ?_
        exact g_iret dX11_back_19 rfl enSH (h6 q1 q2 q3)
theorem bX11_back_33 {X : pX} {Q : Option Value → pMem → Prop} {m : pMem} {a0 : Nat} {x1 : Int32} (hW : Wf m) (c0 : SH[a0]? = some (.inl 11))
    (h1 : Q (some (.int (mI m 37 0))) m) :
    Go X 4 mX11_back Q 33 [(0, .ref a0), (1, .int x1)] [] m := by
  refine g_aload_n 0 dX11_back_33 rfl rfl ?_
  refine g_getR dX11_back_34 fl11_42 rfl c0 (w11_5 hW c0) ?_
  refine g_getR dX11_back_37 fl11_69 rfl sh30 (w10_1 hW sh30) ?_
  refine g_getI dX11_back_40 fl11_185 (s10_1 sh30) ?_
  exact g_iret dX11_back_43 rfl enSH h1
theorem bX11_ruleOf_0 {X : pX} {Q : Option Value → pMem → Prop} {m : pMem} {a0 : Nat} {x1 : Int32} (hW : Wf m) (c0 : SH[a0]? = some (.inl 11))
    (h1 : x1 < 0 → Q (some (.null)) m)
    (h2 : ¬ (x1 < 0) → (mI m a0 4) ≤ x1 → Q (some (.null)) m)
    (h3 : ¬ (x1 < 0) → ¬ ((mI m a0 4) ≤ x1) → (6 : Int32) ≤ x1 → Q (some (.null)) m)
    (h4 : ¬ (x1 < 0) → ¬ ((mI m a0 4) ≤ x1) → ¬ ((6 : Int32) ≤ x1) → vp_in x1 6)
    (h5 : ¬ (x1 < 0) → ¬ ((mI m a0 4) ≤ x1) → ¬ ((6 : Int32) ≤ x1) → Q (some (.ref (12 + 3 * x1.toNatClampNeg))) m) :
    Go X 0 mX11_ruleOf Q 0 [(0, .ref a0), (1, .int x1)] [] m := by
  refine g_iload_n 1 dX11_ruleOf_0 rfl rfl ?_
  refine g_if_lt 27 dX11_ruleOf_1 (by decide) (fun q1 => ?_) (fun q1 => ?_)
  · refine g_null dX11_ruleOf_27 ?_
    exact g_aret dX11_ruleOf_28 rfl (Or.inl ⟨_, rfl⟩) (Or.inl rfl) enSH (h1 q1)
  · refine g_iload_n 1 dX11_ruleOf_4 rfl rfl ?_
    refine g_aload_n 0 dX11_ruleOf_5 rfl rfl ?_
    refine g_getI dX11_ruleOf_6 fl11_126 c0 ?_
    refine g_icmp_ge 27 dX11_ruleOf_9 (by decide) (fun q2 => ?_) (fun q2 => ?_)
    · refine g_null dX11_ruleOf_27 ?_
      exact g_aret dX11_ruleOf_28 rfl (Or.inl ⟨_, rfl⟩) (Or.inl rfl) enSH (h2 q1 q2)
    · refine g_iload_n 1 dX11_ruleOf_12 rfl rfl ?_
      refine g_bipush (v := 6) dX11_ruleOf_13 (by decide) ?_
      refine g_icmp_ge 27 dX11_ruleOf_15 (by decide) (fun q3 => ?_) (fun q3 => ?_)
      · refine g_null dX11_ruleOf_27 ?_
        exact g_aret dX11_ruleOf_28 rfl (Or.inl ⟨_, rfl⟩) (Or.inl rfl) enSH (h3 q1 q2 q3)
      · refine g_aload_n 0 dX11_ruleOf_18 rfl rfl ?_
        refine g_getR dX11_ruleOf_19 fl11_34 rfl c0 (w11_3 hW c0) ?_
        refine g_iload_n 1 dX11_ruleOf_22 rfl rfl ?_
        refine g_aald dX11_ruleOf_23 sh11 (by decide) (h4 q1 q2 q3) rfl (wRules hW (inN (h4 q1 q2 q3))) ?_
        refine g_goto 28 dX11_ruleOf_24 (by decide) ?_
        exact g_aret dX11_ruleOf_28 rfl (Or.inl ⟨_, rfl⟩) (Or.inr (Or.inl ⟨_, rfl⟩)) enSH (h5 q1 q2 q3)
theorem bX11_inForce_0 {X : pX} {Q : Option Value → pMem → Prop} {m : pMem} {a0 : Nat} (hW : Wf m) (c0 : SH[a0]? = some (.inl 11))
    (h1 : Cl X 0 mX11_ruleOf [.ref a0, .int (mI m 30 3)] m (fun v m2 => Go X 1 mX11_inForce Q 11 [(0, .ref a0)] (v.toList ++ []) m2)) :
    Go X 1 mX11_inForce Q 0 [(0, .ref a0)] [] m := by
  refine g_aload_n 0 dX11_inForce_0 rfl rfl ?_
  refine g_aload_n 0 dX11_inForce_1 rfl rfl ?_
  refine g_getR dX11_inForce_2 fl11_42 rfl c0 (w11_5 hW c0) ?_
  refine g_getI dX11_inForce_5 fl11_132 sh30 ?_
  exact g_callV (As := [.int (mI m 30 3)]) (st := []) dX11_inForce_8 clX11_321 c0 rfl rfl (Nat.le_of_ble_eq_true rfl) (rmSH (by decide) (by decide)) h1
theorem bX11_inForce_11 {X : pX} {Q : Option Value → pMem → Prop} {m : pMem} {a0 : Nat} {as0 : Nat} (hW : Wf m) (c0 : SH[a0]? = some (.inl 11)) (cs0 : SH[as0]? = some (.inl 6))
    (h1 : Q (some (.ref as0)) m) :
    Go X 1 mX11_inForce Q 11 [(0, .ref a0)] [.ref as0] m := by
  exact g_aret dX11_inForce_11 rfl (Or.inl ⟨_, rfl⟩) (Or.inr (Or.inl ⟨_, rfl⟩)) enSH h1
theorem bX11_inForce_11v1 {X : pX} {Q : Option Value → pMem → Prop} {m : pMem} {a0 : Nat} (hW : Wf m) (c0 : SH[a0]? = some (.inl 11))
    (h1 : Q (some (.null)) m) :
    Go X 1 mX11_inForce Q 11 [(0, .ref a0)] [.null] m := by
  exact g_aret dX11_inForce_11 rfl (Or.inl ⟨_, rfl⟩) (Or.inl rfl) enSH h1
theorem bX11_goOnFromNow_0 {X : pX} {Q : Option Value → pMem → Prop} {m : pMem} {a0 : Nat} {x1 : Int32} (hW : Wf m) (c0 : SH[a0]? = some (.inl 11))
    (h1 : Cl X 1 mX8_copy [.ref 523, .ref 37] m (fun v m2 => Go X 6 mX11_goOnFromNow Q 14 [(0, .ref a0), (1, .int x1)] (v.toList ++ []) m2)) :
    Go X 6 mX11_goOnFromNow Q 0 [(0, .ref a0), (1, .int x1)] [] m := by
  refine g_aload_n 0 dX11_goOnFromNow_0 rfl rfl ?_
  refine g_getR dX11_goOnFromNow_1 fl11_90 rfl c0 (w11_11 hW c0) ?_
  refine g_aload_n 0 dX11_goOnFromNow_4 rfl rfl ?_
  refine g_getR dX11_goOnFromNow_5 fl11_42 rfl c0 (w11_5 hW c0) ?_
  refine g_getR dX11_goOnFromNow_8 fl11_69 rfl sh30 (w10_1 hW sh30) ?_
  exact g_callV (As := [.ref 37]) (st := []) dX11_goOnFromNow_11 clX11_252 sh523 rfl rfl (Nat.le_of_ble_eq_true rfl) (rmSH (by decide) (by decide)) h1
theorem bX11_goOnFromNow_14 {X : pX} {Q : Option Value → pMem → Prop} {m : pMem} {a0 : Nat} {x1 : Int32} (hW : Wf m) (c0 : SH[a0]? = some (.inl 11))
    (h1 : Cl X 1 mX11_inForce [.ref a0] m (fun v m2 => Go X 6 mX11_goOnFromNow Q 26 [(0, .ref a0), (1, .int x1)] (v.toList ++ [.ref 523, .ref 512]) m2)) :
    Go X 6 mX11_goOnFromNow Q 14 [(0, .ref a0), (1, .int x1)] [] m := by
  refine g_aload_n 0 dX11_goOnFromNow_14 rfl rfl ?_
  refine g_getR dX11_goOnFromNow_15 fl11_63 rfl c0 (w11_8 hW c0) ?_
  refine g_aload_n 0 dX11_goOnFromNow_18 rfl rfl ?_
  refine g_getR dX11_goOnFromNow_19 fl11_90 rfl c0 (w11_11 hW c0) ?_
  refine g_aload_n 0 dX11_goOnFromNow_22 rfl rfl ?_
  exact g_callV (As := []) (st := [.ref 523, .ref 512]) dX11_goOnFromNow_23 clX11_225 c0 rfl rfl (Nat.le_of_ble_eq_true rfl) (rmSH (by decide) (by decide)) h1
theorem bX11_goOnFromNow_26 {X : pX} {Q : Option Value → pMem → Prop} {m : pMem} {a0 : Nat} {x1 : Int32} {as0 : Nat} {as1 : Nat} {as2 : Nat} (hW : Wf m) (c0 : SH[a0]? = some (.inl 11)) (cs0 : SH[as0]? = some (.inl 6)) (cs1 : SH[as1]? = some (.inl 8)) (cs2 : SH[as2]? = some (.inl 0))
    (h1 : Cl X 5 mX0_goOn [.ref as2, .ref as1, .ref as0, .int x1] m (fun v m2 => Go X 6 mX11_goOnFromNow Q 30 [(0, .ref a0), (1, .int x1)] (v.toList ++ []) m2)) :
    Go X 6 mX11_goOnFromNow Q 26 [(0, .ref a0), (1, .int x1)] [.ref as0, .ref as1, .ref as2] m := by
  refine g_iload_n 1 dX11_goOnFromNow_26 rfl rfl ?_
  exact g_callV (As := [.ref as1, .ref as0, .int x1]) (st := []) dX11_goOnFromNow_27 clX11_259 cs2 rfl rfl (Nat.le_of_ble_eq_true rfl) (rmSH (by decide) (by decide)) h1
theorem bX11_goOnFromNow_26v1 {X : pX} {Q : Option Value → pMem → Prop} {m : pMem} {a0 : Nat} {x1 : Int32} {as1 : Nat} {as2 : Nat} (hW : Wf m) (c0 : SH[a0]? = some (.inl 11)) (cs1 : SH[as1]? = some (.inl 8)) (cs2 : SH[as2]? = some (.inl 0))
    (h1 : Cl X 5 mX0_goOn [.ref as2, .ref as1, .null, .int x1] m (fun v m2 => Go X 6 mX11_goOnFromNow Q 30 [(0, .ref a0), (1, .int x1)] (v.toList ++ []) m2)) :
    Go X 6 mX11_goOnFromNow Q 26 [(0, .ref a0), (1, .int x1)] [.null, .ref as1, .ref as2] m := by
  refine g_iload_n 1 dX11_goOnFromNow_26 rfl rfl ?_
  exact g_callV (As := [.ref as1, .null, .int x1]) (st := []) dX11_goOnFromNow_27 clX11_259 cs2 rfl rfl (Nat.le_of_ble_eq_true rfl) (rmSH (by decide) (by decide)) h1
theorem bX11_goOnFromNow_30 {X : pX} {Q : Option Value → pMem → Prop} {m : pMem} {a0 : Nat} {x1 : Int32} (hW : Wf m) (c0 : SH[a0]? = some (.inl 11))
    (h1 : Q none m) :
    Go X 6 mX11_goOnFromNow Q 30 [(0, .ref a0), (1, .int x1)] [] m := by
  exact g_vret dX11_goOnFromNow_30 rfl enSH h1
theorem bX11_isAtPlace_0 {X : pX} {Q : Option Value → pMem → Prop} {m : pMem} {a0 : Nat} {x1 : Int32} (hW : Wf m) (c0 : SH[a0]? = some (.inl 11))
    (h1 : Cl X 0 mX4_isPerson [.ref 31, .int x1] m (fun v m2 => Go X 1 mX11_isAtPlace Q 11 [(0, .ref a0), (1, .int x1)] (v.toList ++ []) m2)) :
    Go X 1 mX11_isAtPlace Q 0 [(0, .ref a0), (1, .int x1)] [] m := by
  refine g_aload_n 0 dX11_isAtPlace_0 rfl rfl ?_
  refine g_getR dX11_isAtPlace_1 fl11_42 rfl c0 (w11_5 hW c0) ?_
  refine g_getR dX11_isAtPlace_4 fl11_56 rfl sh30 (w10_0 hW sh30) ?_
  refine g_iload_n 1 dX11_isAtPlace_7 rfl rfl ?_
  exact g_callV (As := [.int x1]) (st := []) dX11_isAtPlace_8 clX11_135 (s10_0 sh30) rfl rfl (Nat.le_of_ble_eq_true rfl) (rmSH (by decide) (by decide)) h1
theorem bX11_isAtPlace_11 {X : pX} {Q : Option Value → pMem → Prop} {m : pMem} {a0 : Nat} {x1 : Int32} {xs0 : Int32} (hW : Wf m) (c0 : SH[a0]? = some (.inl 11))
    (h1 : xs0 = 0 → Q (some (.int (0 : Int32))) m)
    (h2 : ¬ (xs0 = 0) → vp_in x1 4)
    (h3 : ¬ (xs0 = 0) → ¬ (mI m 39 x1.toNatClampNeg) = 0 → Q (some (.int (0 : Int32))) m)
    (h4 : ¬ (xs0 = 0) → (mI m 39 x1.toNatClampNeg) = 0 → Q (some (.int (1 : Int32))) m) :
    Go X 1 mX11_isAtPlace Q 11 [(0, .ref a0), (1, .int x1)] [.int xs0] m := by
  refine g_if_eq 33 dX11_isAtPlace_11 (by decide) (fun q1 => ?_) (fun q1 => ?_)
  · refine g_iconst (v := 0) dX11_isAtPlace_33 (by decide) ?_
    exact g_bret dX11_isAtPlace_34 rfl (Or.inl rfl) enSH (h1 q1)
  · refine g_aload_n 0 dX11_isAtPlace_14 rfl rfl ?_
    refine g_getR dX11_isAtPlace_15 fl11_42 rfl c0 (w11_5 hW c0) ?_
    refine g_getR dX11_isAtPlace_18 fl11_69 rfl sh30 (w10_1 hW sh30) ?_
    refine g_getR dX11_isAtPlace_21 fl11_149 rfl (s10_1 sh30) (w8_2 hW (s10_1 sh30)) ?_
    refine g_iload_n 1 dX11_isAtPlace_24 rfl rfl ?_
    refine g_iald (j := x1.toNatClampNeg) dX11_isAtPlace_25 (s8_2 (s10_1 sh30)) (h2 q1) rfl ?_
    refine g_if_ne 33 dX11_isAtPlace_26 (by decide) (fun q2 => ?_) (fun q2 => ?_)
    · refine g_iconst (v := 0) dX11_isAtPlace_33 (by decide) ?_
      exact g_bret dX11_isAtPlace_34 rfl (Or.inl rfl) enSH (h3 q1 q2)
    · refine g_iconst (v := 1) dX11_isAtPlace_29 (by decide) ?_
      refine g_goto 34 dX11_isAtPlace_30 (by decide) ?_
      exact g_bret dX11_isAtPlace_34 rfl (Or.inr rfl) enSH (h4 q1 q2)
theorem bX11_areAtOnePlace_0 {X : pX} {Q : Option Value → pMem → Prop} {m : pMem} {a0 : Nat} {x1 : Int32} {x2 : Int32} (hW : Wf m) (c0 : SH[a0]? = some (.inl 11))
    (h1 : x1 = x2 → Q (some (.int (0 : Int32))) m)
    (h2 : ¬ (x1 = x2) → Cl X 1 mX11_isAtPlace [.ref a0, .int x1] m (fun v m2 => Go X 2 mX11_areAtOnePlace Q 10 [(0, .ref a0), (1, .int x1), (2, .int x2)] (v.toList ++ []) m2)) :
    Go X 2 mX11_areAtOnePlace Q 0 [(0, .ref a0), (1, .int x1), (2, .int x2)] [] m := by
  refine g_iload_n 1 dX11_areAtOnePlace_0 rfl rfl ?_
  refine g_iload_n 2 dX11_areAtOnePlace_1 rfl rfl ?_
  refine g_icmp_eq 52 dX11_areAtOnePlace_2 (by decide) (fun q1 => ?_) (fun q1 => ?_)
  · refine g_iconst (v := 0) dX11_areAtOnePlace_52 (by decide) ?_
    exact g_bret dX11_areAtOnePlace_53 rfl (Or.inl rfl) enSH (h1 q1)
  · refine g_aload_n 0 dX11_areAtOnePlace_5 rfl rfl ?_
    refine g_iload_n 1 dX11_areAtOnePlace_6 rfl rfl ?_
    exact g_callV (As := [.int x1]) (st := []) dX11_areAtOnePlace_7 clX11_233 c0 rfl rfl (Nat.le_of_ble_eq_true rfl) (rmSH (by decide) (by decide)) (h2 q1)
theorem bX11_areAtOnePlace_10 {X : pX} {Q : Option Value → pMem → Prop} {m : pMem} {a0 : Nat} {x1 : Int32} {x2 : Int32} {xs0 : Int32} (hW : Wf m) (c0 : SH[a0]? = some (.inl 11))
    (h1 : xs0 = 0 → Q (some (.int (0 : Int32))) m)
    (h2 : ¬ (xs0 = 0) → Cl X 1 mX11_isAtPlace [.ref a0, .int x2] m (fun v m2 => Go X 2 mX11_areAtOnePlace Q 18 [(0, .ref a0), (1, .int x1), (2, .int x2)] (v.toList ++ []) m2)) :
    Go X 2 mX11_areAtOnePlace Q 10 [(0, .ref a0), (1, .int x1), (2, .int x2)] [.int xs0] m := by
  refine g_if_eq 52 dX11_areAtOnePlace_10 (by decide) (fun q1 => ?_) (fun q1 => ?_)
  · refine g_iconst (v := 0) dX11_areAtOnePlace_52 (by decide) ?_
    exact g_bret dX11_areAtOnePlace_53 rfl (Or.inl rfl) enSH (h1 q1)
  · refine g_aload_n 0 dX11_areAtOnePlace_13 rfl rfl ?_
    refine g_iload_n 2 dX11_areAtOnePlace_14 rfl rfl ?_
    exact g_callV (As := [.int x2]) (st := []) dX11_areAtOnePlace_15 clX11_233 c0 rfl rfl (Nat.le_of_ble_eq_true rfl) (rmSH (by decide) (by decide)) (h2 q1)
theorem bX11_areAtOnePlace_18 {X : pX} {Q : Option Value → pMem → Prop} {m : pMem} {a0 : Nat} {x1 : Int32} {x2 : Int32} {xs0 : Int32} (hW : Wf m) (c0 : SH[a0]? = some (.inl 11))
    (h1 : xs0 = 0 → Q (some (.int (0 : Int32))) m)
    (h2 : ¬ (xs0 = 0) → vp_in x1 4)
    (h3 : ¬ (xs0 = 0) → vp_in x2 4)
    (h4 : ¬ (xs0 = 0) → ¬ (mI m 38 x1.toNatClampNeg) = (mI m 38 x2.toNatClampNeg) → Q (some (.int (0 : Int32))) m)
    (h5 : ¬ (xs0 = 0) → (mI m 38 x1.toNatClampNeg) = (mI m 38 x2.toNatClampNeg) → Q (some (.int (1 : Int32))) m) :
    Go X 2 mX11_areAtOnePlace Q 18 [(0, .ref a0), (1, .int x1), (2, .int x2)] [.int xs0] m := by
  refine g_if_eq 52 dX11_areAtOnePlace_18 (by decide) (fun q1 => ?_) (fun q1 => ?_)
  · refine g_iconst (v := 0) dX11_areAtOnePlace_52 (by decide) ?_
    exact g_bret dX11_areAtOnePlace_53 rfl (Or.inl rfl) enSH (h1 q1)
  · refine g_aload_n 0 dX11_areAtOnePlace_21 rfl rfl ?_
    refine g_getR dX11_areAtOnePlace_22 fl11_42 rfl c0 (w11_5 hW c0) ?_
    refine g_getR dX11_areAtOnePlace_25 fl11_69 rfl sh30 (w10_1 hW sh30) ?_
    refine g_getR dX11_areAtOnePlace_28 fl11_146 rfl (s10_1 sh30) (w8_1 hW (s10_1 sh30)) ?_
    refine g_iload_n 1 dX11_areAtOnePlace_31 rfl rfl ?_
    refine g_iald (j := x1.toNatClampNeg) dX11_areAtOnePlace_32 (s8_1 (s10_1 sh30)) (h2 q1) rfl ?_
    refine g_aload_n 0 dX11_areAtOnePlace_33 rfl rfl ?_
    refine g_getR dX11_areAtOnePlace_34 fl11_42 rfl c0 (w11_5 hW c0) ?_
    refine g_getR dX11_areAtOnePlace_37 fl11_69 rfl sh30 (w10_1 hW sh30) ?_
    refine g_getR dX11_areAtOnePlace_40 fl11_146 rfl (s10_1 sh30) (w8_1 hW (s10_1 sh30)) ?_
    refine g_iload_n 2 dX11_areAtOnePlace_43 rfl rfl ?_
    refine g_iald (j := x2.toNatClampNeg) dX11_areAtOnePlace_44 (s8_1 (s10_1 sh30)) (h3 q1) rfl ?_
    refine g_icmp_ne 52 dX11_areAtOnePlace_45 (by decide) (fun q2 => ?_) (fun q2 => ?_)
    · refine g_iconst (v := 0) dX11_areAtOnePlace_52 (by decide) ?_
      exact g_bret dX11_areAtOnePlace_53 rfl (Or.inl rfl) enSH (h4 q1 q2)
    · refine g_iconst (v := 1) dX11_areAtOnePlace_48 (by decide) ?_
      refine g_goto 53 dX11_areAtOnePlace_49 (by decide) ?_
      exact g_bret dX11_areAtOnePlace_53 rfl (Or.inr rfl) enSH (h5 q1 q2)
theorem bX11_hasFreeHand_0 {X : pX} {Q : Option Value → pMem → Prop} {m : pMem} {a0 : Nat} {x1 : Int32} (hW : Wf m) (c0 : SH[a0]? = some (.inl 11))
    (h1 : Cl X 1 mX8_manyOf [.ref 37, .int x1] m (fun v m2 => Go X 2 mX11_hasFreeHand Q 11 [(0, .ref a0), (1, .int x1)] (v.toList ++ []) m2)) :
    Go X 2 mX11_hasFreeHand Q 0 [(0, .ref a0), (1, .int x1)] [] m := by
  refine g_aload_n 0 dX11_hasFreeHand_0 rfl rfl ?_
  refine g_getR dX11_hasFreeHand_1 fl11_42 rfl c0 (w11_5 hW c0) ?_
  refine g_getR dX11_hasFreeHand_4 fl11_69 rfl sh30 (w10_1 hW sh30) ?_
  refine g_iload_n 1 dX11_hasFreeHand_7 rfl rfl ?_
  exact g_callV (As := [.int x1]) (st := []) dX11_hasFreeHand_8 clX11_236 (s10_1 sh30) rfl rfl (Nat.le_of_ble_eq_true rfl) (rmSH (by decide) (by decide)) h1
theorem bX11_hasFreeHand_11 {X : pX} {Q : Option Value → pMem → Prop} {m : pMem} {a0 : Nat} {x1 : Int32} {xs0 : Int32} (hW : Wf m) (c0 : SH[a0]? = some (.inl 11))
    (h1 : (mI m 31 1) ≤ xs0 → Q (some (.int (0 : Int32))) m)
    (h2 : ¬ ((mI m 31 1) ≤ xs0) → Q (some (.int (1 : Int32))) m) :
    Go X 2 mX11_hasFreeHand Q 11 [(0, .ref a0), (1, .int x1)] [.int xs0] m := by
  refine g_aload_n 0 dX11_hasFreeHand_11 rfl rfl ?_
  refine g_getR dX11_hasFreeHand_12 fl11_42 rfl c0 (w11_5 hW c0) ?_
  refine g_getR dX11_hasFreeHand_15 fl11_56 rfl sh30 (w10_0 hW sh30) ?_
  refine g_getI dX11_hasFreeHand_18 fl11_176 (s10_0 sh30) ?_
  refine g_icmp_ge 28 dX11_hasFreeHand_21 (by decide) (fun q1 => ?_) (fun q1 => ?_)
  · refine g_iconst (v := 0) dX11_hasFreeHand_28 (by decide) ?_
    exact g_bret dX11_hasFreeHand_29 rfl (Or.inl rfl) enSH (h1 q1)
  · refine g_iconst (v := 1) dX11_hasFreeHand_24 (by decide) ?_
    refine g_goto 29 dX11_hasFreeHand_25 (by decide) ?_
    exact g_bret dX11_hasFreeHand_29 rfl (Or.inr rfl) enSH (h2 q1)
