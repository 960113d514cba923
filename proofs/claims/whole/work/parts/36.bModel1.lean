theorem bX12_in_0 {X : pX} {Q : Option Value → pMem → Prop} {m : pMem} {y0 : Int64} {y2 : Int64} {y4 : Int64} (hW : Wf m)
    (h1 : (lg_cmp y0 y2) < 0 → Q (some (.int (0 : Int32))) m)
    (h2 : ¬ ((lg_cmp y0 y2) < 0) → 0 < (lg_cmp y0 y4) → Q (some (.int (0 : Int32))) m)
    (h3 : ¬ ((lg_cmp y0 y2) < 0) → ¬ (0 < (lg_cmp y0 y4)) → Q (some (.int (1 : Int32))) m) :
    Go X 0 mX12_in Q 0 [(0, .long y0), (2, .long y2), (4, .long y4)] [] m := by
  refine g_lload_n 0 dX12_in_0 rfl rfl ?_
  refine g_lload_n 1 dX12_in_1 rfl rfl ?_
  refine g_lcmp dX12_in_2 ?_
  refine g_if_lt 17 dX12_in_3 (by decide) (fun q1 => ?_) (fun q1 => ?_)
  · refine g_iconst (v := 0) dX12_in_17 (by decide) ?_
    exact g_bret dX12_in_18 rfl (Or.inl rfl) enSH (h1 q1)
  · refine g_lload_n 0 dX12_in_6 rfl rfl ?_
    refine g_lload 2 dX12_in_7 rfl ?_
    refine g_lcmp dX12_in_9 ?_
    refine g_if_gt 17 dX12_in_10 (by decide) (fun q2 => ?_) (fun q2 => ?_)
    · refine g_iconst (v := 0) dX12_in_17 (by decide) ?_
      exact g_bret dX12_in_18 rfl (Or.inl rfl) enSH (h2 q1 q2)
    · refine g_iconst (v := 1) dX12_in_13 (by decide) ?_
      refine g_goto 18 dX12_in_14 (by decide) ?_
      exact g_bret dX12_in_18 rfl (Or.inr rfl) enSH (h3 q1 q2)
theorem bX12_bits_0 {X : pX} {Q : Option Value → pMem → Prop} {m : pMem} {x0 : Int32} (hW : Wf m)
    (h1 : Go X 0 mX12_bits Q 4 [(0, .int x0), (1, .int (0 : Int32)), (2, .int (0 : Int32))] [] m) :
    Go X 0 mX12_bits Q 0 [(0, .int x0)] [] m := by
  refine g_iconst (v := 0) dX12_bits_0 (by decide) ?_
  refine g_istore_n (ls2 := [(1, .int (0 : Int32)), (0, .int x0)]) dX12_bits_1 rfl (by decide) rfl ?_
  refine g_iconst (v := 0) dX12_bits_2 (by decide) ?_
  refine g_istore_n (ls2 := [(2, .int (0 : Int32)), (1, .int (0 : Int32)), (0, .int x0)]) dX12_bits_3 rfl (by decide) rfl ?_
  exact g_ls [2, 1, 0] rfl h1
theorem bX12_bits_4 {X : pX} {Q : Option Value → pMem → Prop} {m : pMem} {x0 : Int32} {x1 : Int32} {x2 : Int32} (hW : Wf m)
    (h1 : (16 : Int32) ≤ x2 → Q (some (.int x1)) m)
    (h2 : ¬ ((16 : Int32) ≤ x2) → Go X 0 mX12_bits Q 4 [(0, .int x0), (1, .int (x1 + ((x0 >>> (x2 &&& 31)) &&& (1 : Int32)))), (2, .int (x2 + (1 : Int32)))] [] m) :
    Go X 0 mX12_bits Q 4 [(0, .int x0), (1, .int x1), (2, .int x2)] [] m := by
  refine g_iload_n 2 dX12_bits_4 rfl rfl ?_
  refine g_bipush (v := 16) dX12_bits_5 (by decide) ?_
  refine g_icmp_ge 24 dX12_bits_7 (by decide) (fun q1 => ?_) (fun q1 => ?_)
  · refine g_iload_n 1 dX12_bits_24 rfl rfl ?_
    exact g_iret dX12_bits_25 rfl enSH (h1 q1)
  · refine g_iload_n 1 dX12_bits_10 rfl rfl ?_
    refine g_iload_n 0 dX12_bits_11 rfl rfl ?_
    refine g_iload_n 2 dX12_bits_12 rfl rfl ?_
    refine g_ishr dX12_bits_13 ?_
    refine g_iconst (v := 1) dX12_bits_14 (by decide) ?_
    refine g_iand dX12_bits_15 ?_
    refine g_iadd dX12_bits_16 ?_
    refine g_istore_n (ls2 := [(1, .int (x1 + ((x0 >>> (x2 &&& 31)) &&& (1 : Int32)))), (0, .int x0), (2, .int x2)]) dX12_bits_17 rfl (by decide) rfl ?_
    refine g_iinc (v := x2 + (1 : Int32)) (ls2 := [(2, .int (x2 + (1 : Int32))), (1, .int (x1 + ((x0 >>> (x2 &&& 31)) &&& (1 : Int32)))), (0, .int x0)]) 2 dX12_bits_18 rfl rfl (by decide) rfl ?_
    refine g_goto 4 dX12_bits_21 (by decide) ?_
    exact g_ls [2, 1, 0] rfl (h2 q1)
theorem bX12_has_0 {X : pX} {Q : Option Value → pMem → Prop} {m : pMem} {x0 : Int32} {x1 : Int32} (hW : Wf m)
    (h1 : ¬ ((x0 >>> (x1 &&& 31)) &&& (1 : Int32)) = (1 : Int32) → Q (some (.int (0 : Int32))) m)
    (h2 : ((x0 >>> (x1 &&& 31)) &&& (1 : Int32)) = (1 : Int32) → Q (some (.int (1 : Int32))) m) :
    Go X 0 mX12_has Q 0 [(0, .int x0), (1, .int x1)] [] m := by
  refine g_iload_n 0 dX12_has_0 rfl rfl ?_
  refine g_iload_n 1 dX12_has_1 rfl rfl ?_
  refine g_ishr dX12_has_2 ?_
  refine g_iconst (v := 1) dX12_has_3 (by decide) ?_
  refine g_iand dX12_has_4 ?_
  refine g_iconst (v := 1) dX12_has_5 (by decide) ?_
  refine g_icmp_ne 13 dX12_has_6 (by decide) (fun q1 => ?_) (fun q1 => ?_)
  · refine g_iconst (v := 0) dX12_has_13 (by decide) ?_
    exact g_bret dX12_has_14 rfl (Or.inl rfl) enSH (h1 q1)
  · refine g_iconst (v := 1) dX12_has_9 (by decide) ?_
    refine g_goto 14 dX12_has_10 (by decide) ?_
    exact g_bret dX12_has_14 rfl (Or.inr rfl) enSH (h2 q1)
theorem bX12_isRoad_0 {X : pX} {Q : Option Value → pMem → Prop} {m : pMem} {a0 : Nat} (hW : Wf m) (c0 : SH[a0]? = some (.inl 12))
    (h1 : ¬ (mI m (a0 + 1) 0) = (1 : Int32) → Q (some (.int (0 : Int32))) m)
    (h2 : (mI m (a0 + 1) 0) = (1 : Int32) → Q (some (.int (1 : Int32))) m) :
    Go X 0 mX12_isRoad Q 0 [(0, .ref a0)] [] m := by
  refine g_aload_n 0 dX12_isRoad_0 rfl rfl ?_
  refine g_getR dX12_isRoad_1 fl12_9 rfl c0 (w12_1 hW c0) ?_
  refine g_iconst (v := 0) dX12_isRoad_4 (by decide) ?_
  refine g_iald (j := 0) dX12_isRoad_5 (s12_1 c0) (by unfold vp_in; decide) (by decide) ?_
  refine g_iconst (v := 1) dX12_isRoad_6 (by decide) ?_
  refine g_icmp_ne 14 dX12_isRoad_7 (by decide) (fun q1 => ?_) (fun q1 => ?_)
  · refine g_iconst (v := 0) dX12_isRoad_14 (by decide) ?_
    exact g_bret dX12_isRoad_15 rfl (Or.inl rfl) enSH (h1 q1)
  · refine g_iconst (v := 1) dX12_isRoad_10 (by decide) ?_
    refine g_goto 15 dX12_isRoad_11 (by decide) ?_
    exact g_bret dX12_isRoad_15 rfl (Or.inr rfl) enSH (h2 q1)
theorem bX12_isPerson_0 {X : pX} {Q : Option Value → pMem → Prop} {m : pMem} {a0 : Nat} {x1 : Int32} (hW : Wf m) (c0 : SH[a0]? = some (.inl 12))
    (h1 : Cl X 0 mX12_in [.long x1.toInt64, .long (0 : Int64), .long (((mI m (a0 + 1) 3) - (1 : Int32)).toInt64)] m (fun v m2 => Go X 1 mX12_isPerson Q 15 [(0, .ref a0), (1, .int x1)] (v.toList ++ []) m2)) :
    Go X 1 mX12_isPerson Q 0 [(0, .ref a0), (1, .int x1)] [] m := by
  refine g_iload_n 1 dX12_isPerson_0 rfl rfl ?_
  refine g_i2l dX12_isPerson_1 ?_
  refine g_lconst (v := 0) dX12_isPerson_2 (by decide) ?_
  refine g_aload_n 0 dX12_isPerson_3 rfl rfl ?_
  refine g_getR dX12_isPerson_4 fl12_9 rfl c0 (w12_1 hW c0) ?_
  refine g_iconst (v := 3) dX12_isPerson_7 (by decide) ?_
  refine g_iald (j := 3) dX12_isPerson_8 (s12_1 c0) (by unfold vp_in; decide) (by decide) ?_
  refine g_iconst (v := 1) dX12_isPerson_9 (by decide) ?_
  refine g_isub dX12_isPerson_10 ?_
  refine g_i2l dX12_isPerson_11 ?_
  exact g_callS (As := [.long x1.toInt64, .long (0 : Int64), .long (((mI m (a0 + 1) 3) - (1 : Int32)).toInt64)]) (st := []) dX12_isPerson_12 clX12_128 rfl rfl (Nat.le_of_ble_eq_true rfl) (rmSH (by decide) (by decide)) h1
theorem bX12_isPerson_15 {X : pX} {Q : Option Value → pMem → Prop} {m : pMem} {a0 : Nat} {x1 : Int32} {xs0 : Int32} (hW : Wf m) (c0 : SH[a0]? = some (.inl 12))
    (h1 : xs0 = 0 ∨ xs0 = 1)
    (h2 : Q (some (.int xs0)) m) :
    Go X 1 mX12_isPerson Q 15 [(0, .ref a0), (1, .int x1)] [.int xs0] m := by
  exact g_bret dX12_isPerson_15 rfl h1 enSH h2
theorem bX12_isThing_0 {X : pX} {Q : Option Value → pMem → Prop} {m : pMem} {a0 : Nat} {x1 : Int32} (hW : Wf m) (c0 : SH[a0]? = some (.inl 12))
    (h1 : Cl X 0 mX12_in [.long x1.toInt64, .long (0 : Int64), .long (((mI m (a0 + 1) 4) - (1 : Int32)).toInt64)] m (fun v m2 => Go X 1 mX12_isThing Q 15 [(0, .ref a0), (1, .int x1)] (v.toList ++ []) m2)) :
    Go X 1 mX12_isThing Q 0 [(0, .ref a0), (1, .int x1)] [] m := by
  refine g_iload_n 1 dX12_isThing_0 rfl rfl ?_
  refine g_i2l dX12_isThing_1 ?_
  refine g_lconst (v := 0) dX12_isThing_2 (by decide) ?_
  refine g_aload_n 0 dX12_isThing_3 rfl rfl ?_
  refine g_getR dX12_isThing_4 fl12_9 rfl c0 (w12_1 hW c0) ?_
  refine g_iconst (v := 4) dX12_isThing_7 (by decide) ?_
  refine g_iald (j := 4) dX12_isThing_8 (s12_1 c0) (by unfold vp_in; decide) (by decide) ?_
  refine g_iconst (v := 1) dX12_isThing_9 (by decide) ?_
  refine g_isub dX12_isThing_10 ?_
  refine g_i2l dX12_isThing_11 ?_
  exact g_callS (As := [.long x1.toInt64, .long (0 : Int64), .long (((mI m (a0 + 1) 4) - (1 : Int32)).toInt64)]) (st := []) dX12_isThing_12 clX12_128 rfl rfl (Nat.le_of_ble_eq_true rfl) (rmSH (by decide) (by decide)) h1
theorem bX12_isThing_15 {X : pX} {Q : Option Value → pMem → Prop} {m : pMem} {a0 : Nat} {x1 : Int32} {xs0 : Int32} (hW : Wf m) (c0 : SH[a0]? = some (.inl 12))
    (h1 : xs0 = 0 ∨ xs0 = 1)
    (h2 : Q (some (.int xs0)) m) :
    Go X 1 mX12_isThing Q 15 [(0, .ref a0), (1, .int x1)] [.int xs0] m := by
  exact g_bret dX12_isThing_15 rfl h1 enSH h2
theorem bX12_town_0 {X : pX} {Q : Option Value → pMem → Prop} {m : pMem} {a0 : Nat} (hW : Wf m) (c0 : SH[a0]? = some (.inl 12))
    (h1 : Q (some (.int (mI m (a0 + 1) 2))) m) :
    Go X 0 mX12_town Q 0 [(0, .ref a0)] [] m := by
  refine g_aload_n 0 dX12_town_0 rfl rfl ?_
  refine g_getR dX12_town_1 fl12_9 rfl c0 (w12_1 hW c0) ?_
  refine g_iconst (v := 2) dX12_town_4 (by decide) ?_
  refine g_iald (j := 2) dX12_town_5 (s12_1 c0) (by unfold vp_in; decide) (by decide) ?_
  exact g_iret dX12_town_6 rfl enSH h1
theorem bX12_feed_0 {X : pX} {Q : Option Value → pMem → Prop} {m : pMem} {a0 : Nat} {x1 : Int32} {x2 : Int32} {x3 : Int32} {x4 : Int32} {x5 : Int32} (hW : Wf m) (c0 : SH[a0]? = some (.inl 12))
    (h1 : ((mI m a0 19) + (20 : Int32)) ≤ (400 : Int32) → Cl X 0 mX12_put [.ref a0, .int x1] m (fun v m2 => Go X 1 mX12_feed Q 20 [(0, .ref a0), (1, .int x1), (2, .int x2), (3, .int x3), (4, .int x4), (5, .int x5)] (v.toList ++ []) m2))
    (h2 : ¬ (((mI m a0 19) + (20 : Int32)) ≤ (400 : Int32)) → Q (some (.int (-1 : Int32))) m) :
    Go X 1 mX12_feed Q 0 [(0, .ref a0), (1, .int x1), (2, .int x2), (3, .int x3), (4, .int x4), (5, .int x5)] [] m := by
  refine g_aload_n 0 dX12_feed_0 rfl rfl ?_
  refine g_getI dX12_feed_1 fl12_132 c0 ?_
  refine g_bipush (v := 20) dX12_feed_4 (by decide) ?_
  refine g_iadd dX12_feed_6 ?_
  refine g_sipush (v := 400) dX12_feed_7 (by decide) ?_
  refine g_icmp_le 15 dX12_feed_10 (by decide) (fun q1 => ?_) (fun q1 => ?_)
  · refine g_aload_n 0 dX12_feed_15 rfl rfl ?_
    refine g_iload_n 1 dX12_feed_16 rfl rfl ?_
    exact g_callV (As := [.int x1]) (st := []) dX12_feed_17 clX12_135 c0 rfl rfl (Nat.le_of_ble_eq_true rfl) (rmSH (by decide) (by decide)) (h1 q1)
  · refine g_iconst (v := -1) dX12_feed_13 (by decide) ?_
    exact g_iret dX12_feed_14 rfl enSH (h2 q1)
theorem bX12_feed_20 {X : pX} {Q : Option Value → pMem → Prop} {m : pMem} {a0 : Nat} {x1 : Int32} {x2 : Int32} {x3 : Int32} {x4 : Int32} {x5 : Int32} (hW : Wf m) (c0 : SH[a0]? = some (.inl 12))
    (h1 : Cl X 0 mX12_put [.ref a0, .int x2] m (fun v m2 => Go X 1 mX12_feed Q 25 [(0, .ref a0), (1, .int x1), (2, .int x2), (3, .int x3), (4, .int x4), (5, .int x5)] (v.toList ++ []) m2)) :
    Go X 1 mX12_feed Q 20 [(0, .ref a0), (1, .int x1), (2, .int x2), (3, .int x3), (4, .int x4), (5, .int x5)] [] m := by
  refine g_aload_n 0 dX12_feed_20 rfl rfl ?_
  refine g_iload_n 2 dX12_feed_21 rfl rfl ?_
  exact g_callV (As := [.int x2]) (st := []) dX12_feed_22 clX12_135 c0 rfl rfl (Nat.le_of_ble_eq_true rfl) (rmSH (by decide) (by decide)) h1
theorem bX12_feed_25 {X : pX} {Q : Option Value → pMem → Prop} {m : pMem} {a0 : Nat} {x1 : Int32} {x2 : Int32} {x3 : Int32} {x4 : Int32} {x5 : Int32} (hW : Wf m) (c0 : SH[a0]? = some (.inl 12))
    (h1 : Cl X 0 mX12_put [.ref a0, .int x3] m (fun v m2 => Go X 1 mX12_feed Q 30 [(0, .ref a0), (1, .int x1), (2, .int x2), (3, .int x3), (4, .int x4), (5, .int x5)] (v.toList ++ []) m2)) :
    Go X 1 mX12_feed Q 25 [(0, .ref a0), (1, .int x1), (2, .int x2), (3, .int x3), (4, .int x4), (5, .int x5)] [] m := by
  refine g_aload_n 0 dX12_feed_25 rfl rfl ?_
  refine g_iload_n 3 dX12_feed_26 rfl rfl ?_
  exact g_callV (As := [.int x3]) (st := []) dX12_feed_27 clX12_135 c0 rfl rfl (Nat.le_of_ble_eq_true rfl) (rmSH (by decide) (by decide)) h1
theorem bX12_feed_30 {X : pX} {Q : Option Value → pMem → Prop} {m : pMem} {a0 : Nat} {x1 : Int32} {x2 : Int32} {x3 : Int32} {x4 : Int32} {x5 : Int32} (hW : Wf m) (c0 : SH[a0]? = some (.inl 12))
    (h1 : Cl X 0 mX12_put [.ref a0, .int x4] m (fun v m2 => Go X 1 mX12_feed Q 36 [(0, .ref a0), (1, .int x1), (2, .int x2), (3, .int x3), (4, .int x4), (5, .int x5)] (v.toList ++ []) m2)) :
    Go X 1 mX12_feed Q 30 [(0, .ref a0), (1, .int x1), (2, .int x2), (3, .int x3), (4, .int x4), (5, .int x5)] [] m := by
  refine g_aload_n 0 dX12_feed_30 rfl rfl ?_
  refine g_iload 4 dX12_feed_31 rfl ?_
  exact g_callV (As := [.int x4]) (st := []) dX12_feed_33 clX12_135 c0 rfl rfl (Nat.le_of_ble_eq_true rfl) (rmSH (by decide) (by decide)) h1
theorem bX12_feed_36 {X : pX} {Q : Option Value → pMem → Prop} {m : pMem} {a0 : Nat} {x1 : Int32} {x2 : Int32} {x3 : Int32} {x4 : Int32} {x5 : Int32} (hW : Wf m) (c0 : SH[a0]? = some (.inl 12))
    (h1 : Cl X 0 mX12_put [.ref a0, .int x5] m (fun v m2 => Go X 1 mX12_feed Q 42 [(0, .ref a0), (1, .int x1), (2, .int x2), (3, .int x3), (4, .int x4), (5, .int x5)] (v.toList ++ []) m2)) :
    Go X 1 mX12_feed Q 36 [(0, .ref a0), (1, .int x1), (2, .int x2), (3, .int x3), (4, .int x4), (5, .int x5)] [] m := by
  refine g_aload_n 0 dX12_feed_36 rfl rfl ?_
  refine g_iload 5 dX12_feed_37 rfl ?_
  exact g_callV (As := [.int x5]) (st := []) dX12_feed_39 clX12_135 c0 rfl rfl (Nat.le_of_ble_eq_true rfl) (rmSH (by decide) (by decide)) h1
theorem bX12_feed_42 {X : pX} {Q : Option Value → pMem → Prop} {m : pMem} {a0 : Nat} {x1 : Int32} {x2 : Int32} {x3 : Int32} {x4 : Int32} {x5 : Int32} (hW : Wf m) (c0 : SH[a0]? = some (.inl 12))
    (h1 : Q (some (.int (mI m a0 19))) m) :
    Go X 1 mX12_feed Q 42 [(0, .ref a0), (1, .int x1), (2, .int x2), (3, .int x3), (4, .int x4), (5, .int x5)] [] m := by
  refine g_aload_n 0 dX12_feed_42 rfl rfl ?_
  refine g_getI dX12_feed_43 fl12_132 c0 ?_
  exact g_iret dX12_feed_46 rfl enSH h1
theorem bX12_put_0 {X : pX} {Q : Option Value → pMem → Prop} {m : pMem} {a0 : Nat} {x1 : Int32} (hW : Wf m) (c0 : SH[a0]? = some (.inl 12))
    (h1 : Go X 0 mX12_put Q 3 [(0, .ref a0), (1, .int x1), (2, .int (24 : Int32))] [] m) :
    Go X 0 mX12_put Q 0 [(0, .ref a0), (1, .int x1)] [] m := by
  refine g_bipush (v := 24) dX12_put_0 (by decide) ?_
  refine g_istore_n (ls2 := [(2, .int (24 : Int32)), (0, .ref a0), (1, .int x1)]) dX12_put_2 rfl (by decide) rfl ?_
  exact g_ls [1, 2, 0] rfl h1
theorem bX12_put_3 {X : pX} {Q : Option Value → pMem → Prop} {m : pMem} {a0 : Nat} {x1 : Int32} {x2 : Int32} (hW : Wf m) (c0 : SH[a0]? = some (.inl 12))
    (h1 : x2 < 0 → Q none m)
    (h2 : ¬ (x2 < 0) → vp_in (mI m a0 19) 400)
    (h3 : ¬ (x2 < 0) → Go X 0 mX12_put Q 3 [(0, .ref a0), (1, .int x1), (2, .int (x2 + (-8 : Int32)))] [] (uI (uI m (a0 + 19) ((mI m a0 19).toNatClampNeg) (((x1 >>> (x2 &&& 31)).toInt8.toInt32).toInt8.toInt32)) a0 19 ((mI (uI m (a0 + 19) ((mI m a0 19).toNatClampNeg) (((x1 >>> (x2 &&& 31)).toInt8.toInt32).toInt8.toInt32)) a0 19) + (1 : Int32)))) :
    Go X 0 mX12_put Q 3 [(0, .ref a0), (1, .int x1), (2, .int x2)] [] m := by
  refine g_iload_n 2 dX12_put_3 rfl rfl ?_
  refine g_if_lt 36 dX12_put_4 (by decide) (fun q1 => ?_) (fun q1 => ?_)
  · exact g_vret dX12_put_36 rfl enSH (h1 q1)
  · refine g_aload_n 0 dX12_put_7 rfl rfl ?_
    refine g_getR dX12_put_8 fl12_68 rfl c0 (w12_29 hW c0) ?_
    refine g_aload_n 0 dX12_put_11 rfl rfl ?_
    refine g_getI dX12_put_12 fl12_132 c0 ?_
    refine g_iload_n 1 dX12_put_15 rfl rfl ?_
    refine g_iload_n 2 dX12_put_16 rfl rfl ?_
    refine g_ishr dX12_put_17 ?_
    refine g_i2b dX12_put_18 ?_
    refine g_bast (j := (mI m a0 19).toNatClampNeg) dX12_put_19 (s12_29 c0) (h2 q1) rfl ?_
    refine g_aload_n 0 dX12_put_20 rfl rfl ?_
    refine g_dup dX12_put_21 rfl ?_
    refine g_getI dX12_put_22 fl12_132 c0 ?_
    refine g_iconst (v := 1) dX12_put_25 (by decide) ?_
    refine g_iadd dX12_put_26 ?_
    refine g_putI dX12_put_27 fl12_132 (fun h => by cases h) c0 ?_
    refine g_iinc (v := x2 + (-8 : Int32)) (ls2 := [(2, .int (x2 + (-8 : Int32))), (0, .ref a0), (1, .int x1)]) 2 dX12_put_30 rfl rfl (by decide) rfl ?_
    refine g_goto 3 dX12_put_33 (by decide) ?_
    exact g_ls [1, 2, 0] rfl (h3 q1)
theorem bX12_end_0 {X : pX} {Q : Option Value → pMem → Prop} {m : pMem} {a0 : Nat} {x1 : Int32} (hW : Wf m) (c0 : SH[a0]? = some (.inl 12))
    (h1 : x1 < 0 → Q (some (.int (-1 : Int32))) m)
    (h2 : ¬ (x1 < 0) → x1 ≤ (mI m a0 19) → Q (some (.int x1)) (uI m a0 19 x1))
    (h3 : ¬ (x1 < 0) → ¬ (x1 ≤ (mI m a0 19)) → Q (some (.int (-1 : Int32))) m) :
    Go X 0 mX12_end Q 0 [(0, .ref a0), (1, .int x1)] [] m := by
  refine g_iload_n 1 dX12_end_0 rfl rfl ?_
  refine g_if_lt 12 dX12_end_1 (by decide) (fun q1 => ?_) (fun q1 => ?_)
  · refine g_iconst (v := -1) dX12_end_12 (by decide) ?_
    exact g_iret dX12_end_13 rfl enSH (h1 q1)
  · refine g_iload_n 1 dX12_end_4 rfl rfl ?_
    refine g_aload_n 0 dX12_end_5 rfl rfl ?_
    refine g_getI dX12_end_6 fl12_132 c0 ?_
    refine g_icmp_le 14 dX12_end_9 (by decide) (fun q2 => ?_) (fun q2 => ?_)
    · refine g_aload_n 0 dX12_end_14 rfl rfl ?_
      refine g_iload_n 1 dX12_end_15 rfl rfl ?_
      refine g_putI dX12_end_16 fl12_132 (fun h => by cases h) c0 ?_
      refine g_iload_n 1 dX12_end_19 rfl rfl ?_
      exact g_iret dX12_end_20 rfl enSH (h2 q1 q2)
    · refine g_iconst (v := -1) dX12_end_12 (by decide) ?_
      exact g_iret dX12_end_13 rfl enSH (h3 q1 q2)
theorem bX12_wordOf_0 {X : pX} {Q : Option Value → pMem → Prop} {m : pMem} {x0 : Int32} (hW : Wf m)
    (h1 : x0 = 0 → Q (some (.retAddr 8)) m)
    (h2 : ¬ x0 = 0 → x0 = 1 → Q (some (.retAddr 9)) m)
    (h3 : ¬ x0 = 0 → ¬ x0 = 1 → x0 = 2 → Q (some (.retAddr 10)) m)
    (h4 : ¬ x0 = 0 → ¬ x0 = 1 → ¬ x0 = 2 → x0 = 3 → Q (some (.retAddr 11)) m)
    (h5 : ¬ x0 = 0 → ¬ x0 = 1 → ¬ x0 = 2 → ¬ x0 = 3 → x0 = 4 → Q (some (.retAddr 12)) m)
    (h6 : ¬ x0 = 0 → ¬ x0 = 1 → ¬ x0 = 2 → ¬ x0 = 3 → ¬ x0 = 4 → x0 = 5 → Q (some (.retAddr 13)) m)
    (h7 : ¬ x0 = 0 → ¬ x0 = 1 → ¬ x0 = 2 → ¬ x0 = 3 → ¬ x0 = 4 → ¬ x0 = 5 → x0 = 6 → Q (some (.retAddr 14)) m)
    (h8 : ¬ x0 = 0 → ¬ x0 = 1 → ¬ x0 = 2 → ¬ x0 = 3 → ¬ x0 = 4 → ¬ x0 = 5 → ¬ x0 = 6 → x0 = 7 → Q (some (.retAddr 15)) m)
    (h9 : ¬ x0 = 0 → ¬ x0 = 1 → ¬ x0 = 2 → ¬ x0 = 3 → ¬ x0 = 4 → ¬ x0 = 5 → ¬ x0 = 6 → ¬ x0 = 7 → x0 = 8 → Q (some (.retAddr 16)) m)
    (h10 : ¬ x0 = 0 → ¬ x0 = 1 → ¬ x0 = 2 → ¬ x0 = 3 → ¬ x0 = 4 → ¬ x0 = 5 → ¬ x0 = 6 → ¬ x0 = 7 → ¬ x0 = 8 → x0 = 9 → Q (some (.retAddr 17)) m)
    (h11 : ¬ x0 = 0 → ¬ x0 = 1 → ¬ x0 = 2 → ¬ x0 = 3 → ¬ x0 = 4 → ¬ x0 = 5 → ¬ x0 = 6 → ¬ x0 = 7 → ¬ x0 = 8 → ¬ x0 = 9 → x0 = 10 → Q (some (.retAddr 18)) m)
    (h12 : ¬ x0 = 0 → ¬ x0 = 1 → ¬ x0 = 2 → ¬ x0 = 3 → ¬ x0 = 4 → ¬ x0 = 5 → ¬ x0 = 6 → ¬ x0 = 7 → ¬ x0 = 8 → ¬ x0 = 9 → ¬ x0 = 10 → Q (some (.retAddr 19)) m) :
    Go X 0 mX12_wordOf Q 0 [(0, .int x0)] [] m := by
  refine g_iload_n 0 dX12_wordOf_0 rfl rfl ?_
  by_cases q1 : x0 = 0
  · refine g_tabIn 60 dX12_wordOf_1 (by rw [q1]; decide) (by rw [q1]; decide) (by rw [q1]; rfl) (by decide) ?_
    refine g_ldcS 7 (by decide) rfl rfl dX12_wordOf_60 ?_
    exact g_aret dX12_wordOf_62 rfl (Or.inl ⟨_, rfl⟩) (Or.inr (Or.inr ⟨_, rfl⟩)) enSH (h1 q1)
  by_cases q2 : x0 = 1
  · refine g_tabIn 63 dX12_wordOf_1 (by rw [q2]; decide) (by rw [q2]; decide) (by rw [q2]; rfl) (by decide) ?_
    refine g_ldcS 8 (by decide) rfl rfl dX12_wordOf_63 ?_
    exact g_aret dX12_wordOf_65 rfl (Or.inl ⟨_, rfl⟩) (Or.inr (Or.inr ⟨_, rfl⟩)) enSH (h2 q1 q2)
  by_cases q3 : x0 = 2
  · refine g_tabIn 66 dX12_wordOf_1 (by rw [q3]; decide) (by rw [q3]; decide) (by rw [q3]; rfl) (by decide) ?_
    refine g_ldcS 9 (by decide) rfl rfl dX12_wordOf_66 ?_
    exact g_aret dX12_wordOf_68 rfl (Or.inl ⟨_, rfl⟩) (Or.inr (Or.inr ⟨_, rfl⟩)) enSH (h3 q1 q2 q3)
  by_cases q4 : x0 = 3
  · refine g_tabIn 69 dX12_wordOf_1 (by rw [q4]; decide) (by rw [q4]; decide) (by rw [q4]; rfl) (by decide) ?_
    refine g_ldcS 10 (by decide) rfl rfl dX12_wordOf_69 ?_
    exact g_aret dX12_wordOf_71 rfl (Or.inl ⟨_, rfl⟩) (Or.inr (Or.inr ⟨_, rfl⟩)) enSH (h4 q1 q2 q3 q4)
  by_cases q5 : x0 = 4
  · refine g_tabIn 72 dX12_wordOf_1 (by rw [q5]; decide) (by rw [q5]; decide) (by rw [q5]; rfl) (by decide) ?_
    refine g_ldcS 11 (by decide) rfl rfl dX12_wordOf_72 ?_
    exact g_aret dX12_wordOf_74 rfl (Or.inl ⟨_, rfl⟩) (Or.inr (Or.inr ⟨_, rfl⟩)) enSH (h5 q1 q2 q3 q4 q5)
  by_cases q6 : x0 = 5
  · refine g_tabIn 75 dX12_wordOf_1 (by rw [q6]; decide) (by rw [q6]; decide) (by rw [q6]; rfl) (by decide) ?_
    refine g_ldcS 12 (by decide) rfl rfl dX12_wordOf_75 ?_
    exact g_aret dX12_wordOf_77 rfl (Or.inl ⟨_, rfl⟩) (Or.inr (Or.inr ⟨_, rfl⟩)) enSH (h6 q1 q2 q3 q4 q5 q6)
  by_cases q7 : x0 = 6
  · refine g_tabIn 78 dX12_wordOf_1 (by rw [q7]; decide) (by rw [q7]; decide) (by rw [q7]; rfl) (by decide) ?_
    refine g_ldcS 13 (by decide) rfl rfl dX12_wordOf_78 ?_
    exact g_aret dX12_wordOf_80 rfl (Or.inl ⟨_, rfl⟩) (Or.inr (Or.inr ⟨_, rfl⟩)) enSH (h7 q1 q2 q3 q4 q5 q6 q7)
  by_cases q8 : x0 = 7
  · refine g_tabIn 81 dX12_wordOf_1 (by rw [q8]; decide) (by rw [q8]; decide) (by rw [q8]; rfl) (by decide) ?_
    refine g_ldcS 14 (by decide) rfl rfl dX12_wordOf_81 ?_
    exact g_aret dX12_wordOf_83 rfl (Or.inl ⟨_, rfl⟩) (Or.inr (Or.inr ⟨_, rfl⟩)) enSH (h8 q1 q2 q3 q4 q5 q6 q7 q8)
  by_cases q9 : x0 = 8
  · refine g_tabIn 84 dX12_wordOf_1 (by rw [q9]; decide) (by rw [q9]; decide) (by rw [q9]; rfl) (by decide) ?_
    refine g_ldcS 15 (by decide) rfl rfl dX12_wordOf_84 ?_
    exact g_aret dX12_wordOf_86 rfl (Or.inl ⟨_, rfl⟩) (Or.inr (Or.inr ⟨_, rfl⟩)) enSH (h9 q1 q2 q3 q4 q5 q6 q7 q8 q9)
  by_cases q10 : x0 = 9
  · refine g_tabIn 87 dX12_wordOf_1 (by rw [q10]; decide) (by rw [q10]; decide) (by rw [q10]; rfl) (by decide) ?_
    refine g_ldcS 16 (by decide) rfl rfl dX12_wordOf_87 ?_
    exact g_aret dX12_wordOf_89 rfl (Or.inl ⟨_, rfl⟩) (Or.inr (Or.inr ⟨_, rfl⟩)) enSH (h10 q1 q2 q3 q4 q5 q6 q7 q8 q9 q10)
  by_cases q11 : x0 = 10
  · refine g_tabIn 90 dX12_wordOf_1 (by rw [q11]; decide) (by rw [q11]; decide) (by rw [q11]; rfl) (by decide) ?_
    refine g_ldcS 17 (by decide) rfl rfl dX12_wordOf_90 ?_
    exact g_aret dX12_wordOf_92 rfl (Or.inl ⟨_, rfl⟩) (Or.inr (Or.inr ⟨_, rfl⟩)) enSH (h11 q1 q2 q3 q4 q5 q6 q7 q8 q9 q10 q11)
  refine g_tabOut 93 dX12_wordOf_1 (p_tabD (fun k hk1 hk2 => ?_)) (by decide) ?_
  · have hk : k = 0 ∨ k = 1 ∨ k = 2 ∨ k = 3 ∨ k = 4 ∨ k = 5 ∨ k = 6 ∨ k = 7 ∨ k = 8 ∨ k = 9 ∨ k = 10 := by omega
    rcases hk with rfl | rfl | rfl | rfl | rfl | rfl | rfl | rfl | rfl | rfl | rfl
    · exact q1
    · exact q2
    · exact q3
    · exact q4
    · exact q5
    · exact q6
    · exact q7
    · exact q8
    · exact q9
    · exact q10
    · exact q11
  refine g_ldcS 18 (by decide) rfl rfl dX12_wordOf_93 ?_
  exact g_aret dX12_wordOf_95 rfl (Or.inl ⟨_, rfl⟩) (Or.inr (Or.inr ⟨_, rfl⟩)) enSH (h12 q1 q2 q3 q4 q5 q6 q7 q8 q9 q10 q11)
theorem bX12_fails_0 {X : pX} {Q : Option Value → pMem → Prop} {m : pMem} {a0 : Nat} {x1 : Int32} {x2 : Int32} (hW : Wf m) (c0 : SH[a0]? = some (.inl 12))
    (h1 : ¬ (mI m a0 21) = 0 → Q none (uI m a0 21 (mI m a0 21)))
    (h2 : (mI m a0 21) = 0 → Q none (uI m a0 21 (((1 : Int32) + ((8 : Int32) * x2)) + x1))) :
    Go X 0 mX12_fails Q 0 [(0, .ref a0), (1, .int x1), (2, .int x2)] [] m := by
  refine g_aload_n 0 dX12_fails_0 rfl rfl ?_
  refine g_aload_n 0 dX12_fails_1 rfl rfl ?_
  refine g_getI dX12_fails_2 fl12_160 c0 ?_
  refine g_if_ne 19 dX12_fails_5 (by decide) (fun q1 => ?_) (fun q1 => ?_)
  · refine g_aload_n 0 dX12_fails_19 rfl rfl ?_
    refine g_getI dX12_fails_20 fl12_160 c0 ?_
    refine g_putI dX12_fails_23 fl12_160 (fun h => by cases h) c0 ?_
    exact g_vret dX12_fails_26 rfl enSH (h1 q1)
  · refine g_iconst (v := 1) dX12_fails_8 (by decide) ?_
    refine g_bipush (v := 8) dX12_fails_9 (by decide) ?_
    refine g_iload_n 2 dX12_fails_11 rfl rfl ?_
    refine g_imul dX12_fails_12 ?_
    refine g_iadd dX12_fails_13 ?_
    refine g_iload_n 1 dX12_fails_14 rfl rfl ?_
    refine g_iadd dX12_fails_15 ?_
    refine g_goto 23 dX12_fails_16 (by decide) ?_
    refine g_putI dX12_fails_23 fl12_160 (fun h => by cases h) c0 ?_
    exact g_vret dX12_fails_26 rfl enSH (h2 q1)
theorem bX12_sign_0 {X : pX} {Q : Option Value → pMem → Prop} {m : pMem} {a0 : Nat} (hW : Wf m) (c0 : SH[a0]? = some (.inl 12))
    (h1 : (mI m a0 19) ≤ (mI m a0 20) → Q (some (.int (-1 : Int32))) m)
    (h2 : ¬ ((mI m a0 19) ≤ (mI m a0 20)) → vp_in (mI m a0 20) 400)
    (h3 : ¬ ((mI m a0 19) ≤ (mI m a0 20)) → Q (some (.int ((mI m (a0 + 19) ((mI m a0 20).toNatClampNeg)) &&& (255 : Int32)))) m) :
    Go X 0 mX12_sign Q 0 [(0, .ref a0)] [] m := by
  refine g_aload_n 0 dX12_sign_0 rfl rfl ?_
  refine g_getI dX12_sign_1 fl12_163 c0 ?_
  refine g_aload_n 0 dX12_sign_4 rfl rfl ?_
  refine g_getI dX12_sign_5 fl12_132 c0 ?_
  refine g_icmp_ge 27 dX12_sign_8 (by decide) (fun q1 => ?_) (fun q1 => ?_)
  · refine g_iconst (v := -1) dX12_sign_27 (by decide) ?_
    exact g_iret dX12_sign_28 rfl enSH (h1 q1)
  · refine g_aload_n 0 dX12_sign_11 rfl rfl ?_
    refine g_getR dX12_sign_12 fl12_68 rfl c0 (w12_29 hW c0) ?_
    refine g_aload_n 0 dX12_sign_15 rfl rfl ?_
    refine g_getI dX12_sign_16 fl12_163 c0 ?_
    refine g_bald (j := (mI m a0 20).toNatClampNeg) dX12_sign_19 (s12_29 c0) (h2 q1) rfl ?_
    refine g_sipush (v := 255) dX12_sign_20 (by decide) ?_
    refine g_iand dX12_sign_23 ?_
    refine g_goto 28 dX12_sign_24 (by decide) ?_
    exact g_iret dX12_sign_28 rfl enSH (h3 q1)
theorem bX12_blanks_0 {X : pX} {Q : Option Value → pMem → Prop} {m : pMem} {a0 : Nat} (hW : Wf m) (c0 : SH[a0]? = some (.inl 12))
    (h1 : Cl X 0 mX12_sign [.ref a0] m (fun v m2 => Go X 1 mX12_blanks Q 4 [(0, .ref a0)] (v.toList ++ []) m2)) :
    Go X 1 mX12_blanks Q 0 [(0, .ref a0)] [] m := by
  refine g_aload_n 0 dX12_blanks_0 rfl rfl ?_
  exact g_callV (As := []) (st := []) dX12_blanks_1 clX12_166 c0 rfl rfl (Nat.le_of_ble_eq_true rfl) (rmSH (by decide) (by decide)) h1
theorem bX12_blanks_4 {X : pX} {Q : Option Value → pMem → Prop} {m : pMem} {a0 : Nat} {xs0 : Int32} (hW : Wf m) (c0 : SH[a0]? = some (.inl 12))
    (h1 : ¬ xs0 = (32 : Int32) → Q none m)
    (h2 : xs0 = (32 : Int32) → Go X 1 mX12_blanks Q 0 [(0, .ref a0)] [] (uI m a0 20 ((mI m a0 20) + (1 : Int32)))) :
    Go X 1 mX12_blanks Q 4 [(0, .ref a0)] [.int xs0] m := by
  refine g_bipush (v := 32) dX12_blanks_4 (by decide) ?_
  refine g_icmp_ne 22 dX12_blanks_6 (by decide) (fun q1 => ?_) (fun q1 => ?_)
  · exact g_vret dX12_blanks_22 rfl enSH (h1 q1)
  · refine g_aload_n 0 dX12_blanks_9 rfl rfl ?_
    refine g_dup dX12_blanks_10 rfl ?_
    refine g_getI dX12_blanks_11 fl12_163 c0 ?_
    refine g_iconst (v := 1) dX12_blanks_14 (by decide) ?_
    refine g_iadd dX12_blanks_15 ?_
    refine g_putI dX12_blanks_16 fl12_163 (fun h => by cases h) c0 ?_
    refine g_goto 0 dX12_blanks_19 (by decide) ?_
    exact g_ls [0] rfl (h2 q1)
theorem bX12_isDigit_0 {X : pX} {Q : Option Value → pMem → Prop} {m : pMem} {a0 : Nat} (hW : Wf m) (c0 : SH[a0]? = some (.inl 12))
    (h1 : Cl X 0 mX12_sign [.ref a0] m (fun v m2 => Go X 1 mX12_isDigit Q 4 [(0, .ref a0)] (v.toList ++ []) m2)) :
    Go X 1 mX12_isDigit Q 0 [(0, .ref a0)] [] m := by
  refine g_aload_n 0 dX12_isDigit_0 rfl rfl ?_
  exact g_callV (As := []) (st := []) dX12_isDigit_1 clX12_166 c0 rfl rfl (Nat.le_of_ble_eq_true rfl) (rmSH (by decide) (by decide)) h1
theorem bX12_isDigit_4 {X : pX} {Q : Option Value → pMem → Prop} {m : pMem} {a0 : Nat} {xs0 : Int32} (hW : Wf m) (c0 : SH[a0]? = some (.inl 12))
    (h1 : Cl X 0 mX12_in [.long xs0.toInt64, .long (48 : Int64), .long (57 : Int64)] m (fun v m2 => Go X 1 mX12_isDigit Q 14 [(0, .ref a0)] (v.toList ++ []) m2)) :
    Go X 1 mX12_isDigit Q 4 [(0, .ref a0)] [.int xs0] m := by
  refine g_i2l dX12_isDigit_4 ?_
  refine g_ldc2 (v := 48) dX12_isDigit_5 cjX12_170 ?_
  refine g_ldc2 (v := 57) dX12_isDigit_8 cjX12_172 ?_
  exact g_callS (As := [.long xs0.toInt64, .long (48 : Int64), .long (57 : Int64)]) (st := []) dX12_isDigit_11 clX12_128 rfl rfl (Nat.le_of_ble_eq_true rfl) (rmSH (by decide) (by decide)) h1
theorem bX12_isDigit_14 {X : pX} {Q : Option Value → pMem → Prop} {m : pMem} {a0 : Nat} {xs0 : Int32} (hW : Wf m) (c0 : SH[a0]? = some (.inl 12))
    (h1 : xs0 = 0 ∨ xs0 = 1)
    (h2 : Q (some (.int xs0)) m) :
    Go X 1 mX12_isDigit Q 14 [(0, .ref a0)] [.int xs0] m := by
  exact g_bret dX12_isDigit_14 rfl h1 enSH h2
theorem bX12_stood_0 {X : pX} {Q : Option Value → pMem → Prop} {m : pMem} {a0 : Nat} {k1 : Nat} (hW : Wf m) (c0 : SH[a0]? = some (.inl 12))
    (h1 : Go X 5 mX12_stood Q 5 [(0, .ref a0), (1, .retAddr k1), (2, .int (mI m a0 20))] [] m) :
    Go X 5 mX12_stood Q 0 [(0, .ref a0), (1, .retAddr k1)] [] m := by
  refine g_aload_n 0 dX12_stood_0 rfl rfl ?_
  refine g_getI dX12_stood_1 fl12_163 c0 ?_
  refine g_istore_n (ls2 := [(2, .int (mI m a0 20)), (0, .ref a0), (1, .retAddr k1)]) dX12_stood_4 rfl (by decide) rfl ?_
  exact g_ls [1, 2, 0] rfl h1
theorem bX12_stood_5 {X : pX} {Q : Option Value → pMem → Prop} {m : pMem} {a0 : Nat} {k1 : Nat} {x2 : Int32} (hW : Wf m) (c0 : SH[a0]? = some (.inl 12))
    (h1 : (mI m a0 19) ≤ x2 → 1 ≤ k1 ∧ k1 ≤ 25)
    (h2 : (mI m a0 19) ≤ x2 → Cl X 1 mJ0_length_8abf5 [.retAddr k1] m (fun v m2 => Go X 5 mX12_stood Q 51 [(0, .ref a0), (1, .retAddr k1), (2, .int x2)] (v.toList ++ [.int (x2 - (mI m a0 20))]) m2))
    (h3 : ¬ ((mI m a0 19) ≤ x2) → vp_in x2 400)
    (h4 : ¬ ((mI m a0 19) ≤ x2) → (mI m (a0 + 19) x2.toNatClampNeg) < (97 : Int32) → 1 ≤ k1 ∧ k1 ≤ 25)
    (h5 : ¬ ((mI m a0 19) ≤ x2) → (mI m (a0 + 19) x2.toNatClampNeg) < (97 : Int32) → Cl X 1 mJ0_length_8abf5 [.retAddr k1] m (fun v m2 => Go X 5 mX12_stood Q 51 [(0, .ref a0), (1, .retAddr k1), (2, .int x2)] (v.toList ++ [.int (x2 - (mI m a0 20))]) m2))
    (h6 : ¬ ((mI m a0 19) ≤ x2) → ¬ ((mI m (a0 + 19) x2.toNatClampNeg) < (97 : Int32)) → vp_in x2 400)
    (h7 : ¬ ((mI m a0 19) ≤ x2) → ¬ ((mI m (a0 + 19) x2.toNatClampNeg) < (97 : Int32)) → (122 : Int32) < (mI m (a0 + 19) x2.toNatClampNeg) → 1 ≤ k1 ∧ k1 ≤ 25)
    (h8 : ¬ ((mI m a0 19) ≤ x2) → ¬ ((mI m (a0 + 19) x2.toNatClampNeg) < (97 : Int32)) → (122 : Int32) < (mI m (a0 + 19) x2.toNatClampNeg) → Cl X 1 mJ0_length_8abf5 [.retAddr k1] m (fun v m2 => Go X 5 mX12_stood Q 51 [(0, .ref a0), (1, .retAddr k1), (2, .int x2)] (v.toList ++ [.int (x2 - (mI m a0 20))]) m2))
    (h9 : ¬ ((mI m a0 19) ≤ x2) → ¬ ((mI m (a0 + 19) x2.toNatClampNeg) < (97 : Int32)) → ¬ ((122 : Int32) < (mI m (a0 + 19) x2.toNatClampNeg)) → Go X 5 mX12_stood Q 5 [(0, .ref a0), (1, .retAddr k1), (2, .int (x2 + (1 : Int32)))] [] m) :
    Go X 5 mX12_stood Q 5 [(0, .ref a0), (1, .retAddr k1), (2, .int x2)] [] m := by
  refine g_iload_n 2 dX12_stood_5 rfl rfl ?_
  refine g_aload_n 0 dX12_stood_6 rfl rfl ?_
  refine g_getI dX12_stood_7 fl12_132 c0 ?_
  refine g_icmp_ge 41 dX12_stood_10 (by decide) (fun q1 => ?_) (fun q1 => ?_)
  · refine g_iload_n 2 dX12_stood_41 rfl rfl ?_
    refine g_aload_n 0 dX12_stood_42 rfl rfl ?_
    refine g_getI dX12_stood_43 fl12_163 c0 ?_
    refine g_isub dX12_stood_46 ?_
    refine g_aload_nO 1 dX12_stood_47 rfl rfl ?_
    exact g_callVO (As := []) (st := [.int (x2 - (mI m a0 20))]) dX12_stood_48 coX12_174 rfl (h1 q1) rfl rfl (Nat.le_of_ble_eq_true rfl) (rmSH (by decide) (by decide)) (h2 q1)
  · refine g_aload_n 0 dX12_stood_13 rfl rfl ?_
    refine g_getR dX12_stood_14 fl12_68 rfl c0 (w12_29 hW c0) ?_
    refine g_iload_n 2 dX12_stood_17 rfl rfl ?_
    refine g_bald (j := x2.toNatClampNeg) dX12_stood_18 (s12_29 c0) (h3 q1) rfl ?_
    refine g_bipush (v := 97) dX12_stood_19 (by decide) ?_
    refine g_icmp_lt 41 dX12_stood_21 (by decide) (fun q2 => ?_) (fun q2 => ?_)
    · refine g_iload_n 2 dX12_stood_41 rfl rfl ?_
      refine g_aload_n 0 dX12_stood_42 rfl rfl ?_
      refine g_getI dX12_stood_43 fl12_163 c0 ?_
      refine g_isub dX12_stood_46 ?_
      refine g_aload_nO 1 dX12_stood_47 rfl rfl ?_
      exact g_callVO (As := []) (st := [.int (x2 - (mI m a0 20))]) dX12_stood_48 coX12_174 rfl (h4 q1 q2) rfl rfl (Nat.le_of_ble_eq_true rfl) (rmSH (by decide) (by decide)) (h5 q1 q2)
    · refine g_aload_n 0 dX12_stood_24 rfl rfl ?_
      refine g_getR dX12_stood_25 fl12_68 rfl c0 (w12_29 hW c0) ?_
      refine g_iload_n 2 dX12_stood_28 rfl rfl ?_
      refine g_bald (j := x2.toNatClampNeg) dX12_stood_29 (s12_29 c0) (h6 q1 q2) rfl ?_
      refine g_bipush (v := 122) dX12_stood_30 (by decide) ?_
      refine g_icmp_gt 41 dX12_stood_32 (by decide) (fun q3 => ?_) (fun q3 => ?_)
      · refine g_iload_n 2 dX12_stood_41 rfl rfl ?_
        refine g_aload_n 0 dX12_stood_42 rfl rfl ?_
        refine g_getI dX12_stood_43 fl12_163 c0 ?_
        refine g_isub dX12_stood_46 ?_
        refine g_aload_nO 1 dX12_stood_47 rfl rfl ?_
        exact g_callVO (As := []) (st := [.int (x2 - (mI m a0 20))]) dX12_stood_48 coX12_174 rfl (h7 q1 q2 q3) rfl rfl (Nat.le_of_ble_eq_true rfl) (rmSH (by decide) (by decide)) (h8 q1 q2 q3)
      · refine g_iinc (v := x2 + (1 : Int32)) (ls2 := [(2, .int (x2 + (1 : Int32))), (0, .ref a0), (1, .retAddr k1)]) 2 dX12_stood_35 rfl rfl (by decide) rfl ?_
        refine g_goto 5 dX12_stood_38 (by decide) ?_
        exact g_ls [1, 2, 0] rfl (h9 q1 q2 q3)
theorem bX12_stood_51 {X : pX} {Q : Option Value → pMem → Prop} {m : pMem} {a0 : Nat} {k1 : Nat} {x2 : Int32} {xs0 : Int32} {xs1 : Int32} (hW : Wf m) (c0 : SH[a0]? = some (.inl 12))
    (h1 : ¬ xs1 = xs0 → Go X 5 mX12_stood Q 63 [(0, .ref a0), (1, .retAddr k1), (3, .int (0 : Int32)), (4, .int (0 : Int32))] [] m)
    (h2 : xs1 = xs0 → Go X 5 mX12_stood Q 63 [(0, .ref a0), (1, .retAddr k1), (3, .int (1 : Int32)), (4, .int (0 : Int32))] [] m) :
    Go X 5 mX12_stood Q 51 [(0, .ref a0), (1, .retAddr k1), (2, .int x2)] [.int xs0, .int xs1] m := by
  refine g_icmp_ne 58 dX12_stood_51 (by decide) (fun q1 => ?_) (fun q1 => ?_)
  · refine g_iconst (v := 0) dX12_stood_58 (by decide) ?_
    refine g_istore_n (ls2 := [(3, .int (0 : Int32)), (0, .ref a0), (1, .retAddr k1), (2, .int x2)]) dX12_stood_59 rfl (by decide) rfl ?_
    refine g_iconst (v := 0) dX12_stood_60 (by decide) ?_
    refine g_istore (ls2 := [(4, .int (0 : Int32)), (3, .int (0 : Int32)), (0, .ref a0), (1, .retAddr k1), (2, .int x2)]) dX12_stood_61 (by decide) rfl ?_
    exact g_ls [2, 3, 1, 0] rfl (h1 q1)
  · refine g_iconst (v := 1) dX12_stood_54 (by decide) ?_
    refine g_goto 59 dX12_stood_55 (by decide) ?_
    refine g_istore_n (ls2 := [(3, .int (1 : Int32)), (0, .ref a0), (1, .retAddr k1), (2, .int x2)]) dX12_stood_59 rfl (by decide) rfl ?_
    refine g_iconst (v := 0) dX12_stood_60 (by decide) ?_
    refine g_istore (ls2 := [(4, .int (0 : Int32)), (3, .int (1 : Int32)), (0, .ref a0), (1, .retAddr k1), (2, .int x2)]) dX12_stood_61 (by decide) rfl ?_
    exact g_ls [2, 3, 1, 0] rfl (h2 q1)
theorem bX12_stood_63 {X : pX} {Q : Option Value → pMem → Prop} {m : pMem} {a0 : Nat} {k1 : Nat} {x3 : Int32} {x4 : Int32} (hW : Wf m) (c0 : SH[a0]? = some (.inl 12))
    (h1 : 1 ≤ k1 ∧ k1 ≤ 25)
    (h2 : Cl X 1 mJ0_length_8abf5 [.retAddr k1] m (fun v m2 => Go X 5 mX12_stood Q 69 [(0, .ref a0), (1, .retAddr k1), (3, .int x3), (4, .int x4)] (v.toList ++ [.int x4]) m2)) :
    Go X 5 mX12_stood Q 63 [(0, .ref a0), (1, .retAddr k1), (3, .int x3), (4, .int x4)] [] m := by
  refine g_iload 3 dX12_stood_63 rfl ?_
  refine g_aload_nO 1 dX12_stood_65 rfl rfl ?_
  exact g_callVO (As := []) (st := [.int x4]) dX12_stood_66 coX12_174 rfl h1 rfl rfl (Nat.le_of_ble_eq_true rfl) (rmSH (by decide) (by decide)) h2
theorem bX12_stood_69 {X : pX} {Q : Option Value → pMem → Prop} {m : pMem} {a0 : Nat} {k1 : Nat} {x3 : Int32} {x4 : Int32} {xs0 : Int32} {xs1 : Int32} (hW : Wf m) (c0 : SH[a0]? = some (.inl 12))
    (h1 : xs0 ≤ xs1 → x3 = 0 ∨ x3 = 1)
    (h2 : xs0 ≤ xs1 → Q (some (.int x3)) m)
    (h3 : ¬ (xs0 ≤ xs1) → x3 = 0 → x3 = 0 ∨ x3 = 1)
    (h4 : ¬ (xs0 ≤ xs1) → x3 = 0 → Q (some (.int x3)) m)
    (h5 : ¬ (xs0 ≤ xs1) → ¬ (x3 = 0) → vp_in ((mI m a0 20) + x4) 400)
    (h6 : ¬ (xs0 ≤ xs1) → ¬ (x3 = 0) → 1 ≤ k1 ∧ k1 ≤ 25)
    (h7 : ¬ (xs0 ≤ xs1) → ¬ (x3 = 0) → Cl X 4 mJ0_charAt_5068e [.retAddr k1, .int x4] m (fun v m2 => Go X 5 mX12_stood Q 94 [(0, .ref a0), (1, .retAddr k1), (3, .int x3), (4, .int x4)] (v.toList ++ [.int (mI m (a0 + 19) (((mI m a0 20) + x4).toNatClampNeg))]) m2)) :
    Go X 5 mX12_stood Q 69 [(0, .ref a0), (1, .retAddr k1), (3, .int x3), (4, .int x4)] [.int xs0, .int xs1] m := by
  refine g_icmp_ge 109 dX12_stood_69 (by decide) (fun q1 => ?_) (fun q1 => ?_)
  · refine g_iload_n 2 dX12_stood_109 rfl rfl ?_
    exact g_bret dX12_stood_110 rfl (h1 q1) enSH (h2 q1)
  · refine g_iload_n 2 dX12_stood_72 rfl rfl ?_
    refine g_if_eq 109 dX12_stood_73 (by decide) (fun q2 => ?_) (fun q2 => ?_)
    · refine g_iload_n 2 dX12_stood_109 rfl rfl ?_
      exact g_bret dX12_stood_110 rfl (h3 q1 q2) enSH (h4 q1 q2)
    · refine g_aload_n 0 dX12_stood_76 rfl rfl ?_
      refine g_getR dX12_stood_77 fl12_68 rfl c0 (w12_29 hW c0) ?_
      refine g_aload_n 0 dX12_stood_80 rfl rfl ?_
      refine g_getI dX12_stood_81 fl12_163 c0 ?_
      refine g_iload 3 dX12_stood_84 rfl ?_
      refine g_iadd dX12_stood_86 ?_
      refine g_bald (j := ((mI m a0 20) + x4).toNatClampNeg) dX12_stood_87 (s12_29 c0) (h5 q1 q2) rfl ?_
      refine g_aload_nO 1 dX12_stood_88 rfl rfl ?_
      refine g_iload 3 dX12_stood_89 rfl ?_
      exact g_callVO (As := [.int x4]) (st := [.int (mI m (a0 + 19) (((mI m a0 20) + x4).toNatClampNeg))]) dX12_stood_91 coX12_179 rfl (h6 q1 q2) rfl rfl (Nat.le_of_ble_eq_true rfl) (rmSH (by decide) (by decide)) (h7 q1 q2)
theorem bX12_stood_94 {X : pX} {Q : Option Value → pMem → Prop} {m : pMem} {a0 : Nat} {k1 : Nat} {x3 : Int32} {x4 : Int32} {xs0 : Int32} {xs1 : Int32} (hW : Wf m) (c0 : SH[a0]? = some (.inl 12))
    (h1 : ¬ xs1 = xs0 → Go X 5 mX12_stood Q 63 [(0, .ref a0), (1, .retAddr k1), (3, .int (0 : Int32)), (4, .int (x4 + (1 : Int32)))] [] m)
    (h2 : xs1 = xs0 → Go X 5 mX12_stood Q 63 [(0, .ref a0), (1, .retAddr k1), (3, .int (1 : Int32)), (4, .int (x4 + (1 : Int32)))] [] m) :
    Go X 5 mX12_stood Q 94 [(0, .ref a0), (1, .retAddr k1), (3, .int x3), (4, .int x4)] [.int xs0, .int xs1] m := by
  refine g_icmp_ne 101 dX12_stood_94 (by decide) (fun q1 => ?_) (fun q1 => ?_)
  · refine g_iconst (v := 0) dX12_stood_101 (by decide) ?_
    refine g_istore_n (ls2 := [(3, .int (0 : Int32)), (0, .ref a0), (1, .retAddr k1), (4, .int x4)]) dX12_stood_102 rfl (by decide) rfl ?_
    refine g_iinc (v := x4 + (1 : Int32)) (ls2 := [(4, .int (x4 + (1 : Int32))), (3, .int (0 : Int32)), (0, .ref a0), (1, .retAddr k1)]) 3 dX12_stood_103 rfl rfl (by decide) rfl ?_
    refine g_goto 63 dX12_stood_106 (by decide) ?_
    exact g_ls [2, 3, 1, 0] rfl (h1 q1)
  · refine g_iconst (v := 1) dX12_stood_97 (by decide) ?_
    refine g_goto 102 dX12_stood_98 (by decide) ?_
    refine g_istore_n (ls2 := [(3, .int (1 : Int32)), (0, .ref a0), (1, .retAddr k1), (4, .int x4)]) dX12_stood_102 rfl (by decide) rfl ?_
    refine g_iinc (v := x4 + (1 : Int32)) (ls2 := [(4, .int (x4 + (1 : Int32))), (3, .int (1 : Int32)), (0, .ref a0), (1, .retAddr k1)]) 3 dX12_stood_103 rfl rfl (by decide) rfl ?_
    refine g_goto 63 dX12_stood_106 (by decide) ?_
    exact g_ls [2, 3, 1, 0] rfl (h2 q1)
theorem bX12_takes_0 {X : pX} {Q : Option Value → pMem → Prop} {m : pMem} {a0 : Nat} {k1 : Nat} (hW : Wf m) (c0 : SH[a0]? = some (.inl 12))
    (h1 : Cl X 1 mX12_blanks [.ref a0] m (fun v m2 => Go X 6 mX12_takes Q 4 [(0, .ref a0), (1, .retAddr k1)] (v.toList ++ []) m2)) :
    Go X 6 mX12_takes Q 0 [(0, .ref a0), (1, .retAddr k1)] [] m := by
  refine g_aload_n 0 dX12_takes_0 rfl rfl ?_
  exact g_callV (As := []) (st := []) dX12_takes_1 clX12_183 c0 rfl rfl (Nat.le_of_ble_eq_true rfl) (rmSH (by decide) (by decide)) h1
theorem bX12_takes_4 {X : pX} {Q : Option Value → pMem → Prop} {m : pMem} {a0 : Nat} {k1 : Nat} (hW : Wf m) (c0 : SH[a0]? = some (.inl 12))
    (h1 : Cl X 5 mX12_stood [.ref a0, .retAddr k1] m (fun v m2 => Go X 6 mX12_takes Q 9 [(0, .ref a0), (1, .retAddr k1)] (v.toList ++ []) m2)) :
    Go X 6 mX12_takes Q 4 [(0, .ref a0), (1, .retAddr k1)] [] m := by
  refine g_aload_n 0 dX12_takes_4 rfl rfl ?_
  refine g_aload_nO 1 dX12_takes_5 rfl rfl ?_
  exact g_callV (As := [.retAddr k1]) (st := []) dX12_takes_6 clX12_186 c0 rfl rfl (Nat.le_of_ble_eq_true rfl) (rmSH (by decide) (by decide)) h1
theorem bX12_takes_9 {X : pX} {Q : Option Value → pMem → Prop} {m : pMem} {a0 : Nat} {k1 : Nat} {xs0 : Int32} (hW : Wf m) (c0 : SH[a0]? = some (.inl 12))
    (h1 : xs0 = 0 → xs0 = 0 ∨ xs0 = 1)
    (h2 : xs0 = 0 → Q (some (.int xs0)) (uI m a0 20 ((mI m a0 20) + (0 : Int32))))
    (h3 : ¬ (xs0 = 0) → 1 ≤ k1 ∧ k1 ≤ 25)
    (h4 : ¬ (xs0 = 0) → Cl X 1 mJ0_length_8abf5 [.retAddr k1] m (fun v m2 => Go X 6 mX12_takes Q 23 [(0, .ref a0), (1, .retAddr k1), (2, .int xs0)] (v.toList ++ [.int (mI m a0 20), .ref a0]) m2)) :
    Go X 6 mX12_takes Q 9 [(0, .ref a0), (1, .retAddr k1)] [.int xs0] m := by
  refine g_istore_n (ls2 := [(2, .int xs0), (0, .ref a0), (1, .retAddr k1)]) dX12_takes_9 rfl (by decide) rfl ?_
  refine g_aload_n 1 dX12_takes_10 rfl rfl ?_
  refine g_dup dX12_takes_11 rfl ?_
  refine g_getI dX12_takes_12 fl12_163 c0 ?_
  refine g_iload_n 0 dX12_takes_15 rfl rfl ?_
  refine g_if_eq 26 dX12_takes_16 (by decide) (fun q1 => ?_) (fun q1 => ?_)
  · refine g_iconst (v := 0) dX12_takes_26 (by decide) ?_
    refine g_iadd dX12_takes_27 ?_
    refine g_putI dX12_takes_28 fl12_163 (fun h => by cases h) c0 ?_
    refine g_iload_n 0 dX12_takes_31 rfl rfl ?_
    exact g_bret dX12_takes_32 rfl (h1 q1) enSH (h2 q1)
  · refine g_aload_nO 2 dX12_takes_19 rfl rfl ?_
    refine g_ls [1, 2, 0] (ls2 := [(0, .ref a0), (1, .retAddr k1), (2, .int xs0)]) rfl ?_
    exact g_callVO (As := []) (st := [.int (mI m a0 20), .ref a0]) dX12_takes_20 coX12_174 rfl (h3 q1) rfl rfl (Nat.le_of_ble_eq_true rfl) (rmSH (by decide) (by decide)) (h4 q1)
theorem bX12_takes_23 {X : pX} {Q : Option Value → pMem → Prop} {m : pMem} {a0 : Nat} {k1 : Nat} {x2 : Int32} {xs0 : Int32} {xs1 : Int32} {as2 : Nat} (hW : Wf m) (c0 : SH[a0]? = some (.inl 12)) (cs2 : SH[as2]? = some (.inl 12))
    (h1 : x2 = 0 ∨ x2 = 1)
    (h2 : Q (some (.int x2)) (uI m as2 20 (xs1 + xs0))) :
    Go X 6 mX12_takes Q 23 [(0, .ref a0), (1, .retAddr k1), (2, .int x2)] [.int xs0, .int xs1, .ref as2] m := by
  refine g_goto 27 dX12_takes_23 (by decide) ?_
  refine g_iadd dX12_takes_27 ?_
  refine g_putI dX12_takes_28 fl12_163 (fun h => by cases h) cs2 ?_
  refine g_iload_n 2 dX12_takes_31 rfl rfl ?_
  exact g_bret dX12_takes_32 rfl h1 enSH h2
theorem bX12_entry_0 {X : pX} {Q : Option Value → pMem → Prop} {m : pMem} {a0 : Nat} {x1 : Int32} {x2 : Int32} (hW : Wf m) (c0 : SH[a0]? = some (.inl 12))
    (h1 : ¬ (mI m a0 21) = 0 → Q none m)
    (h2 : (mI m a0 21) = 0 → vp_in (((300 : Int32) * (mI m a0 22)) + (mI m a0 24)) 1800)
    (h3 : (mI m a0 21) = 0 → vp_in (((300 : Int32) * (mI (uI m (a0 + 20) ((((300 : Int32) * (mI m a0 22)) + (mI m a0 24)).toNatClampNeg) x1) a0 22)) + (mI (uI m (a0 + 20) ((((300 : Int32) * (mI m a0 22)) + (mI m a0 24)).toNatClampNeg) x1) a0 24)) 1800)
    (h4 : (mI m a0 21) = 0 → Q none (uI (uI (uI m (a0 + 20) ((((300 : Int32) * (mI m a0 22)) + (mI m a0 24)).toNatClampNeg) x1) (a0 + 21) ((((300 : Int32) * (mI (uI m (a0 + 20) ((((300 : Int32) * (mI m a0 22)) + (mI m a0 24)).toNatClampNeg) x1) a0 22)) + (mI (uI m (a0 + 20) ((((300 : Int32) * (mI m a0 22)) + (mI m a0 24)).toNatClampNeg) x1) a0 24)).toNatClampNeg) x2) a0 24 ((mI (uI (uI m (a0 + 20) ((((300 : Int32) * (mI m a0 22)) + (mI m a0 24)).toNatClampNeg) x1) (a0 + 21) ((((300 : Int32) * (mI (uI m (a0 + 20) ((((300 : Int32) * (mI m a0 22)) + (mI m a0 24)).toNatClampNeg) x1) a0 22)) + (mI (uI m (a0 + 20) ((((300 : Int32) * (mI m a0 22)) + (mI m a0 24)).toNatClampNeg) x1) a0 24)).toNatClampNeg) x2) a0 24) + (1 : Int32)))) :
    Go X 0 mX12_entry Q 0 [(0, .ref a0), (1, .int x1), (2, .int x2)] [] m := by
  refine g_aload_n 0 dX12_entry_0 rfl rfl ?_
  refine g_getI dX12_entry_1 fl12_160 c0 ?_
  refine g_if_ne 55 dX12_entry_4 (by decide) (fun q1 => ?_) (fun q1 => ?_)
  · exact g_vret dX12_entry_55 rfl enSH (h1 q1)
  · refine g_aload_n 0 dX12_entry_7 rfl rfl ?_
    refine g_getR dX12_entry_8 fl12_72 rfl c0 (w12_30 hW c0) ?_
    refine g_sipush (v := 300) dX12_entry_11 (by decide) ?_
    refine g_aload_n 0 dX12_entry_14 rfl rfl ?_
    refine g_getI dX12_entry_15 fl12_190 c0 ?_
    refine g_imul dX12_entry_18 ?_
    refine g_aload_n 0 dX12_entry_19 rfl rfl ?_
    refine g_getI dX12_entry_20 fl12_193 c0 ?_
    refine g_iadd dX12_entry_23 ?_
    refine g_iload_n 1 dX12_entry_24 rfl rfl ?_
    refine g_iast (j := (((300 : Int32) * (mI m a0 22)) + (mI m a0 24)).toNatClampNeg) dX12_entry_25 (s12_30 c0) (h2 q1) rfl ?_
    refine g_aload_n 0 dX12_entry_26 rfl rfl ?_
    refine g_getR dX12_entry_27 fl12_75 rfl c0 (w12_31 hW c0) ?_
    refine g_sipush (v := 300) dX12_entry_30 (by decide) ?_
    refine g_aload_n 0 dX12_entry_33 rfl rfl ?_
    refine g_getI dX12_entry_34 fl12_190 c0 ?_
    refine g_imul dX12_entry_37 ?_
    refine g_aload_n 0 dX12_entry_38 rfl rfl ?_
    refine g_getI dX12_entry_39 fl12_193 c0 ?_
    refine g_iadd dX12_entry_42 ?_
    refine g_iload_n 2 dX12_entry_43 rfl rfl ?_
    refine g_iast (j := (((300 : Int32) * (mI (uI m (a0 + 20) ((((300 : Int32) * (mI m a0 22)) + (mI m a0 24)).toNatClampNeg) x1) a0 22)) + (mI (uI m (a0 + 20) ((((300 : Int32) * (mI m a0 22)) + (mI m a0 24)).toNatClampNeg) x1) a0 24)).toNatClampNeg) dX12_entry_44 (s12_31 c0) (h3 q1) rfl ?_
    refine g_aload_n 0 dX12_entry_45 rfl rfl ?_
    refine g_dup dX12_entry_46 rfl ?_
    refine g_getI dX12_entry_47 fl12_193 c0 ?_
    refine g_iconst (v := 1) dX12_entry_50 (by decide) ?_
    refine g_iadd dX12_entry_51 ?_
    refine g_putI dX12_entry_52 fl12_193 (fun h => by cases h) c0 ?_
    exact g_vret dX12_entry_55 rfl enSH (h4 q1)
theorem bX12_isCounted_0 {X : pX} {Q : Option Value → pMem → Prop} {m : pMem} {a0 : Nat} {x1 : Int32} (hW : Wf m) (c0 : SH[a0]? = some (.inl 12))
    (h1 : ¬ (mI m a0 26) = (60 : Int32) → Q none (uI m a0 26 ((mI m a0 26) + (1 : Int32))))
    (h2 : (mI m a0 26) = (60 : Int32) → Cl X 0 mX12_fails [.ref a0, .int (3 : Int32), .int x1] m (fun v m2 => Go X 1 mX12_isCounted Q 15 [(0, .ref a0), (1, .int x1)] (v.toList ++ []) m2)) :
    Go X 1 mX12_isCounted Q 0 [(0, .ref a0), (1, .int x1)] [] m := by
  refine g_aload_n 0 dX12_isCounted_0 rfl rfl ?_
  refine g_getI dX12_isCounted_1 fl12_196 c0 ?_
  refine g_bipush (v := 60) dX12_isCounted_4 (by decide) ?_
  refine g_icmp_ne 15 dX12_isCounted_6 (by decide) (fun q1 => ?_) (fun q1 => ?_)
  · refine g_aload_n 0 dX12_isCounted_15 rfl rfl ?_
    refine g_dup dX12_isCounted_16 rfl ?_
    refine g_getI dX12_isCounted_17 fl12_196 c0 ?_
    refine g_iconst (v := 1) dX12_isCounted_20 (by decide) ?_
    refine g_iadd dX12_isCounted_21 ?_
    refine g_putI dX12_isCounted_22 fl12_196 (fun h => by cases h) c0 ?_
    exact g_vret dX12_isCounted_25 rfl enSH (h1 q1)
  · refine g_aload_n 0 dX12_isCounted_9 rfl rfl ?_
    refine g_iconst (v := 3) dX12_isCounted_10 (by decide) ?_
    refine g_iload_n 1 dX12_isCounted_11 rfl rfl ?_
    exact g_callV (As := [.int (3 : Int32), .int x1]) (st := []) dX12_isCounted_12 clX12_199 c0 rfl rfl (Nat.le_of_ble_eq_true rfl) (rmSH (by decide) (by decide)) (h2 q1)
theorem bX12_isCounted_15 {X : pX} {Q : Option Value → pMem → Prop} {m : pMem} {a0 : Nat} {x1 : Int32} (hW : Wf m) (c0 : SH[a0]? = some (.inl 12))
    (h1 : Q none (uI m a0 26 ((mI m a0 26) + (1 : Int32)))) :
    Go X 1 mX12_isCounted Q 15 [(0, .ref a0), (1, .int x1)] [] m := by
  refine g_aload_n 0 dX12_isCounted_15 rfl rfl ?_
  refine g_dup dX12_isCounted_16 rfl ?_
  refine g_getI dX12_isCounted_17 fl12_196 c0 ?_
  refine g_iconst (v := 1) dX12_isCounted_20 (by decide) ?_
  refine g_iadd dX12_isCounted_21 ?_
  refine g_putI dX12_isCounted_22 fl12_196 (fun h => by cases h) c0 ?_
  exact g_vret dX12_isCounted_25 rfl enSH h1
theorem bX12_digits_0 {X : pX} {Q : Option Value → pMem → Prop} {m : pMem} {a0 : Nat} {x1 : Int32} (hW : Wf m) (c0 : SH[a0]? = some (.inl 12))
    (h1 : Cl X 1 mX12_isDigit [.ref a0] m (fun v m2 => Go X 2 mX12_digits Q 4 [(0, .ref a0), (1, .int x1)] (v.toList ++ []) m2)) :
    Go X 2 mX12_digits Q 0 [(0, .ref a0), (1, .int x1)] [] m := by
  refine g_aload_n 0 dX12_digits_0 rfl rfl ?_
  exact g_callV (As := []) (st := []) dX12_digits_1 clX12_203 c0 rfl rfl (Nat.le_of_ble_eq_true rfl) (rmSH (by decide) (by decide)) h1
theorem bX12_digits_4 {X : pX} {Q : Option Value → pMem → Prop} {m : pMem} {a0 : Nat} {x1 : Int32} {xs0 : Int32} (hW : Wf m) (c0 : SH[a0]? = some (.inl 12))
    (h1 : ¬ xs0 = 0 → Go X 2 mX12_digits Q 25 [(0, .ref a0), (1, .int x1), (2, .int (mI m a0 20)), (3, .int (0 : Int32))] [] m)
    (h2 : xs0 = 0 → Cl X 0 mX12_fails [.ref a0, .int (0 : Int32), .int (mI m a0 20)] m (fun v m2 => Go X 2 mX12_digits Q 16 [(0, .ref a0), (1, .int x1)] (v.toList ++ []) m2)) :
    Go X 2 mX12_digits Q 4 [(0, .ref a0), (1, .int x1)] [.int xs0] m := by
  refine g_if_ne 18 dX12_digits_4 (by decide) (fun q1 => ?_) (fun q1 => ?_)
  · refine g_aload_n 0 dX12_digits_18 rfl rfl ?_
    refine g_getI dX12_digits_19 fl12_163 c0 ?_
    refine g_istore_n (ls2 := [(2, .int (mI m a0 20)), (0, .ref a0), (1, .int x1)]) dX12_digits_22 rfl (by decide) rfl ?_
    refine g_iconst (v := 0) dX12_digits_23 (by decide) ?_
    refine g_istore_n (ls2 := [(3, .int (0 : Int32)), (2, .int (mI m a0 20)), (0, .ref a0), (1, .int x1)]) dX12_digits_24 rfl (by decide) rfl ?_
    exact g_ls [2, 3, 1, 0] rfl (h1 q1)
  · refine g_aload_n 0 dX12_digits_7 rfl rfl ?_
    refine g_iconst (v := 0) dX12_digits_8 (by decide) ?_
    refine g_aload_n 0 dX12_digits_9 rfl rfl ?_
    refine g_getI dX12_digits_10 fl12_163 c0 ?_
    exact g_callV (As := [.int (0 : Int32), .int (mI m a0 20)]) (st := []) dX12_digits_13 clX12_199 c0 rfl rfl (Nat.le_of_ble_eq_true rfl) (rmSH (by decide) (by decide)) (h2 q1)
theorem bX12_digits_25 {X : pX} {Q : Option Value → pMem → Prop} {m : pMem} {a0 : Nat} {x1 : Int32} {x2 : Int32} {x3 : Int32} (hW : Wf m) (c0 : SH[a0]? = some (.inl 12))
    (h1 : Cl X 1 mX12_isDigit [.ref a0] m (fun v m2 => Go X 2 mX12_digits Q 29 [(0, .ref a0), (1, .int x1), (2, .int x2), (3, .int x3)] (v.toList ++ []) m2)) :
    Go X 2 mX12_digits Q 25 [(0, .ref a0), (1, .int x1), (2, .int x2), (3, .int x3)] [] m := by
  refine g_aload_n 0 dX12_digits_25 rfl rfl ?_
  exact g_callV (As := []) (st := []) dX12_digits_26 clX12_203 c0 rfl rfl (Nat.le_of_ble_eq_true rfl) (rmSH (by decide) (by decide)) h1
theorem bX12_digits_16 {X : pX} {Q : Option Value → pMem → Prop} {m : pMem} {a0 : Nat} {x1 : Int32} (hW : Wf m) (c0 : SH[a0]? = some (.inl 12))
    (h1 : Q (some (.int (0 : Int32))) m) :
    Go X 2 mX12_digits Q 16 [(0, .ref a0), (1, .int x1)] [] m := by
  refine g_iconst (v := 0) dX12_digits_16 (by decide) ?_
  exact g_iret dX12_digits_17 rfl enSH h1
theorem bX12_digits_29 {X : pX} {Q : Option Value → pMem → Prop} {m : pMem} {a0 : Nat} {x1 : Int32} {x2 : Int32} {x3 : Int32} {xs0 : Int32} (hW : Wf m) (c0 : SH[a0]? = some (.inl 12))
    (h1 : xs0 = 0 → (5 : Int32) < ((mI m a0 20) - x2) → Cl X 0 mX12_fails [.ref a0, .int (1 : Int32), .int x2] m (fun v m2 => Go X 2 mX12_digits Q 93 [(0, .ref a0), (1, .int x1), (2, .int x2), (3, .int x3)] (v.toList ++ []) m2))
    (h2 : xs0 = 0 → ¬ ((5 : Int32) < ((mI m a0 20) - x2)) → x3 ≤ x1 → Q (some (.int x3)) m)
    (h3 : xs0 = 0 → ¬ ((5 : Int32) < ((mI m a0 20) - x2)) → ¬ (x3 ≤ x1) → Cl X 0 mX12_fails [.ref a0, .int (1 : Int32), .int x2] m (fun v m2 => Go X 2 mX12_digits Q 93 [(0, .ref a0), (1, .int x1), (2, .int x2), (3, .int x3)] (v.toList ++ []) m2))
    (h4 : ¬ (xs0 = 0) → (5 : Int32) ≤ ((mI m a0 20) - x2) → Go X 2 mX12_digits Q 25 [(0, .ref a0), (1, .int x1), (2, .int x2), (3, .int x3)] [] (uI m a0 20 ((mI m a0 20) + (1 : Int32))))
    (h5 : ¬ (xs0 = 0) → ¬ ((5 : Int32) ≤ ((mI m a0 20) - x2)) → Cl X 0 mX12_sign [.ref a0] m (fun v m2 => Go X 2 mX12_digits Q 50 [(0, .ref a0), (1, .int x1), (2, .int x2), (3, .int x3)] (v.toList ++ [.int ((10 : Int32) * x3)]) m2)) :
    Go X 2 mX12_digits Q 29 [(0, .ref a0), (1, .int x1), (2, .int x2), (3, .int x3)] [.int xs0] m := by
  refine g_if_eq 72 dX12_digits_29 (by decide) (fun q1 => ?_) (fun q1 => ?_)
  · refine g_aload_n 0 dX12_digits_72 rfl rfl ?_
    refine g_getI dX12_digits_73 fl12_163 c0 ?_
    refine g_iload_n 2 dX12_digits_76 rfl rfl ?_
    refine g_isub dX12_digits_77 ?_
    refine g_iconst (v := 5) dX12_digits_78 (by decide) ?_
    refine g_icmp_gt 87 dX12_digits_79 (by decide) (fun q2 => ?_) (fun q2 => ?_)
    · refine g_aload_n 0 dX12_digits_87 rfl rfl ?_
      refine g_iconst (v := 1) dX12_digits_88 (by decide) ?_
      refine g_iload_n 2 dX12_digits_89 rfl rfl ?_
      exact g_callV (As := [.int (1 : Int32), .int x2]) (st := []) dX12_digits_90 clX12_199 c0 rfl rfl (Nat.le_of_ble_eq_true rfl) (rmSH (by decide) (by decide)) (h1 q1 q2)
    · refine g_iload_n 3 dX12_digits_82 rfl rfl ?_
      refine g_iload_n 1 dX12_digits_83 rfl rfl ?_
      refine g_icmp_le 93 dX12_digits_84 (by decide) (fun q3 => ?_) (fun q3 => ?_)
      · refine g_iload_n 3 dX12_digits_93 rfl rfl ?_
        exact g_iret dX12_digits_94 rfl enSH (h2 q1 q2 q3)
      · refine g_aload_n 0 dX12_digits_87 rfl rfl ?_
        refine g_iconst (v := 1) dX12_digits_88 (by decide) ?_
        refine g_iload_n 2 dX12_digits_89 rfl rfl ?_
        exact g_callV (As := [.int (1 : Int32), .int x2]) (st := []) dX12_digits_90 clX12_199 c0 rfl rfl (Nat.le_of_ble_eq_true rfl) (rmSH (by decide) (by decide)) (h3 q1 q2 q3)
  · refine g_aload_n 0 dX12_digits_32 rfl rfl ?_
    refine g_getI dX12_digits_33 fl12_163 c0 ?_
    refine g_iload_n 2 dX12_digits_36 rfl rfl ?_
    refine g_isub dX12_digits_37 ?_
    refine g_iconst (v := 5) dX12_digits_38 (by decide) ?_
    refine g_icmp_ge 57 dX12_digits_39 (by decide) (fun q4 => ?_) (fun q4 => ?_)
    · refine g_iload_n 3 dX12_digits_57 rfl rfl ?_
      refine g_istore_n (ls2 := [(3, .int x3), (0, .ref a0), (1, .int x1), (2, .int x2)]) dX12_digits_58 rfl (by decide) rfl ?_
      refine g_aload_n 1 dX12_digits_59 rfl rfl ?_
      refine g_dup dX12_digits_60 rfl ?_
      refine g_getI dX12_digits_61 fl12_163 c0 ?_
      refine g_iconst (v := 1) dX12_digits_64 (by decide) ?_
      refine g_iadd dX12_digits_65 ?_
      refine g_putI dX12_digits_66 fl12_163 (fun h => by cases h) c0 ?_
      refine g_goto 25 dX12_digits_69 (by decide) ?_
      exact g_ls [1, 2, 3, 0] rfl (h4 q1 q4)
    · refine g_bipush (v := 10) dX12_digits_42 (by decide) ?_
      refine g_iload_n 3 dX12_digits_44 rfl rfl ?_
      refine g_imul dX12_digits_45 ?_
      refine g_aload_n 0 dX12_digits_46 rfl rfl ?_
      exact g_callV (As := []) (st := [.int ((10 : Int32) * x3)]) dX12_digits_47 clX12_166 c0 rfl rfl (Nat.le_of_ble_eq_true rfl) (rmSH (by decide) (by decide)) (h5 q1 q4)
theorem bX12_digits_93 {X : pX} {Q : Option Value → pMem → Prop} {m : pMem} {a0 : Nat} {x1 : Int32} {x2 : Int32} {x3 : Int32} (hW : Wf m) (c0 : SH[a0]? = some (.inl 12))
    (h1 : Q (some (.int x3)) m) :
    Go X 2 mX12_digits Q 93 [(0, .ref a0), (1, .int x1), (2, .int x2), (3, .int x3)] [] m := by
  refine g_iload_n 3 dX12_digits_93 rfl rfl ?_
  exact g_iret dX12_digits_94 rfl enSH h1
theorem bX12_digits_50 {X : pX} {Q : Option Value → pMem → Prop} {m : pMem} {a0 : Nat} {x1 : Int32} {x2 : Int32} {x3 : Int32} {xs0 : Int32} {xs1 : Int32} (hW : Wf m) (c0 : SH[a0]? = some (.inl 12))
    (h1 : Go X 2 mX12_digits Q 25 [(0, .ref a0), (1, .int x1), (2, .int x2), (3, .int ((xs1 + xs0) - (48 : Int32)))] [] (uI m a0 20 ((mI m a0 20) + (1 : Int32)))) :
    Go X 2 mX12_digits Q 50 [(0, .ref a0), (1, .int x1), (2, .int x2), (3, .int x3)] [.int xs0, .int xs1] m := by
  refine g_iadd dX12_digits_50 ?_
  refine g_bipush (v := 48) dX12_digits_51 (by decide) ?_
  refine g_isub dX12_digits_53 ?_
  refine g_goto 58 dX12_digits_54 (by decide) ?_
  refine g_istore_n (ls2 := [(3, .int ((xs1 + xs0) - (48 : Int32))), (0, .ref a0), (1, .int x1), (2, .int x2)]) dX12_digits_58 rfl (by decide) rfl ?_
  refine g_aload_n 1 dX12_digits_59 rfl rfl ?_
  refine g_dup dX12_digits_60 rfl ?_
  refine g_getI dX12_digits_61 fl12_163 c0 ?_
  refine g_iconst (v := 1) dX12_digits_64 (by decide) ?_
  refine g_iadd dX12_digits_65 ?_
  refine g_putI dX12_digits_66 fl12_163 (fun h => by cases h) c0 ?_
  refine g_goto 25 dX12_digits_69 (by decide) ?_
  exact g_ls [1, 2, 3, 0] rfl h1
theorem bX12_value_0 {X : pX} {Q : Option Value → pMem → Prop} {m : pMem} {a0 : Nat} (hW : Wf m) (c0 : SH[a0]? = some (.inl 12))
    (h1 : Cl X 1 mX12_blanks [.ref a0] m (fun v m2 => Go X 6 mX12_value Q 4 [(0, .ref a0)] (v.toList ++ []) m2)) :
    Go X 6 mX12_value Q 0 [(0, .ref a0)] [] m := by
  refine g_aload_n 0 dX12_value_0 rfl rfl ?_
  exact g_callV (As := []) (st := []) dX12_value_1 clX12_183 c0 rfl rfl (Nat.le_of_ble_eq_true rfl) (rmSH (by decide) (by decide)) h1
theorem bX12_value_4 {X : pX} {Q : Option Value → pMem → Prop} {m : pMem} {a0 : Nat} (hW : Wf m) (c0 : SH[a0]? = some (.inl 12))
    (h1 : Cl X 1 mX12_isDigit [.ref a0] m (fun v m2 => Go X 6 mX12_value Q 13 [(0, .ref a0), (1, .int (mI m a0 20))] (v.toList ++ []) m2)) :
    Go X 6 mX12_value Q 4 [(0, .ref a0)] [] m := by
  refine g_aload_n 0 dX12_value_4 rfl rfl ?_
  refine g_getI dX12_value_5 fl12_163 c0 ?_
  refine g_istore_n (ls2 := [(1, .int (mI m a0 20)), (0, .ref a0)]) dX12_value_8 rfl (by decide) rfl ?_
  refine g_aload_n 1 dX12_value_9 rfl rfl ?_
  refine g_ls [1, 0] (ls2 := [(0, .ref a0), (1, .int (mI m a0 20))]) rfl ?_
  exact g_callV (As := []) (st := []) dX12_value_10 clX12_203 c0 rfl rfl (Nat.le_of_ble_eq_true rfl) (rmSH (by decide) (by decide)) h1
theorem bX12_value_13 {X : pX} {Q : Option Value → pMem → Prop} {m : pMem} {a0 : Nat} {x1 : Int32} {xs0 : Int32} (hW : Wf m) (c0 : SH[a0]? = some (.inl 12))
    (h1 : xs0 = 0 → Go X 6 mX12_value Q 37 [(0, .ref a0), (1, .int x1), (2, .int (0 : Int32))] [] m)
    (h2 : ¬ (xs0 = 0) → Cl X 2 mX12_digits [.ref a0, .int (99999 : Int32)] m (fun v m2 => Go X 6 mX12_value Q 22 [(0, .ref a0), (1, .int x1)] (v.toList ++ []) m2)) :
    Go X 6 mX12_value Q 13 [(0, .ref a0), (1, .int x1)] [.int xs0] m := by
  refine g_if_eq 35 dX12_value_13 (by decide) (fun q1 => ?_) (fun q1 => ?_)
  · refine g_iconst (v := 0) dX12_value_35 (by decide) ?_
    refine g_istore_n (ls2 := [(2, .int (0 : Int32)), (0, .ref a0), (1, .int x1)]) dX12_value_36 rfl (by decide) rfl ?_
    exact g_ls [1, 2, 0] rfl (h1 q1)
  · refine g_aload_n 0 dX12_value_16 rfl rfl ?_
    refine g_ldc (v := 99999) dX12_value_17 ciX12_207 ?_
    exact g_callV (As := [.int (99999 : Int32)]) (st := []) dX12_value_19 clX12_208 c0 rfl rfl (Nat.le_of_ble_eq_true rfl) (rmSH (by decide) (by decide)) (h2 q1)
theorem bX12_value_37 {X : pX} {Q : Option Value → pMem → Prop} {m : pMem} {a0 : Nat} {x1 : Int32} {x2 : Int32} (hW : Wf m) (c0 : SH[a0]? = some (.inl 12))
    (h1 : (mI m a0 28) ≤ x2 → Go X 6 mX12_value Q 62 [(0, .ref a0), (1, .int x1), (2, .int x2)] [] m)
    (h2 : ¬ ((mI m a0 28) ≤ x2) → Cl X 0 mX12_wordOf [.int x2] m (fun v m2 => Go X 6 mX12_value Q 50 [(0, .ref a0), (1, .int x1), (2, .int x2)] (v.toList ++ [.ref a0]) m2)) :
    Go X 6 mX12_value Q 37 [(0, .ref a0), (1, .int x1), (2, .int x2)] [] m := by
  refine g_iload_n 2 dX12_value_37 rfl rfl ?_
  refine g_aload_n 0 dX12_value_38 rfl rfl ?_
  refine g_getI dX12_value_39 fl12_64 c0 ?_
  refine g_icmp_ge 62 dX12_value_42 (by decide) (fun q1 => ?_) (fun q1 => ?_)
  · exact g_ls [0, 1, 2] rfl (h1 q1)
  · refine g_aload_n 0 dX12_value_45 rfl rfl ?_
    refine g_iload_n 2 dX12_value_46 rfl rfl ?_
    exact g_callS (As := [.int x2]) (st := [.ref a0]) dX12_value_47 clX12_218 rfl rfl (Nat.le_of_ble_eq_true rfl) (rmSH (by decide) (by decide)) (h2 q1)
theorem bX12_value_22 {X : pX} {Q : Option Value → pMem → Prop} {m : pMem} {a0 : Nat} {x1 : Int32} {xs0 : Int32} (hW : Wf m) (c0 : SH[a0]? = some (.inl 12))
    (h1 : Cl X 1 mX12_isCounted [.ref a0, .int x1] m (fun v m2 => Go X 6 mX12_value Q 28 [(0, .ref a0), (1, .int x1), (2, .int xs0)] (v.toList ++ []) m2)) :
    Go X 6 mX12_value Q 22 [(0, .ref a0), (1, .int x1)] [.int xs0] m := by
  refine g_istore_n (ls2 := [(2, .int xs0), (0, .ref a0), (1, .int x1)]) dX12_value_22 rfl (by decide) rfl ?_
  refine g_aload_n 1 dX12_value_23 rfl rfl ?_
  refine g_iload_n 2 dX12_value_24 rfl rfl ?_
  refine g_ls [1, 2, 0] (ls2 := [(0, .ref a0), (1, .int x1), (2, .int xs0)]) rfl ?_
  exact g_callV (As := [.int x1]) (st := []) dX12_value_25 clX12_212 c0 rfl rfl (Nat.le_of_ble_eq_true rfl) (rmSH (by decide) (by decide)) h1
theorem bX12_value_62 {X : pX} {Q : Option Value → pMem → Prop} {m : pMem} {a0 : Nat} {x1 : Int32} {x2 : Int32} (hW : Wf m) (c0 : SH[a0]? = some (.inl 12))
    (h1 : ¬ x2 = (mI m a0 28) → Cl X 1 mX12_isCounted [.ref a0, .int x1] m (fun v m2 => Go X 6 mX12_value Q 82 [(0, .ref a0), (1, .int x1), (2, .int x2)] (v.toList ++ []) m2))
    (h2 : x2 = (mI m a0 28) → Cl X 0 mX12_fails [.ref a0, .int (0 : Int32), .int x1] m (fun v m2 => Go X 6 mX12_value Q 76 [(0, .ref a0), (1, .int x1), (2, .int x2)] (v.toList ++ []) m2)) :
    Go X 6 mX12_value Q 62 [(0, .ref a0), (1, .int x1), (2, .int x2)] [] m := by
  refine g_iload_n 2 dX12_value_62 rfl rfl ?_
  refine g_aload_n 0 dX12_value_63 rfl rfl ?_
  refine g_getI dX12_value_64 fl12_64 c0 ?_
  refine g_icmp_ne 77 dX12_value_67 (by decide) (fun q1 => ?_) (fun q1 => ?_)
  · refine g_aload_n 0 dX12_value_77 rfl rfl ?_
    refine g_iload_n 1 dX12_value_78 rfl rfl ?_
    exact g_callV (As := [.int x1]) (st := []) dX12_value_79 clX12_212 c0 rfl rfl (Nat.le_of_ble_eq_true rfl) (rmSH (by decide) (by decide)) (h1 q1)
  · refine g_aload_n 0 dX12_value_70 rfl rfl ?_
    refine g_iconst (v := 0) dX12_value_71 (by decide) ?_
    refine g_iload_n 1 dX12_value_72 rfl rfl ?_
    exact g_callV (As := [.int (0 : Int32), .int x1]) (st := []) dX12_value_73 clX12_199 c0 rfl rfl (Nat.le_of_ble_eq_true rfl) (rmSH (by decide) (by decide)) (h2 q1)
theorem bX12_value_50 {X : pX} {Q : Option Value → pMem → Prop} {m : pMem} {a0 : Nat} {x1 : Int32} {x2 : Int32} {ks0 : Nat} {as1 : Nat} (hW : Wf m) (c0 : SH[a0]? = some (.inl 12)) (cs1 : SH[as1]? = some (.inl 12))
    (h1 : Cl X 5 mX12_stood [.ref as1, .retAddr ks0] m (fun v m2 => Go X 6 mX12_value Q 53 [(0, .ref a0), (1, .int x1), (2, .int x2)] (v.toList ++ []) m2)) :
    Go X 6 mX12_value Q 50 [(0, .ref a0), (1, .int x1), (2, .int x2)] [.retAddr ks0, .ref as1] m := by
  exact g_callV (As := [.retAddr ks0]) (st := []) dX12_value_50 clX12_186 cs1 rfl rfl (Nat.le_of_ble_eq_true rfl) (rmSH (by decide) (by decide)) h1
theorem bX12_value_28 {X : pX} {Q : Option Value → pMem → Prop} {m : pMem} {a0 : Nat} {x1 : Int32} {x2 : Int32} (hW : Wf m) (c0 : SH[a0]? = some (.inl 12))
    (h1 : Cl X 0 mX12_entry [.ref a0, .int (0 : Int32), .int x2] m (fun v m2 => Go X 6 mX12_value Q 34 [(0, .ref a0), (1, .int x1), (2, .int x2)] (v.toList ++ []) m2)) :
    Go X 6 mX12_value Q 28 [(0, .ref a0), (1, .int x1), (2, .int x2)] [] m := by
  refine g_aload_n 0 dX12_value_28 rfl rfl ?_
  refine g_iconst (v := 0) dX12_value_29 (by decide) ?_
  refine g_iload_n 2 dX12_value_30 rfl rfl ?_
  exact g_callV (As := [.int (0 : Int32), .int x2]) (st := []) dX12_value_31 clX12_215 c0 rfl rfl (Nat.le_of_ble_eq_true rfl) (rmSH (by decide) (by decide)) h1
theorem bX12_value_82 {X : pX} {Q : Option Value → pMem → Prop} {m : pMem} {a0 : Nat} {x1 : Int32} {x2 : Int32} (hW : Wf m) (c0 : SH[a0]? = some (.inl 12))
    (h1 : Cl X 0 mX12_wordOf [.int x2] m (fun v m2 => Go X 6 mX12_value Q 91 [(0, .ref a0), (1, .int x1), (2, .int x2)] (v.toList ++ [.int (mI m a0 20), .ref a0]) m2)) :
    Go X 6 mX12_value Q 82 [(0, .ref a0), (1, .int x1), (2, .int x2)] [] m := by
  refine g_aload_n 0 dX12_value_82 rfl rfl ?_
  refine g_dup dX12_value_83 rfl ?_
  refine g_getI dX12_value_84 fl12_163 c0 ?_
  refine g_iload_n 2 dX12_value_87 rfl rfl ?_
  exact g_callS (As := [.int x2]) (st := [.int (mI m a0 20), .ref a0]) dX12_value_88 clX12_218 rfl rfl (Nat.le_of_ble_eq_true rfl) (rmSH (by decide) (by decide)) h1
theorem bX12_value_76 {X : pX} {Q : Option Value → pMem → Prop} {m : pMem} {a0 : Nat} {x1 : Int32} {x2 : Int32} (hW : Wf m) (c0 : SH[a0]? = some (.inl 12))
    (h1 : Q none m) :
    Go X 6 mX12_value Q 76 [(0, .ref a0), (1, .int x1), (2, .int x2)] [] m := by
  exact g_vret dX12_value_76 rfl enSH h1
theorem bX12_value_53 {X : pX} {Q : Option Value → pMem → Prop} {m : pMem} {a0 : Nat} {x1 : Int32} {x2 : Int32} {xs0 : Int32} (hW : Wf m) (c0 : SH[a0]? = some (.inl 12))
    (h1 : ¬ xs0 = 0 → Go X 6 mX12_value Q 62 [(0, .ref a0), (1, .int x1), (2, .int x2)] [] m)
    (h2 : xs0 = 0 → Go X 6 mX12_value Q 37 [(0, .ref a0), (1, .int x1), (2, .int (x2 + (1 : Int32)))] [] m) :
    Go X 6 mX12_value Q 53 [(0, .ref a0), (1, .int x1), (2, .int x2)] [.int xs0] m := by
  refine g_if_ne 62 dX12_value_53 (by decide) (fun q1 => ?_) (fun q1 => ?_)
  · exact g_ls [0, 1, 2] rfl (h1 q1)
  · refine g_iinc (v := x2 + (1 : Int32)) (ls2 := [(2, .int (x2 + (1 : Int32))), (0, .ref a0), (1, .int x1)]) 2 dX12_value_56 rfl rfl (by decide) rfl ?_
    refine g_goto 37 dX12_value_59 (by decide) ?_
    exact g_ls [1, 2, 0] rfl (h2 q1)
theorem bX12_value_34 {X : pX} {Q : Option Value → pMem → Prop} {m : pMem} {a0 : Nat} {x1 : Int32} {x2 : Int32} (hW : Wf m) (c0 : SH[a0]? = some (.inl 12))
    (h1 : Q none m) :
    Go X 6 mX12_value Q 34 [(0, .ref a0), (1, .int x1), (2, .int x2)] [] m := by
  exact g_vret dX12_value_34 rfl enSH h1
theorem bX12_value_91 {X : pX} {Q : Option Value → pMem → Prop} {m : pMem} {a0 : Nat} {x1 : Int32} {x2 : Int32} {ks0 : Nat} {xs1 : Int32} {as2 : Nat} (hW : Wf m) (c0 : SH[a0]? = some (.inl 12)) (cs2 : SH[as2]? = some (.inl 12))
    (h1 : 1 ≤ ks0 ∧ ks0 ≤ 25)
    (h2 : Cl X 1 mJ0_length_8abf5 [.retAddr ks0] m (fun v m2 => Go X 6 mX12_value Q 94 [(0, .ref a0), (1, .int x1), (2, .int x2)] (v.toList ++ [.int xs1, .ref as2]) m2)) :
    Go X 6 mX12_value Q 91 [(0, .ref a0), (1, .int x1), (2, .int x2)] [.retAddr ks0, .int xs1, .ref as2] m := by
  exact g_callVO (As := []) (st := [.int xs1, .ref as2]) dX12_value_91 coX12_174 rfl h1 rfl rfl (Nat.le_of_ble_eq_true rfl) (rmSH (by decide) (by decide)) h2
theorem bX12_value_94 {X : pX} {Q : Option Value → pMem → Prop} {m : pMem} {a0 : Nat} {x1 : Int32} {x2 : Int32} {xs0 : Int32} {xs1 : Int32} {as2 : Nat} (hW : Wf m) (c0 : SH[a0]? = some (.inl 12)) (cs2 : SH[as2]? = some (.inl 12))
    (h1 : Cl X 0 mX12_entry [.ref a0, .int (1 : Int32), .int x2] (uI m as2 20 (xs1 + xs0)) (fun v m2 => Go X 6 mX12_value Q 104 [(0, .ref a0), (1, .int x1), (2, .int x2)] (v.toList ++ []) m2)) :
    Go X 6 mX12_value Q 94 [(0, .ref a0), (1, .int x1), (2, .int x2)] [.int xs0, .int xs1, .ref as2] m := by
  refine g_iadd dX12_value_94 ?_
  refine g_putI dX12_value_95 fl12_163 (fun h => by cases h) cs2 ?_
  refine g_aload_n 0 dX12_value_98 rfl rfl ?_
  refine g_iconst (v := 1) dX12_value_99 (by decide) ?_
  refine g_iload_n 2 dX12_value_100 rfl rfl ?_
  exact g_callV (As := [.int (1 : Int32), .int x2]) (st := []) dX12_value_101 clX12_215 c0 rfl rfl (Nat.le_of_ble_eq_true rfl) (rmSH (by decide) (by decide)) h1
theorem bX12_value_104 {X : pX} {Q : Option Value → pMem → Prop} {m : pMem} {a0 : Nat} {x1 : Int32} {x2 : Int32} (hW : Wf m) (c0 : SH[a0]? = some (.inl 12))
    (h1 : Q none m) :
    Go X 6 mX12_value Q 104 [(0, .ref a0), (1, .int x1), (2, .int x2)] [] m := by
  exact g_vret dX12_value_104 rfl enSH h1
theorem bX12_term_0 {X : pX} {Q : Option Value → pMem → Prop} {m : pMem} {a0 : Nat} (hW : Wf m) (c0 : SH[a0]? = some (.inl 12))
    (h1 : Cl X 6 mX12_value [.ref a0] m (fun v m2 => Go X 7 mX12_term Q 4 [(0, .ref a0)] (v.toList ++ []) m2)) :
    Go X 7 mX12_term Q 0 [(0, .ref a0)] [] m := by
  refine g_aload_n 0 dX12_term_0 rfl rfl ?_
  exact g_callV (As := []) (st := []) dX12_term_1 clX12_222 c0 rfl rfl (Nat.le_of_ble_eq_true rfl) (rmSH (by decide) (by decide)) h1
theorem bX12_term_4 {X : pX} {Q : Option Value → pMem → Prop} {m : pMem} {a0 : Nat} (hW : Wf m) (c0 : SH[a0]? = some (.inl 12))
    (h1 : Cl X 1 mX12_blanks [.ref a0] m (fun v m2 => Go X 7 mX12_term Q 8 [(0, .ref a0)] (v.toList ++ []) m2)) :
    Go X 7 mX12_term Q 4 [(0, .ref a0)] [] m := by
  refine g_aload_n 0 dX12_term_4 rfl rfl ?_
  exact g_callV (As := []) (st := []) dX12_term_5 clX12_183 c0 rfl rfl (Nat.le_of_ble_eq_true rfl) (rmSH (by decide) (by decide)) h1
theorem bX12_term_8 {X : pX} {Q : Option Value → pMem → Prop} {m : pMem} {a0 : Nat} (hW : Wf m) (c0 : SH[a0]? = some (.inl 12))
    (h1 : ¬ (mI m a0 21) = 0 → Q none m)
    (h2 : (mI m a0 21) = 0 → Cl X 0 mX12_sign [.ref a0] m (fun v m2 => Go X 7 mX12_term Q 19 [(0, .ref a0)] (v.toList ++ []) m2)) :
    Go X 7 mX12_term Q 8 [(0, .ref a0)] [] m := by
  refine g_aload_n 0 dX12_term_8 rfl rfl ?_
  refine g_getI dX12_term_9 fl12_160 c0 ?_
  refine g_if_ne 100 dX12_term_12 (by decide) (fun q1 => ?_) (fun q1 => ?_)
  · exact g_vret dX12_term_100 rfl enSH (h1 q1)
  · refine g_aload_n 0 dX12_term_15 rfl rfl ?_
    exact g_callV (As := []) (st := []) dX12_term_16 clX12_166 c0 rfl rfl (Nat.le_of_ble_eq_true rfl) (rmSH (by decide) (by decide)) (h2 q1)
theorem bX12_term_19 {X : pX} {Q : Option Value → pMem → Prop} {m : pMem} {a0 : Nat} {xs0 : Int32} (hW : Wf m) (c0 : SH[a0]? = some (.inl 12))
    (h1 : xs0 = (42 : Int32) → Cl X 0 mX12_sign [.ref a0] m (fun v m2 => Go X 7 mX12_term Q 46 [(0, .ref a0)] (v.toList ++ []) m2))
    (h2 : ¬ (xs0 = (42 : Int32)) → Cl X 0 mX12_sign [.ref a0] m (fun v m2 => Go X 7 mX12_term Q 28 [(0, .ref a0)] (v.toList ++ []) m2)) :
    Go X 7 mX12_term Q 19 [(0, .ref a0)] [.int xs0] m := by
  refine g_bipush (v := 42) dX12_term_19 (by decide) ?_
  refine g_icmp_eq 42 dX12_term_21 (by decide) (fun q1 => ?_) (fun q1 => ?_)
  · refine g_aload_n 0 dX12_term_42 rfl rfl ?_
    exact g_callV (As := []) (st := []) dX12_term_43 clX12_166 c0 rfl rfl (Nat.le_of_ble_eq_true rfl) (rmSH (by decide) (by decide)) (h1 q1)
  · refine g_aload_n 0 dX12_term_24 rfl rfl ?_
    exact g_callV (As := []) (st := []) dX12_term_25 clX12_166 c0 rfl rfl (Nat.le_of_ble_eq_true rfl) (rmSH (by decide) (by decide)) (h2 q1)
theorem bX12_term_46 {X : pX} {Q : Option Value → pMem → Prop} {m : pMem} {a0 : Nat} {xs0 : Int32} (hW : Wf m) (c0 : SH[a0]? = some (.inl 12))
    (h1 : ¬ xs0 = (42 : Int32) → Cl X 0 mX12_sign [.ref a0] m (fun v m2 => Go X 7 mX12_term Q 60 [(0, .ref a0)] (v.toList ++ []) m2))
    (h2 : xs0 = (42 : Int32) → Cl X 6 mX12_value [.ref a0] (uI m a0 20 ((mI m a0 20) + (1 : Int32))) (fun v m2 => Go X 7 mX12_term Q 87 [(0, .ref a0), (1, .int (13 : Int32))] (v.toList ++ []) m2)) :
    Go X 7 mX12_term Q 46 [(0, .ref a0)] [.int xs0] m := by
  refine g_bipush (v := 42) dX12_term_46 (by decide) ?_
  refine g_icmp_ne 56 dX12_term_48 (by decide) (fun q1 => ?_) (fun q1 => ?_)
  · refine g_aload_n 0 dX12_term_56 rfl rfl ?_
    exact g_callV (As := []) (st := []) dX12_term_57 clX12_166 c0 rfl rfl (Nat.le_of_ble_eq_true rfl) (rmSH (by decide) (by decide)) (h1 q1)
  · refine g_bipush (v := 13) dX12_term_51 (by decide) ?_
    refine g_goto 72 dX12_term_53 (by decide) ?_
    refine g_istore_n (ls2 := [(1, .int (13 : Int32)), (0, .ref a0)]) dX12_term_72 rfl (by decide) rfl ?_
    refine g_aload_n 1 dX12_term_73 rfl rfl ?_
    refine g_dup dX12_term_74 rfl ?_
    refine g_getI dX12_term_75 fl12_163 c0 ?_
    refine g_iconst (v := 1) dX12_term_78 (by decide) ?_
    refine g_iadd dX12_term_79 ?_
    refine g_putI dX12_term_80 fl12_163 (fun h => by cases h) c0 ?_
    refine g_aload_n 1 dX12_term_83 rfl rfl ?_
    refine g_ls [1, 0] (ls2 := [(0, .ref a0), (1, .int (13 : Int32))]) rfl ?_
    exact g_callV (As := []) (st := []) dX12_term_84 clX12_222 c0 rfl rfl (Nat.le_of_ble_eq_true rfl) (rmSH (by decide) (by decide)) (h2 q1)
theorem bX12_term_28 {X : pX} {Q : Option Value → pMem → Prop} {m : pMem} {a0 : Nat} {xs0 : Int32} (hW : Wf m) (c0 : SH[a0]? = some (.inl 12))
    (h1 : xs0 = (47 : Int32) → Cl X 0 mX12_sign [.ref a0] m (fun v m2 => Go X 7 mX12_term Q 46 [(0, .ref a0)] (v.toList ++ []) m2))
    (h2 : ¬ (xs0 = (47 : Int32)) → Cl X 0 mX12_sign [.ref a0] m (fun v m2 => Go X 7 mX12_term Q 37 [(0, .ref a0)] (v.toList ++ []) m2)) :
    Go X 7 mX12_term Q 28 [(0, .ref a0)] [.int xs0] m := by
  refine g_bipush (v := 47) dX12_term_28 (by decide) ?_
  refine g_icmp_eq 42 dX12_term_30 (by decide) (fun q1 => ?_) (fun q1 => ?_)
  · refine g_aload_n 0 dX12_term_42 rfl rfl ?_
    exact g_callV (As := []) (st := []) dX12_term_43 clX12_166 c0 rfl rfl (Nat.le_of_ble_eq_true rfl) (rmSH (by decide) (by decide)) (h1 q1)
  · refine g_aload_n 0 dX12_term_33 rfl rfl ?_
    exact g_callV (As := []) (st := []) dX12_term_34 clX12_166 c0 rfl rfl (Nat.le_of_ble_eq_true rfl) (rmSH (by decide) (by decide)) (h2 q1)
theorem bX12_term_60 {X : pX} {Q : Option Value → pMem → Prop} {m : pMem} {a0 : Nat} {xs0 : Int32} (hW : Wf m) (c0 : SH[a0]? = some (.inl 12))
    (h1 : ¬ xs0 = (47 : Int32) → Cl X 6 mX12_value [.ref a0] (uI m a0 20 ((mI m a0 20) + (1 : Int32))) (fun v m2 => Go X 7 mX12_term Q 87 [(0, .ref a0), (1, .int (15 : Int32))] (v.toList ++ []) m2))
    (h2 : xs0 = (47 : Int32) → Cl X 6 mX12_value [.ref a0] (uI m a0 20 ((mI m a0 20) + (1 : Int32))) (fun v m2 => Go X 7 mX12_term Q 87 [(0, .ref a0), (1, .int (14 : Int32))] (v.toList ++ []) m2)) :
    Go X 7 mX12_term Q 60 [(0, .ref a0)] [.int xs0] m := by
  refine g_bipush (v := 47) dX12_term_60 (by decide) ?_
  refine g_icmp_ne 70 dX12_term_62 (by decide) (fun q1 => ?_) (fun q1 => ?_)
  · refine g_bipush (v := 15) dX12_term_70 (by decide) ?_
    refine g_istore_n (ls2 := [(1, .int (15 : Int32)), (0, .ref a0)]) dX12_term_72 rfl (by decide) rfl ?_
    refine g_aload_n 1 dX12_term_73 rfl rfl ?_
    refine g_dup dX12_term_74 rfl ?_
    refine g_getI dX12_term_75 fl12_163 c0 ?_
    refine g_iconst (v := 1) dX12_term_78 (by decide) ?_
    refine g_iadd dX12_term_79 ?_
    refine g_putI dX12_term_80 fl12_163 (fun h => by cases h) c0 ?_
    refine g_aload_n 1 dX12_term_83 rfl rfl ?_
    refine g_ls [1, 0] (ls2 := [(0, .ref a0), (1, .int (15 : Int32))]) rfl ?_
    exact g_callV (As := []) (st := []) dX12_term_84 clX12_222 c0 rfl rfl (Nat.le_of_ble_eq_true rfl) (rmSH (by decide) (by decide)) (h1 q1)
  · refine g_bipush (v := 14) dX12_term_65 (by decide) ?_
    refine g_goto 72 dX12_term_67 (by decide) ?_
    refine g_istore_n (ls2 := [(1, .int (14 : Int32)), (0, .ref a0)]) dX12_term_72 rfl (by decide) rfl ?_
    refine g_aload_n 1 dX12_term_73 rfl rfl ?_
    refine g_dup dX12_term_74 rfl ?_
    refine g_getI dX12_term_75 fl12_163 c0 ?_
    refine g_iconst (v := 1) dX12_term_78 (by decide) ?_
    refine g_iadd dX12_term_79 ?_
    refine g_putI dX12_term_80 fl12_163 (fun h => by cases h) c0 ?_
    refine g_aload_n 1 dX12_term_83 rfl rfl ?_
    refine g_ls [1, 0] (ls2 := [(0, .ref a0), (1, .int (14 : Int32))]) rfl ?_
    exact g_callV (As := []) (st := []) dX12_term_84 clX12_222 c0 rfl rfl (Nat.le_of_ble_eq_true rfl) (rmSH (by decide) (by decide)) (h2 q1)
theorem bX12_term_87 {X : pX} {Q : Option Value → pMem → Prop} {m : pMem} {a0 : Nat} {x1 : Int32} (hW : Wf m) (c0 : SH[a0]? = some (.inl 12))
    (h1 : Cl X 0 mX12_entry [.ref a0, .int x1, .int (0 : Int32)] m (fun v m2 => Go X 7 mX12_term Q 93 [(0, .ref a0), (1, .int x1)] (v.toList ++ []) m2)) :
    Go X 7 mX12_term Q 87 [(0, .ref a0), (1, .int x1)] [] m := by
  refine g_aload_n 0 dX12_term_87 rfl rfl ?_
  refine g_iload_n 1 dX12_term_88 rfl rfl ?_
  refine g_iconst (v := 0) dX12_term_89 (by decide) ?_
  exact g_callV (As := [.int x1, .int (0 : Int32)]) (st := []) dX12_term_90 clX12_215 c0 rfl rfl (Nat.le_of_ble_eq_true rfl) (rmSH (by decide) (by decide)) h1
theorem bX12_term_37 {X : pX} {Q : Option Value → pMem → Prop} {m : pMem} {a0 : Nat} {xs0 : Int32} (hW : Wf m) (c0 : SH[a0]? = some (.inl 12))
    (h1 : ¬ xs0 = (37 : Int32) → Q none m)
    (h2 : xs0 = (37 : Int32) → Cl X 0 mX12_sign [.ref a0] m (fun v m2 => Go X 7 mX12_term Q 46 [(0, .ref a0)] (v.toList ++ []) m2)) :
    Go X 7 mX12_term Q 37 [(0, .ref a0)] [.int xs0] m := by
  refine g_bipush (v := 37) dX12_term_37 (by decide) ?_
  refine g_icmp_ne 100 dX12_term_39 (by decide) (fun q1 => ?_) (fun q1 => ?_)
  · exact g_vret dX12_term_100 rfl enSH (h1 q1)
  · refine g_aload_n 0 dX12_term_42 rfl rfl ?_
    exact g_callV (As := []) (st := []) dX12_term_43 clX12_166 c0 rfl rfl (Nat.le_of_ble_eq_true rfl) (rmSH (by decide) (by decide)) (h2 q1)
theorem bX12_term_93 {X : pX} {Q : Option Value → pMem → Prop} {m : pMem} {a0 : Nat} {x1 : Int32} (hW : Wf m) (c0 : SH[a0]? = some (.inl 12))
    (h1 : Cl X 1 mX12_blanks [.ref a0] m (fun v m2 => Go X 7 mX12_term Q 97 [(0, .ref a0), (1, .int x1)] (v.toList ++ []) m2)) :
    Go X 7 mX12_term Q 93 [(0, .ref a0), (1, .int x1)] [] m := by
  refine g_aload_n 0 dX12_term_93 rfl rfl ?_
  exact g_callV (As := []) (st := []) dX12_term_94 clX12_183 c0 rfl rfl (Nat.le_of_ble_eq_true rfl) (rmSH (by decide) (by decide)) h1
theorem bX12_term_97 {X : pX} {Q : Option Value → pMem → Prop} {m : pMem} {a0 : Nat} {x1 : Int32} (hW : Wf m) (c0 : SH[a0]? = some (.inl 12))
    (h1 : Go X 7 mX12_term Q 8 [(0, .ref a0)] [] m) :
    Go X 7 mX12_term Q 97 [(0, .ref a0), (1, .int x1)] [] m := by
  refine g_goto 8 dX12_term_97 (by decide) ?_
  exact g_ls [0] rfl h1
theorem bX12_sum_0 {X : pX} {Q : Option Value → pMem → Prop} {m : pMem} {a0 : Nat} (hW : Wf m) (c0 : SH[a0]? = some (.inl 12))
    (h1 : Cl X 7 mX12_term [.ref a0] m (fun v m2 => Go X 8 mX12_sum Q 4 [(0, .ref a0)] (v.toList ++ []) m2)) :
    Go X 8 mX12_sum Q 0 [(0, .ref a0)] [] m := by
  refine g_aload_n 0 dX12_sum_0 rfl rfl ?_
  exact g_callV (As := []) (st := []) dX12_sum_1 clX12_225 c0 rfl rfl (Nat.le_of_ble_eq_true rfl) (rmSH (by decide) (by decide)) h1
theorem bX12_sum_4 {X : pX} {Q : Option Value → pMem → Prop} {m : pMem} {a0 : Nat} (hW : Wf m) (c0 : SH[a0]? = some (.inl 12))
    (h1 : ¬ (mI m a0 21) = 0 → Q none m)
    (h2 : (mI m a0 21) = 0 → Cl X 0 mX12_sign [.ref a0] m (fun v m2 => Go X 8 mX12_sum Q 15 [(0, .ref a0)] (v.toList ++ []) m2)) :
    Go X 8 mX12_sum Q 4 [(0, .ref a0)] [] m := by
  refine g_aload_n 0 dX12_sum_4 rfl rfl ?_
  refine g_getI dX12_sum_5 fl12_160 c0 ?_
  refine g_if_ne 67 dX12_sum_8 (by decide) (fun q1 => ?_) (fun q1 => ?_)
  · exact g_vret dX12_sum_67 rfl enSH (h1 q1)
  · refine g_aload_n 0 dX12_sum_11 rfl rfl ?_
    exact g_callV (As := []) (st := []) dX12_sum_12 clX12_166 c0 rfl rfl (Nat.le_of_ble_eq_true rfl) (rmSH (by decide) (by decide)) (h2 q1)
theorem bX12_sum_15 {X : pX} {Q : Option Value → pMem → Prop} {m : pMem} {a0 : Nat} {xs0 : Int32} (hW : Wf m) (c0 : SH[a0]? = some (.inl 12))
    (h1 : xs0 = (43 : Int32) → Cl X 0 mX12_sign [.ref a0] m (fun v m2 => Go X 8 mX12_sum Q 33 [(0, .ref a0)] (v.toList ++ []) m2))
    (h2 : ¬ (xs0 = (43 : Int32)) → Cl X 0 mX12_sign [.ref a0] m (fun v m2 => Go X 8 mX12_sum Q 24 [(0, .ref a0)] (v.toList ++ []) m2)) :
    Go X 8 mX12_sum Q 15 [(0, .ref a0)] [.int xs0] m := by
  refine g_bipush (v := 43) dX12_sum_15 (by decide) ?_
  refine g_icmp_eq 29 dX12_sum_17 (by decide) (fun q1 => ?_) (fun q1 => ?_)
  · refine g_aload_n 0 dX12_sum_29 rfl rfl ?_
    exact g_callV (As := []) (st := []) dX12_sum_30 clX12_166 c0 rfl rfl (Nat.le_of_ble_eq_true rfl) (rmSH (by decide) (by decide)) (h1 q1)
  · refine g_aload_n 0 dX12_sum_20 rfl rfl ?_
    exact g_callV (As := []) (st := []) dX12_sum_21 clX12_166 c0 rfl rfl (Nat.le_of_ble_eq_true rfl) (rmSH (by decide) (by decide)) (h2 q1)
theorem bX12_sum_33 {X : pX} {Q : Option Value → pMem → Prop} {m : pMem} {a0 : Nat} {xs0 : Int32} (hW : Wf m) (c0 : SH[a0]? = some (.inl 12))
    (h1 : ¬ xs0 = (43 : Int32) → Cl X 7 mX12_term [.ref a0] (uI m a0 20 ((mI m a0 20) + (1 : Int32))) (fun v m2 => Go X 8 mX12_sum Q 58 [(0, .ref a0), (1, .int (3 : Int32))] (v.toList ++ []) m2))
    (h2 : xs0 = (43 : Int32) → Cl X 7 mX12_term [.ref a0] (uI m a0 20 ((mI m a0 20) + (1 : Int32))) (fun v m2 => Go X 8 mX12_sum Q 58 [(0, .ref a0), (1, .int (2 : Int32))] (v.toList ++ []) m2)) :
    Go X 8 mX12_sum Q 33 [(0, .ref a0)] [.int xs0] m := by
  refine g_bipush (v := 43) dX12_sum_33 (by decide) ?_
  refine g_icmp_ne 42 dX12_sum_35 (by decide) (fun q1 => ?_) (fun q1 => ?_)
  · refine g_iconst (v := 3) dX12_sum_42 (by decide) ?_
    refine g_istore_n (ls2 := [(1, .int (3 : Int32)), (0, .ref a0)]) dX12_sum_43 rfl (by decide) rfl ?_
    refine g_aload_n 1 dX12_sum_44 rfl rfl ?_
    refine g_dup dX12_sum_45 rfl ?_
    refine g_getI dX12_sum_46 fl12_163 c0 ?_
    refine g_iconst (v := 1) dX12_sum_49 (by decide) ?_
    refine g_iadd dX12_sum_50 ?_
    refine g_putI dX12_sum_51 fl12_163 (fun h => by cases h) c0 ?_
    refine g_aload_n 1 dX12_sum_54 rfl rfl ?_
    refine g_ls [1, 0] (ls2 := [(0, .ref a0), (1, .int (3 : Int32))]) rfl ?_
    exact g_callV (As := []) (st := []) dX12_sum_55 clX12_225 c0 rfl rfl (Nat.le_of_ble_eq_true rfl) (rmSH (by decide) (by decide)) (h1 q1)
  · refine g_iconst (v := 2) dX12_sum_38 (by decide) ?_
    refine g_goto 43 dX12_sum_39 (by decide) ?_
    refine g_istore_n (ls2 := [(1, .int (2 : Int32)), (0, .ref a0)]) dX12_sum_43 rfl (by decide) rfl ?_
    refine g_aload_n 1 dX12_sum_44 rfl rfl ?_
    refine g_dup dX12_sum_45 rfl ?_
    refine g_getI dX12_sum_46 fl12_163 c0 ?_
    refine g_iconst (v := 1) dX12_sum_49 (by decide) ?_
    refine g_iadd dX12_sum_50 ?_
    refine g_putI dX12_sum_51 fl12_163 (fun h => by cases h) c0 ?_
    refine g_aload_n 1 dX12_sum_54 rfl rfl ?_
    refine g_ls [1, 0] (ls2 := [(0, .ref a0), (1, .int (2 : Int32))]) rfl ?_
    exact g_callV (As := []) (st := []) dX12_sum_55 clX12_225 c0 rfl rfl (Nat.le_of_ble_eq_true rfl) (rmSH (by decide) (by decide)) (h2 q1)
theorem bX12_sum_24 {X : pX} {Q : Option Value → pMem → Prop} {m : pMem} {a0 : Nat} {xs0 : Int32} (hW : Wf m) (c0 : SH[a0]? = some (.inl 12))
    (h1 : ¬ xs0 = (45 : Int32) → Q none m)
    (h2 : xs0 = (45 : Int32) → Cl X 0 mX12_sign [.ref a0] m (fun v m2 => Go X 8 mX12_sum Q 33 [(0, .ref a0)] (v.toList ++ []) m2)) :
    Go X 8 mX12_sum Q 24 [(0, .ref a0)] [.int xs0] m := by
  refine g_bipush (v := 45) dX12_sum_24 (by decide) ?_
  refine g_icmp_ne 67 dX12_sum_26 (by decide) (fun q1 => ?_) (fun q1 => ?_)
  · exact g_vret dX12_sum_67 rfl enSH (h1 q1)
  · refine g_aload_n 0 dX12_sum_29 rfl rfl ?_
    exact g_callV (As := []) (st := []) dX12_sum_30 clX12_166 c0 rfl rfl (Nat.le_of_ble_eq_true rfl) (rmSH (by decide) (by decide)) (h2 q1)
theorem bX12_sum_58 {X : pX} {Q : Option Value → pMem → Prop} {m : pMem} {a0 : Nat} {x1 : Int32} (hW : Wf m) (c0 : SH[a0]? = some (.inl 12))
    (h1 : Cl X 0 mX12_entry [.ref a0, .int x1, .int (0 : Int32)] m (fun v m2 => Go X 8 mX12_sum Q 64 [(0, .ref a0), (1, .int x1)] (v.toList ++ []) m2)) :
    Go X 8 mX12_sum Q 58 [(0, .ref a0), (1, .int x1)] [] m := by
  refine g_aload_n 0 dX12_sum_58 rfl rfl ?_
  refine g_iload_n 1 dX12_sum_59 rfl rfl ?_
  refine g_iconst (v := 0) dX12_sum_60 (by decide) ?_
  exact g_callV (As := [.int x1, .int (0 : Int32)]) (st := []) dX12_sum_61 clX12_215 c0 rfl rfl (Nat.le_of_ble_eq_true rfl) (rmSH (by decide) (by decide)) h1
theorem bX12_sum_64 {X : pX} {Q : Option Value → pMem → Prop} {m : pMem} {a0 : Nat} {x1 : Int32} (hW : Wf m) (c0 : SH[a0]? = some (.inl 12))
    (h1 : Go X 8 mX12_sum Q 4 [(0, .ref a0)] [] m) :
    Go X 8 mX12_sum Q 64 [(0, .ref a0), (1, .int x1)] [] m := by
  refine g_goto 4 dX12_sum_64 (by decide) ?_
  exact g_ls [0] rfl h1
theorem bX12_compared_0 {X : pX} {Q : Option Value → pMem → Prop} {m : pMem} {a0 : Nat} (hW : Wf m) (c0 : SH[a0]? = some (.inl 12))
    (h1 : Cl X 8 mX12_sum [.ref a0] m (fun v m2 => Go X 9 mX12_compared Q 4 [(0, .ref a0)] (v.toList ++ []) m2)) :
    Go X 9 mX12_compared Q 0 [(0, .ref a0)] [] m := by
  refine g_aload_n 0 dX12_compared_0 rfl rfl ?_
  exact g_callV (As := []) (st := []) dX12_compared_1 clX12_228 c0 rfl rfl (Nat.le_of_ble_eq_true rfl) (rmSH (by decide) (by decide)) h1
theorem bX12_compared_4 {X : pX} {Q : Option Value → pMem → Prop} {m : pMem} {a0 : Nat} (hW : Wf m) (c0 : SH[a0]? = some (.inl 12))
    (h1 : Cl X 0 mX12_sign [.ref a0] m (fun v m2 => Go X 9 mX12_compared Q 8 [(0, .ref a0)] (v.toList ++ []) m2)) :
    Go X 9 mX12_compared Q 4 [(0, .ref a0)] [] m := by
  refine g_aload_n 0 dX12_compared_4 rfl rfl ?_
  exact g_callV (As := []) (st := []) dX12_compared_5 clX12_166 c0 rfl rfl (Nat.le_of_ble_eq_true rfl) (rmSH (by decide) (by decide)) h1
theorem bX12_compared_8 {X : pX} {Q : Option Value → pMem → Prop} {m : pMem} {a0 : Nat} {xs0 : Int32} (hW : Wf m) (c0 : SH[a0]? = some (.inl 12))
    (h1 : xs0 = (60 : Int32) → Cl X 1 mX12_isCounted [.ref a0, .int (mI m a0 20)] m (fun v m2 => Go X 9 mX12_compared Q 45 [(0, .ref a0), (1, .int xs0)] (v.toList ++ []) m2))
    (h2 : ¬ (xs0 = (60 : Int32)) → xs0 = (61 : Int32) → Cl X 1 mX12_isCounted [.ref a0, .int (mI m a0 20)] m (fun v m2 => Go X 9 mX12_compared Q 45 [(0, .ref a0), (1, .int xs0)] (v.toList ++ []) m2))
    (h3 : ¬ (xs0 = (60 : Int32)) → ¬ (xs0 = (61 : Int32)) → xs0 = (62 : Int32) → Cl X 1 mX12_isCounted [.ref a0, .int (mI m a0 20)] m (fun v m2 => Go X 9 mX12_compared Q 45 [(0, .ref a0), (1, .int xs0)] (v.toList ++ []) m2))
    (h4 : ¬ (xs0 = (60 : Int32)) → ¬ (xs0 = (61 : Int32)) → ¬ (xs0 = (62 : Int32)) → Cl X 0 mX12_fails [.ref a0, .int (0 : Int32), .int (mI m a0 20)] m (fun v m2 => Go X 9 mX12_compared Q 36 [(0, .ref a0), (1, .int xs0)] (v.toList ++ []) m2)) :
    Go X 9 mX12_compared Q 8 [(0, .ref a0)] [.int xs0] m := by
  refine g_istore_n (ls2 := [(1, .int xs0), (0, .ref a0)]) dX12_compared_8 rfl (by decide) rfl ?_
  refine g_iload_n 0 dX12_compared_9 rfl rfl ?_
  refine g_bipush (v := 60) dX12_compared_10 (by decide) ?_
  refine g_icmp_eq 37 dX12_compared_12 (by decide) (fun q1 => ?_) (fun q1 => ?_)
  · refine g_aload_n 1 dX12_compared_37 rfl rfl ?_
    refine g_aload_n 1 dX12_compared_38 rfl rfl ?_
    refine g_getI dX12_compared_39 fl12_163 c0 ?_
    refine g_ls [1, 0] (ls2 := [(0, .ref a0), (1, .int xs0)]) rfl ?_
    exact g_callV (As := [.int (mI m a0 20)]) (st := []) dX12_compared_42 clX12_212 c0 rfl rfl (Nat.le_of_ble_eq_true rfl) (rmSH (by decide) (by decide)) (h1 q1)
  · refine g_iload_n 0 dX12_compared_15 rfl rfl ?_
    refine g_bipush (v := 61) dX12_compared_16 (by decide) ?_
    refine g_icmp_eq 37 dX12_compared_18 (by decide) (fun q2 => ?_) (fun q2 => ?_)
    · refine g_aload_n 1 dX12_compared_37 rfl rfl ?_
      refine g_aload_n 1 dX12_compared_38 rfl rfl ?_
      refine g_getI dX12_compared_39 fl12_163 c0 ?_
      refine g_ls [1, 0] (ls2 := [(0, .ref a0), (1, .int xs0)]) rfl ?_
      exact g_callV (As := [.int (mI m a0 20)]) (st := []) dX12_compared_42 clX12_212 c0 rfl rfl (Nat.le_of_ble_eq_true rfl) (rmSH (by decide) (by decide)) (h2 q1 q2)
    · refine g_iload_n 0 dX12_compared_21 rfl rfl ?_
      refine g_bipush (v := 62) dX12_compared_22 (by decide) ?_
      refine g_icmp_eq 37 dX12_compared_24 (by decide) (fun q3 => ?_) (fun q3 => ?_)
      · refine g_aload_n 1 dX12_compared_37 rfl rfl ?_
        refine g_aload_n 1 dX12_compared_38 rfl rfl ?_
        refine g_getI dX12_compared_39 fl12_163 c0 ?_
        refine g_ls [1, 0] (ls2 := [(0, .ref a0), (1, .int xs0)]) rfl ?_
        exact g_callV (As := [.int (mI m a0 20)]) (st := []) dX12_compared_42 clX12_212 c0 rfl rfl (Nat.le_of_ble_eq_true rfl) (rmSH (by decide) (by decide)) (h3 q1 q2 q3)
      · refine g_aload_n 1 dX12_compared_27 rfl rfl ?_
        refine g_iconst (v := 0) dX12_compared_28 (by decide) ?_
        refine g_aload_n 1 dX12_compared_29 rfl rfl ?_
        refine g_getI dX12_compared_30 fl12_163 c0 ?_
        refine g_ls [1, 0] (ls2 := [(0, .ref a0), (1, .int xs0)]) rfl ?_
        exact g_callV (As := [.int (0 : Int32), .int (mI m a0 20)]) (st := []) dX12_compared_33 clX12_199 c0 rfl rfl (Nat.le_of_ble_eq_true rfl) (rmSH (by decide) (by decide)) (h4 q1 q2 q3)
theorem bX12_compared_45 {X : pX} {Q : Option Value → pMem → Prop} {m : pMem} {a0 : Nat} {x1 : Int32} (hW : Wf m) (c0 : SH[a0]? = some (.inl 12))
    (h1 : x1 = (61 : Int32) → Go X 9 mX12_compared Q 74 [(0, .ref a0), (1, .int x1)] [] (uI m a0 20 ((mI m a0 20) + (1 : Int32))))
    (h2 : ¬ (x1 = (61 : Int32)) → Cl X 0 mX12_sign [.ref a0] (uI m a0 20 ((mI m a0 20) + (1 : Int32))) (fun v m2 => Go X 9 mX12_compared Q 65 [(0, .ref a0), (1, .int x1)] (v.toList ++ []) m2)) :
    Go X 9 mX12_compared Q 45 [(0, .ref a0), (1, .int x1)] [] m := by
  refine g_aload_n 0 dX12_compared_45 rfl rfl ?_
  refine g_dup dX12_compared_46 rfl ?_
  refine g_getI dX12_compared_47 fl12_163 c0 ?_
  refine g_iconst (v := 1) dX12_compared_50 (by decide) ?_
  refine g_iadd dX12_compared_51 ?_
  refine g_putI dX12_compared_52 fl12_163 (fun h => by cases h) c0 ?_
  refine g_iload_n 1 dX12_compared_55 rfl rfl ?_
  refine g_bipush (v := 61) dX12_compared_56 (by decide) ?_
  refine g_icmp_eq 74 dX12_compared_58 (by decide) (fun q1 => ?_) (fun q1 => ?_)
  · exact g_ls [0, 1] rfl (h1 q1)
  · refine g_aload_n 0 dX12_compared_61 rfl rfl ?_
    exact g_callV (As := []) (st := []) dX12_compared_62 clX12_166 c0 rfl rfl (Nat.le_of_ble_eq_true rfl) (rmSH (by decide) (by decide)) (h2 q1)
theorem bX12_compared_36 {X : pX} {Q : Option Value → pMem → Prop} {m : pMem} {a0 : Nat} {x1 : Int32} (hW : Wf m) (c0 : SH[a0]? = some (.inl 12))
    (h1 : Q none m) :
    Go X 9 mX12_compared Q 36 [(0, .ref a0), (1, .int x1)] [] m := by
  exact g_vret dX12_compared_36 rfl enSH h1
theorem bX12_compared_74 {X : pX} {Q : Option Value → pMem → Prop} {m : pMem} {a0 : Nat} {x1 : Int32} (hW : Wf m) (c0 : SH[a0]? = some (.inl 12))
    (h1 : Go X 9 mX12_compared Q 75 [(0, .ref a0), (1, .int x1)] [.int (0 : Int32)] m) :
    Go X 9 mX12_compared Q 74 [(0, .ref a0), (1, .int x1)] [] m := by
  refine g_iconst (v := 0) dX12_compared_74 (by decide) ?_
  exact g_ls [0, 1] rfl h1
theorem bX12_compared_65 {X : pX} {Q : Option Value → pMem → Prop} {m : pMem} {a0 : Nat} {x1 : Int32} {xs0 : Int32} (hW : Wf m) (c0 : SH[a0]? = some (.inl 12))
    (h1 : ¬ xs0 = (61 : Int32) → Go X 9 mX12_compared Q 74 [(0, .ref a0), (1, .int x1)] [] m)
    (h2 : xs0 = (61 : Int32) → Go X 9 mX12_compared Q 75 [(0, .ref a0), (1, .int x1)] [.int (1 : Int32)] m) :
    Go X 9 mX12_compared Q 65 [(0, .ref a0), (1, .int x1)] [.int xs0] m := by
  refine g_bipush (v := 61) dX12_compared_65 (by decide) ?_
  refine g_icmp_ne 74 dX12_compared_67 (by decide) (fun q1 => ?_) (fun q1 => ?_)
  · exact g_ls [0, 1] rfl (h1 q1)
  · refine g_iconst (v := 1) dX12_compared_70 (by decide) ?_
    refine g_goto 75 dX12_compared_71 (by decide) ?_
    exact g_ls [0, 1] rfl (h2 q1)
theorem bX12_compared_75 {X : pX} {Q : Option Value → pMem → Prop} {m : pMem} {a0 : Nat} {x1 : Int32} (hW : Wf m) (c0 : SH[a0]? = some (.inl 12))
    (h1 : (0 : Int32) = 0 → Cl X 8 mX12_sum [.ref a0] (uI m a0 20 ((mI m a0 20) + (0 : Int32))) (fun v m2 => Go X 9 mX12_compared Q 98 [(0, .ref a0), (1, .int x1), (2, .int (0 : Int32))] (v.toList ++ []) m2))
    (h2 : ¬ ((0 : Int32) = 0) → Cl X 8 mX12_sum [.ref a0] (uI m a0 20 ((mI m a0 20) + (1 : Int32))) (fun v m2 => Go X 9 mX12_compared Q 98 [(0, .ref a0), (1, .int x1), (2, .int (0 : Int32))] (v.toList ++ []) m2)) :
    Go X 9 mX12_compared Q 75 [(0, .ref a0), (1, .int x1)] [.int (0 : Int32)] m := by
  refine g_istore_n (ls2 := [(2, .int (0 : Int32)), (0, .ref a0), (1, .int x1)]) dX12_compared_75 rfl (by decide) rfl ?_
  refine g_aload_n 1 dX12_compared_76 rfl rfl ?_
  refine g_dup dX12_compared_77 rfl ?_
  refine g_getI dX12_compared_78 fl12_163 c0 ?_
  refine g_iload_n 0 dX12_compared_81 rfl rfl ?_
  refine g_if_eq 89 dX12_compared_82 (by decide) (fun q1 => ?_) (fun q1 => ?_)
  · refine g_iconst (v := 0) dX12_compared_89 (by decide) ?_
    refine g_iadd dX12_compared_90 ?_
    refine g_putI dX12_compared_91 fl12_163 (fun h => by cases h) c0 ?_
    refine g_aload_n 1 dX12_compared_94 rfl rfl ?_
    refine g_ls [1, 2, 0] (ls2 := [(0, .ref a0), (1, .int x1), (2, .int (0 : Int32))]) rfl ?_
    exact g_callV (As := []) (st := []) dX12_compared_95 clX12_228 c0 rfl rfl (Nat.le_of_ble_eq_true rfl) (rmSH (by decide) (by decide)) (h1 q1)
  · refine g_iconst (v := 1) dX12_compared_85 (by decide) ?_
    refine g_goto 90 dX12_compared_86 (by decide) ?_
    refine g_iadd dX12_compared_90 ?_
    refine g_putI dX12_compared_91 fl12_163 (fun h => by cases h) c0 ?_
    refine g_aload_n 1 dX12_compared_94 rfl rfl ?_
    refine g_ls [1, 2, 0] (ls2 := [(0, .ref a0), (1, .int x1), (2, .int (0 : Int32))]) rfl ?_
    exact g_callV (As := []) (st := []) dX12_compared_95 clX12_228 c0 rfl rfl (Nat.le_of_ble_eq_true rfl) (rmSH (by decide) (by decide)) (h2 q1)
theorem bX12_compared_75v1 {X : pX} {Q : Option Value → pMem → Prop} {m : pMem} {a0 : Nat} {x1 : Int32} (hW : Wf m) (c0 : SH[a0]? = some (.inl 12))
    (h1 : (1 : Int32) = 0 → Cl X 8 mX12_sum [.ref a0] (uI m a0 20 ((mI m a0 20) + (0 : Int32))) (fun v m2 => Go X 9 mX12_compared Q 98 [(0, .ref a0), (1, .int x1), (2, .int (1 : Int32))] (v.toList ++ []) m2))
    (h2 : ¬ ((1 : Int32) = 0) → Cl X 8 mX12_sum [.ref a0] (uI m a0 20 ((mI m a0 20) + (1 : Int32))) (fun v m2 => Go X 9 mX12_compared Q 98 [(0, .ref a0), (1, .int x1), (2, .int (1 : Int32))] (v.toList ++ []) m2)) :
    Go X 9 mX12_compared Q 75 [(0, .ref a0), (1, .int x1)] [.int (1 : Int32)] m := by
  refine g_istore_n (ls2 := [(2, .int (1 : Int32)), (0, .ref a0), (1, .int x1)]) dX12_compared_75 rfl (by decide) rfl ?_
  refine g_aload_n 1 dX12_compared_76 rfl rfl ?_
  refine g_dup dX12_compared_77 rfl ?_
  refine g_getI dX12_compared_78 fl12_163 c0 ?_
  refine g_iload_n 0 dX12_compared_81 rfl rfl ?_
  refine g_if_eq 89 dX12_compared_82 (by decide) (fun q1 => ?_) (fun q1 => ?_)
  · refine g_iconst (v := 0) dX12_compared_89 (by decide) ?_
    refine g_iadd dX12_compared_90 ?_
    refine g_putI dX12_compared_91 fl12_163 (fun h => by cases h) c0 ?_
    refine g_aload_n 1 dX12_compared_94 rfl rfl ?_
    refine g_ls [1, 2, 0] (ls2 := [(0, .ref a0), (1, .int x1), (2, .int (1 : Int32))]) rfl ?_
    exact g_callV (As := []) (st := []) dX12_compared_95 clX12_228 c0 rfl rfl (Nat.le_of_ble_eq_true rfl) (rmSH (by decide) (by decide)) (h1 q1)
  · refine g_iconst (v := 1) dX12_compared_85 (by decide) ?_
    refine g_goto 90 dX12_compared_86 (by decide) ?_
    refine g_iadd dX12_compared_90 ?_
    refine g_putI dX12_compared_91 fl12_163 (fun h => by cases h) c0 ?_
    refine g_aload_n 1 dX12_compared_94 rfl rfl ?_
    refine g_ls [1, 2, 0] (ls2 := [(0, .ref a0), (1, .int x1), (2, .int (1 : Int32))]) rfl ?_
    exact g_callV (As := []) (st := []) dX12_compared_95 clX12_228 c0 rfl rfl (Nat.le_of_ble_eq_true rfl) (rmSH (by decide) (by decide)) (h2 q1)
theorem bX12_compared_98 {X : pX} {Q : Option Value → pMem → Prop} {m : pMem} {a0 : Nat} {x1 : Int32} {x2 : Int32} (hW : Wf m) (c0 : SH[a0]? = some (.inl 12))
    (h1 : ¬ x1 = (61 : Int32) → ¬ x1 = (60 : Int32) → x2 = 0 → Cl X 0 mX12_entry [.ref a0, .int (8 : Int32), .int (0 : Int32)] m (fun v m2 => Go X 9 mX12_compared Q 143 [(0, .ref a0), (1, .int x1), (2, .int x2)] (v.toList ++ []) m2))
    (h2 : ¬ x1 = (61 : Int32) → ¬ x1 = (60 : Int32) → ¬ (x2 = 0) → Cl X 0 mX12_entry [.ref a0, .int (7 : Int32), .int (0 : Int32)] m (fun v m2 => Go X 9 mX12_compared Q 143 [(0, .ref a0), (1, .int x1), (2, .int x2)] (v.toList ++ []) m2))
    (h3 : ¬ x1 = (61 : Int32) → x1 = (60 : Int32) → x2 = 0 → Cl X 0 mX12_entry [.ref a0, .int (4 : Int32), .int (0 : Int32)] m (fun v m2 => Go X 9 mX12_compared Q 143 [(0, .ref a0), (1, .int x1), (2, .int x2)] (v.toList ++ []) m2))
    (h4 : ¬ x1 = (61 : Int32) → x1 = (60 : Int32) → ¬ (x2 = 0) → Cl X 0 mX12_entry [.ref a0, .int (5 : Int32), .int (0 : Int32)] m (fun v m2 => Go X 9 mX12_compared Q 143 [(0, .ref a0), (1, .int x1), (2, .int x2)] (v.toList ++ []) m2))
    (h5 : x1 = (61 : Int32) → Cl X 0 mX12_entry [.ref a0, .int (6 : Int32), .int (0 : Int32)] m (fun v m2 => Go X 9 mX12_compared Q 143 [(0, .ref a0), (1, .int x1), (2, .int x2)] (v.toList ++ []) m2)) :
    Go X 9 mX12_compared Q 98 [(0, .ref a0), (1, .int x1), (2, .int x2)] [] m := by
  refine g_aload_n 0 dX12_compared_98 rfl rfl ?_
  refine g_iload_n 1 dX12_compared_99 rfl rfl ?_
  refine g_bipush (v := 61) dX12_compared_100 (by decide) ?_
  refine g_icmp_ne 110 dX12_compared_102 (by decide) (fun q1 => ?_) (fun q1 => ?_)
  · refine g_iload_n 1 dX12_compared_110 rfl rfl ?_
    refine g_bipush (v := 60) dX12_compared_111 (by decide) ?_
    refine g_icmp_ne 128 dX12_compared_113 (by decide) (fun q2 => ?_) (fun q2 => ?_)
    · refine g_iload_n 2 dX12_compared_128 rfl rfl ?_
      refine g_if_eq 137 dX12_compared_129 (by decide) (fun q3 => ?_) (fun q3 => ?_)
      · refine g_bipush (v := 8) dX12_compared_137 (by decide) ?_
        refine g_iconst (v := 0) dX12_compared_139 (by decide) ?_
        exact g_callV (As := [.int (8 : Int32), .int (0 : Int32)]) (st := []) dX12_compared_140 clX12_215 c0 rfl rfl (Nat.le_of_ble_eq_true rfl) (rmSH (by decide) (by decide)) (h1 q1 q2 q3)
      · refine g_bipush (v := 7) dX12_compared_132 (by decide) ?_
        refine g_goto 139 dX12_compared_134 (by decide) ?_
        refine g_iconst (v := 0) dX12_compared_139 (by decide) ?_
        exact g_callV (As := [.int (7 : Int32), .int (0 : Int32)]) (st := []) dX12_compared_140 clX12_215 c0 rfl rfl (Nat.le_of_ble_eq_true rfl) (rmSH (by decide) (by decide)) (h2 q1 q2 q3)
    · refine g_iload_n 2 dX12_compared_116 rfl rfl ?_
      refine g_if_eq 124 dX12_compared_117 (by decide) (fun q4 => ?_) (fun q4 => ?_)
      · refine g_iconst (v := 4) dX12_compared_124 (by decide) ?_
        refine g_goto 139 dX12_compared_125 (by decide) ?_
        refine g_iconst (v := 0) dX12_compared_139 (by decide) ?_
        exact g_callV (As := [.int (4 : Int32), .int (0 : Int32)]) (st := []) dX12_compared_140 clX12_215 c0 rfl rfl (Nat.le_of_ble_eq_true rfl) (rmSH (by decide) (by decide)) (h3 q1 q2 q4)
      · refine g_iconst (v := 5) dX12_compared_120 (by decide) ?_
        refine g_goto 139 dX12_compared_121 (by decide) ?_
        refine g_iconst (v := 0) dX12_compared_139 (by decide) ?_
        exact g_callV (As := [.int (5 : Int32), .int (0 : Int32)]) (st := []) dX12_compared_140 clX12_215 c0 rfl rfl (Nat.le_of_ble_eq_true rfl) (rmSH (by decide) (by decide)) (h4 q1 q2 q4)
  · refine g_bipush (v := 6) dX12_compared_105 (by decide) ?_
    refine g_goto 139 dX12_compared_107 (by decide) ?_
    refine g_iconst (v := 0) dX12_compared_139 (by decide) ?_
    exact g_callV (As := [.int (6 : Int32), .int (0 : Int32)]) (st := []) dX12_compared_140 clX12_215 c0 rfl rfl (Nat.le_of_ble_eq_true rfl) (rmSH (by decide) (by decide)) (h5 q1)
theorem bX12_compared_143 {X : pX} {Q : Option Value → pMem → Prop} {m : pMem} {a0 : Nat} {x1 : Int32} {x2 : Int32} (hW : Wf m) (c0 : SH[a0]? = some (.inl 12))
    (h1 : Q none m) :
    Go X 9 mX12_compared Q 143 [(0, .ref a0), (1, .int x1), (2, .int x2)] [] m := by
  exact g_vret dX12_compared_143 rfl enSH h1
theorem bX12_top_0 {X : pX} {Q : Option Value → pMem → Prop} {m : pMem} {a0 : Nat} (hW : Wf m) (c0 : SH[a0]? = some (.inl 12))
    (h1 : ¬ (mI m a0 27) = 0 → vp_in ((mI m a0 27) - (1 : Int32)) 402)
    (h2 : ¬ (mI m a0 27) = 0 → Q (some (.int (mI m (a0 + 26) (((mI m a0 27) - (1 : Int32)).toNatClampNeg)))) m)
    (h3 : (mI m a0 27) = 0 → Q (some (.int (-1 : Int32))) m) :
    Go X 0 mX12_top Q 0 [(0, .ref a0)] [] m := by
  refine g_aload_n 0 dX12_top_0 rfl rfl ?_
  refine g_getI dX12_top_1 fl12_231 c0 ?_
  refine g_if_ne 11 dX12_top_4 (by decide) (fun q1 => ?_) (fun q1 => ?_)
  · refine g_aload_n 0 dX12_top_11 rfl rfl ?_
    refine g_getR dX12_top_12 fl12_90 rfl c0 (w12_36 hW c0) ?_
    refine g_aload_n 0 dX12_top_15 rfl rfl ?_
    refine g_getI dX12_top_16 fl12_231 c0 ?_
    refine g_iconst (v := 1) dX12_top_19 (by decide) ?_
    refine g_isub dX12_top_20 ?_
    refine g_iald (j := ((mI m a0 27) - (1 : Int32)).toNatClampNeg) dX12_top_21 (s12_36 c0) (h1 q1) rfl ?_
    exact g_iret dX12_top_22 rfl enSH (h2 q1)
  · refine g_iconst (v := -1) dX12_top_7 (by decide) ?_
    refine g_goto 22 dX12_top_8 (by decide) ?_
    exact g_iret dX12_top_22 rfl enSH (h3 q1)
theorem bX12_opens_0 {X : pX} {Q : Option Value → pMem → Prop} {m : pMem} {a0 : Nat} {x1 : Int32} (hW : Wf m) (c0 : SH[a0]? = some (.inl 12))
    (h1 : x1 = (9 : Int32) → Go X 1 mX12_opens Q 12 [(0, .ref a0), (1, .int x1)] [] m)
    (h2 : ¬ (x1 = (9 : Int32)) → ¬ x1 = (12 : Int32) → Go X 1 mX12_opens Q 40 [(0, .ref a0), (1, .int x1)] [] m)
    (h3 : ¬ (x1 = (9 : Int32)) → x1 = (12 : Int32) → Go X 1 mX12_opens Q 12 [(0, .ref a0), (1, .int x1)] [] m) :
    Go X 1 mX12_opens Q 0 [(0, .ref a0), (1, .int x1)] [] m := by
  refine g_iload_n 1 dX12_opens_0 rfl rfl ?_
  refine g_bipush (v := 9) dX12_opens_1 (by decide) ?_
  refine g_icmp_eq 12 dX12_opens_3 (by decide) (fun q1 => ?_) (fun q1 => ?_)
  · exact g_ls [0, 1] rfl (h1 q1)
  · refine g_iload_n 1 dX12_opens_6 rfl rfl ?_
    refine g_bipush (v := 12) dX12_opens_7 (by decide) ?_
    refine g_icmp_ne 40 dX12_opens_9 (by decide) (fun q2 => ?_) (fun q2 => ?_)
    · exact g_ls [0, 1] rfl (h2 q1 q2)
    · exact g_ls [0, 1] rfl (h3 q1 q2)
theorem bX12_opens_12 {X : pX} {Q : Option Value → pMem → Prop} {m : pMem} {a0 : Nat} {x1 : Int32} (hW : Wf m) (c0 : SH[a0]? = some (.inl 12))
    (h1 : ¬ (mI m a0 25) = (10 : Int32) → Go X 1 mX12_opens Q 40 [(0, .ref a0), (1, .int x1)] [] (uI m a0 25 ((mI m a0 25) + (1 : Int32))))
    (h2 : (mI m a0 25) = (10 : Int32) → Cl X 0 mX12_fails [.ref a0, .int (2 : Int32), .int (mI m a0 20)] m (fun v m2 => Go X 1 mX12_opens Q 30 [(0, .ref a0), (1, .int x1)] (v.toList ++ []) m2)) :
    Go X 1 mX12_opens Q 12 [(0, .ref a0), (1, .int x1)] [] m := by
  refine g_aload_n 0 dX12_opens_12 rfl rfl ?_
  refine g_getI dX12_opens_13 fl12_234 c0 ?_
  refine g_bipush (v := 10) dX12_opens_16 (by decide) ?_
  refine g_icmp_ne 30 dX12_opens_18 (by decide) (fun q1 => ?_) (fun q1 => ?_)
  · refine g_aload_n 0 dX12_opens_30 rfl rfl ?_
    refine g_dup dX12_opens_31 rfl ?_
    refine g_getI dX12_opens_32 fl12_234 c0 ?_
    refine g_iconst (v := 1) dX12_opens_35 (by decide) ?_
    refine g_iadd dX12_opens_36 ?_
    refine g_putI dX12_opens_37 fl12_234 (fun h => by cases h) c0 ?_
    exact g_ls [0, 1] rfl (h1 q1)
  · refine g_aload_n 0 dX12_opens_21 rfl rfl ?_
    refine g_iconst (v := 2) dX12_opens_22 (by decide) ?_
    refine g_aload_n 0 dX12_opens_23 rfl rfl ?_
    refine g_getI dX12_opens_24 fl12_163 c0 ?_
    exact g_callV (As := [.int (2 : Int32), .int (mI m a0 20)]) (st := []) dX12_opens_27 clX12_199 c0 rfl rfl (Nat.le_of_ble_eq_true rfl) (rmSH (by decide) (by decide)) (h2 q1)
theorem bX12_opens_40 {X : pX} {Q : Option Value → pMem → Prop} {m : pMem} {a0 : Nat} {x1 : Int32} (hW : Wf m) (c0 : SH[a0]? = some (.inl 12))
    (h1 : vp_in (mI m a0 27) 402)
    (h2 : Q none (uI (uI m (a0 + 26) ((mI m a0 27).toNatClampNeg) x1) a0 27 ((mI (uI m (a0 + 26) ((mI m a0 27).toNatClampNeg) x1) a0 27) + (1 : Int32)))) :
    Go X 1 mX12_opens Q 40 [(0, .ref a0), (1, .int x1)] [] m := by
  refine g_aload_n 0 dX12_opens_40 rfl rfl ?_
  refine g_getR dX12_opens_41 fl12_90 rfl c0 (w12_36 hW c0) ?_
  refine g_aload_n 0 dX12_opens_44 rfl rfl ?_
  refine g_getI dX12_opens_45 fl12_231 c0 ?_
  refine g_iload_n 1 dX12_opens_48 rfl rfl ?_
  refine g_iast (j := (mI m a0 27).toNatClampNeg) dX12_opens_49 (s12_36 c0) h1 rfl ?_
  refine g_aload_n 0 dX12_opens_50 rfl rfl ?_
  refine g_dup dX12_opens_51 rfl ?_
  refine g_getI dX12_opens_52 fl12_231 c0 ?_
  refine g_iconst (v := 1) dX12_opens_55 (by decide) ?_
  refine g_iadd dX12_opens_56 ?_
  refine g_putI dX12_opens_57 fl12_231 (fun h => by cases h) c0 ?_
  exact g_vret dX12_opens_60 rfl enSH h2
theorem bX12_opens_30 {X : pX} {Q : Option Value → pMem → Prop} {m : pMem} {a0 : Nat} {x1 : Int32} (hW : Wf m) (c0 : SH[a0]? = some (.inl 12))
    (h1 : Go X 1 mX12_opens Q 40 [(0, .ref a0), (1, .int x1)] [] (uI m a0 25 ((mI m a0 25) + (1 : Int32)))) :
    Go X 1 mX12_opens Q 30 [(0, .ref a0), (1, .int x1)] [] m := by
  refine g_aload_n 0 dX12_opens_30 rfl rfl ?_
  refine g_dup dX12_opens_31 rfl ?_
  refine g_getI dX12_opens_32 fl12_234 c0 ?_
  refine g_iconst (v := 1) dX12_opens_35 (by decide) ?_
  refine g_iadd dX12_opens_36 ?_
  refine g_putI dX12_opens_37 fl12_234 (fun h => by cases h) c0 ?_
  exact g_ls [0, 1] rfl h1
theorem bX12_answers_0 {X : pX} {Q : Option Value → pMem → Prop} {m : pMem} {a0 : Nat} {x1 : Int32} (hW : Wf m) (c0 : SH[a0]? = some (.inl 12))
    (h1 : Cl X 0 mX12_top [.ref a0] m (fun v m2 => Go X 1 mX12_answers Q 4 [(0, .ref a0), (1, .int x1)] (v.toList ++ []) m2)) :
    Go X 1 mX12_answers Q 0 [(0, .ref a0), (1, .int x1)] [] m := by
  refine g_aload_n 0 dX12_answers_0 rfl rfl ?_
  exact g_callV (As := []) (st := []) dX12_answers_1 clX12_237 c0 rfl rfl (Nat.le_of_ble_eq_true rfl) (rmSH (by decide) (by decide)) h1
theorem bX12_answers_4 {X : pX} {Q : Option Value → pMem → Prop} {m : pMem} {a0 : Nat} {x1 : Int32} {xs0 : Int32} (hW : Wf m) (c0 : SH[a0]? = some (.inl 12))
    (h1 : ¬ xs0 = x1 → Q none m)
    (h2 : xs0 = x1 → ¬ (mI m a0 21) = 0 → Q none m)
    (h3 : xs0 = x1 → (mI m a0 21) = 0 → Cl X 0 mX12_entry [.ref a0, .int x1, .int (0 : Int32)] m (fun v m2 => Go X 1 mX12_answers Q 21 [(0, .ref a0), (1, .int x1)] (v.toList ++ []) m2)) :
    Go X 1 mX12_answers Q 4 [(0, .ref a0), (1, .int x1)] [.int xs0] m := by
  refine g_iload_n 1 dX12_answers_4 rfl rfl ?_
  refine g_icmp_ne 54 dX12_answers_5 (by decide) (fun q1 => ?_) (fun q1 => ?_)
  · exact g_vret dX12_answers_54 rfl enSH (h1 q1)
  · refine g_aload_n 0 dX12_answers_8 rfl rfl ?_
    refine g_getI dX12_answers_9 fl12_160 c0 ?_
    refine g_if_ne 54 dX12_answers_12 (by decide) (fun q2 => ?_) (fun q2 => ?_)
    · exact g_vret dX12_answers_54 rfl enSH (h2 q1 q2)
    · refine g_aload_n 0 dX12_answers_15 rfl rfl ?_
      refine g_iload_n 1 dX12_answers_16 rfl rfl ?_
      refine g_iconst (v := 0) dX12_answers_17 (by decide) ?_
      exact g_callV (As := [.int x1, .int (0 : Int32)]) (st := []) dX12_answers_18 clX12_215 c0 rfl rfl (Nat.le_of_ble_eq_true rfl) (rmSH (by decide) (by decide)) (h3 q1 q2)
theorem bX12_answers_21 {X : pX} {Q : Option Value → pMem → Prop} {m : pMem} {a0 : Nat} {x1 : Int32} (hW : Wf m) (c0 : SH[a0]? = some (.inl 12))
    (h1 : ¬ x1 = (9 : Int32) → Go X 1 mX12_answers Q 0 [(0, .ref a0), (1, .int x1)] [] (uI (uI m a0 27 ((mI m a0 27) - (1 : Int32))) a0 25 ((mI (uI m a0 27 ((mI m a0 27) - (1 : Int32))) a0 25) - (0 : Int32))))
    (h2 : x1 = (9 : Int32) → Go X 1 mX12_answers Q 0 [(0, .ref a0), (1, .int x1)] [] (uI (uI m a0 27 ((mI m a0 27) - (1 : Int32))) a0 25 ((mI (uI m a0 27 ((mI m a0 27) - (1 : Int32))) a0 25) - (1 : Int32)))) :
    Go X 1 mX12_answers Q 21 [(0, .ref a0), (1, .int x1)] [] m := by
  refine g_aload_n 0 dX12_answers_21 rfl rfl ?_
  refine g_dup dX12_answers_22 rfl ?_
  refine g_getI dX12_answers_23 fl12_231 c0 ?_
  refine g_iconst (v := 1) dX12_answers_26 (by decide) ?_
  refine g_isub dX12_answers_27 ?_
  refine g_putI dX12_answers_28 fl12_231 (fun h => by cases h) c0 ?_
  refine g_aload_n 0 dX12_answers_31 rfl rfl ?_
  refine g_dup dX12_answers_32 rfl ?_
  refine g_getI dX12_answers_33 fl12_234 c0 ?_
  refine g_iload_n 1 dX12_answers_36 rfl rfl ?_
  refine g_bipush (v := 9) dX12_answers_37 (by decide) ?_
  refine g_icmp_ne 46 dX12_answers_39 (by decide) (fun q1 => ?_) (fun q1 => ?_)
  · refine g_iconst (v := 0) dX12_answers_46 (by decide) ?_
    refine g_isub dX12_answers_47 ?_
    refine g_putI dX12_answers_48 fl12_234 (fun h => by cases h) c0 ?_
    refine g_goto 0 dX12_answers_51 (by decide) ?_
    exact g_ls [0, 1] rfl (h1 q1)
  · refine g_iconst (v := 1) dX12_answers_42 (by decide) ?_
    refine g_goto 47 dX12_answers_43 (by decide) ?_
    refine g_isub dX12_answers_47 ?_
    refine g_putI dX12_answers_48 fl12_234 (fun h => by cases h) c0 ?_
    refine g_goto 0 dX12_answers_51 (by decide) ?_
    exact g_ls [0, 1] rfl (h2 q1)
theorem bX12_fact_0 {X : pX} {Q : Option Value → pMem → Prop} {m : pMem} {a0 : Nat} (hW : Wf m) (c0 : SH[a0]? = some (.inl 12))
    (h1 : Cl X 1 mX12_blanks [.ref a0] m (fun v m2 => Go X 10 mX12_fact Q 4 [(0, .ref a0)] (v.toList ++ []) m2)) :
    Go X 10 mX12_fact Q 0 [(0, .ref a0)] [] m := by
  refine g_aload_n 0 dX12_fact_0 rfl rfl ?_
  exact g_callV (As := []) (st := []) dX12_fact_1 clX12_183 c0 rfl rfl (Nat.le_of_ble_eq_true rfl) (rmSH (by decide) (by decide)) h1
theorem bX12_fact_4 {X : pX} {Q : Option Value → pMem → Prop} {m : pMem} {a0 : Nat} (hW : Wf m) (c0 : SH[a0]? = some (.inl 12))
    (h1 : Cl X 5 mX12_stood [.ref a0, .retAddr 20] m (fun v m2 => Go X 10 mX12_fact Q 10 [(0, .ref a0)] (v.toList ++ []) m2)) :
    Go X 10 mX12_fact Q 4 [(0, .ref a0)] [] m := by
  refine g_aload_n 0 dX12_fact_4 rfl rfl ?_
  refine g_ldcS 19 (by decide) rfl rfl dX12_fact_5 ?_
  exact g_callV (As := [.retAddr 20]) (st := []) dX12_fact_7 clX12_186 c0 rfl rfl (Nat.le_of_ble_eq_true rfl) (rmSH (by decide) (by decide)) h1
theorem bX12_fact_10 {X : pX} {Q : Option Value → pMem → Prop} {m : pMem} {a0 : Nat} {xs0 : Int32} (hW : Wf m) (c0 : SH[a0]? = some (.inl 12))
    (h1 : xs0 = 0 → Cl X 0 mX12_sign [.ref a0] m (fun v m2 => Go X 10 mX12_fact Q 35 [(0, .ref a0)] (v.toList ++ []) m2))
    (h2 : ¬ (xs0 = 0) → Cl X 1 mX12_opens [.ref a0, .int (9 : Int32)] m (fun v m2 => Go X 10 mX12_fact Q 19 [(0, .ref a0)] (v.toList ++ []) m2)) :
    Go X 10 mX12_fact Q 10 [(0, .ref a0)] [.int xs0] m := by
  refine g_if_eq 31 dX12_fact_10 (by decide) (fun q1 => ?_) (fun q1 => ?_)
  · refine g_aload_n 0 dX12_fact_31 rfl rfl ?_
    exact g_callV (As := []) (st := []) dX12_fact_32 clX12_166 c0 rfl rfl (Nat.le_of_ble_eq_true rfl) (rmSH (by decide) (by decide)) (h1 q1)
  · refine g_aload_n 0 dX12_fact_13 rfl rfl ?_
    refine g_bipush (v := 9) dX12_fact_14 (by decide) ?_
    exact g_callV (As := [.int (9 : Int32)]) (st := []) dX12_fact_16 clX12_242 c0 rfl rfl (Nat.le_of_ble_eq_true rfl) (rmSH (by decide) (by decide)) (h2 q1)
theorem bX12_fact_35 {X : pX} {Q : Option Value → pMem → Prop} {m : pMem} {a0 : Nat} {xs0 : Int32} (hW : Wf m) (c0 : SH[a0]? = some (.inl 12))
    (h1 : ¬ xs0 = (91 : Int32) → Cl X 9 mX12_compared [.ref a0] m (fun v m2 => Go X 10 mX12_fact Q 62 [(0, .ref a0)] (v.toList ++ []) m2))
    (h2 : xs0 = (91 : Int32) → Cl X 1 mX12_opens [.ref a0, .int (12 : Int32)] m (fun v m2 => Go X 10 mX12_fact Q 46 [(0, .ref a0)] (v.toList ++ []) m2)) :
    Go X 10 mX12_fact Q 35 [(0, .ref a0)] [.int xs0] m := by
  refine g_bipush (v := 91) dX12_fact_35 (by decide) ?_
  refine g_icmp_ne 58 dX12_fact_37 (by decide) (fun q1 => ?_) (fun q1 => ?_)
  · refine g_aload_n 0 dX12_fact_58 rfl rfl ?_
    exact g_callV (As := []) (st := []) dX12_fact_59 clX12_245 c0 rfl rfl (Nat.le_of_ble_eq_true rfl) (rmSH (by decide) (by decide)) (h1 q1)
  · refine g_aload_n 0 dX12_fact_40 rfl rfl ?_
    refine g_bipush (v := 12) dX12_fact_41 (by decide) ?_
    exact g_callV (As := [.int (12 : Int32)]) (st := []) dX12_fact_43 clX12_242 c0 rfl rfl (Nat.le_of_ble_eq_true rfl) (rmSH (by decide) (by decide)) (h2 q1)
theorem bX12_fact_19 {X : pX} {Q : Option Value → pMem → Prop} {m : pMem} {a0 : Nat} (hW : Wf m) (c0 : SH[a0]? = some (.inl 12))
    (h1 : Q (some (.int (0 : Int32))) (uI m a0 20 ((mI m a0 20) + (3 : Int32)))) :
    Go X 10 mX12_fact Q 19 [(0, .ref a0)] [] m := by
  refine g_aload_n 0 dX12_fact_19 rfl rfl ?_
  refine g_dup dX12_fact_20 rfl ?_
  refine g_getI dX12_fact_21 fl12_163 c0 ?_
  refine g_iconst (v := 3) dX12_fact_24 (by decide) ?_
  refine g_iadd dX12_fact_25 ?_
  refine g_putI dX12_fact_26 fl12_163 (fun h => by cases h) c0 ?_
  refine g_iconst (v := 0) dX12_fact_29 (by decide) ?_
  exact g_bret dX12_fact_30 rfl (Or.inl rfl) enSH h1
theorem bX12_fact_62 {X : pX} {Q : Option Value → pMem → Prop} {m : pMem} {a0 : Nat} (hW : Wf m) (c0 : SH[a0]? = some (.inl 12))
    (h1 : Q (some (.int (1 : Int32))) m) :
    Go X 10 mX12_fact Q 62 [(0, .ref a0)] [] m := by
  refine g_iconst (v := 1) dX12_fact_62 (by decide) ?_
  exact g_bret dX12_fact_63 rfl (Or.inr rfl) enSH h1
theorem bX12_fact_46 {X : pX} {Q : Option Value → pMem → Prop} {m : pMem} {a0 : Nat} (hW : Wf m) (c0 : SH[a0]? = some (.inl 12))
    (h1 : Q (some (.int (0 : Int32))) (uI m a0 20 ((mI m a0 20) + (1 : Int32)))) :
    Go X 10 mX12_fact Q 46 [(0, .ref a0)] [] m := by
  refine g_aload_n 0 dX12_fact_46 rfl rfl ?_
  refine g_dup dX12_fact_47 rfl ?_
  refine g_getI dX12_fact_48 fl12_163 c0 ?_
  refine g_iconst (v := 1) dX12_fact_51 (by decide) ?_
  refine g_iadd dX12_fact_52 ?_
  refine g_putI dX12_fact_53 fl12_163 (fun h => by cases h) c0 ?_
  refine g_iconst (v := 0) dX12_fact_56 (by decide) ?_
  exact g_bret dX12_fact_57 rfl (Or.inl rfl) enSH h1
theorem bX12_test_0 {X : pX} {Q : Option Value → pMem → Prop} {m : pMem} {a0 : Nat} (hW : Wf m) (c0 : SH[a0]? = some (.inl 12))
    (h1 : Go X 11 mX12_test Q 9 [(0, .ref a0), (1, .int (1 : Int32)), (2, .int (1 : Int32))] [] (uI m a0 27 (0 : Int32))) :
    Go X 11 mX12_test Q 0 [(0, .ref a0)] [] m := by
  refine g_aload_n 0 dX12_test_0 rfl rfl ?_
  refine g_iconst (v := 0) dX12_test_1 (by decide) ?_
  refine g_putI dX12_test_2 fl12_231 (fun h => by cases h) c0 ?_
  refine g_iconst (v := 1) dX12_test_5 (by decide) ?_
  refine g_istore_n (ls2 := [(1, .int (1 : Int32)), (0, .ref a0)]) dX12_test_6 rfl (by decide) rfl ?_
  refine g_iconst (v := 1) dX12_test_7 (by decide) ?_
  refine g_istore_n (ls2 := [(2, .int (1 : Int32)), (1, .int (1 : Int32)), (0, .ref a0)]) dX12_test_8 rfl (by decide) rfl ?_
  exact g_ls [2, 1, 0] rfl h1
theorem bX12_test_9 {X : pX} {Q : Option Value → pMem → Prop} {m : pMem} {a0 : Nat} {x1 : Int32} {x2 : Int32} (hW : Wf m) (c0 : SH[a0]? = some (.inl 12))
    (h1 : x2 = 0 → Q none m)
    (h2 : ¬ (x2 = 0) → ¬ (mI m a0 21) = 0 → Q none m)
    (h3 : ¬ (x2 = 0) → (mI m a0 21) = 0 → x1 = 0 → Cl X 1 mX12_answers [.ref a0, .int (9 : Int32)] m (fun v m2 => Go X 11 mX12_test Q 46 [(0, .ref a0), (1, .int x1), (2, .int x2)] (v.toList ++ []) m2))
    (h4 : ¬ (x2 = 0) → (mI m a0 21) = 0 → ¬ (x1 = 0) → Cl X 10 mX12_fact [.ref a0] m (fun v m2 => Go X 11 mX12_test Q 28 [(0, .ref a0), (1, .int x1), (2, .int x2)] (v.toList ++ []) m2)) :
    Go X 11 mX12_test Q 9 [(0, .ref a0), (1, .int x1), (2, .int x2)] [] m := by
  refine g_iload_n 2 dX12_test_9 rfl rfl ?_
  refine g_if_eq 201 dX12_test_10 (by decide) (fun q1 => ?_) (fun q1 => ?_)
  · exact g_vret dX12_test_201 rfl enSH (h1 q1)
  · refine g_aload_n 0 dX12_test_13 rfl rfl ?_
    refine g_getI dX12_test_14 fl12_160 c0 ?_
    refine g_if_ne 201 dX12_test_17 (by decide) (fun q2 => ?_) (fun q2 => ?_)
    · exact g_vret dX12_test_201 rfl enSH (h2 q1 q2)
    · refine g_iload_n 1 dX12_test_20 rfl rfl ?_
      refine g_if_eq 40 dX12_test_21 (by decide) (fun q3 => ?_) (fun q3 => ?_)
      · refine g_aload_n 0 dX12_test_40 rfl rfl ?_
        refine g_bipush (v := 9) dX12_test_41 (by decide) ?_
        exact g_callV (As := [.int (9 : Int32)]) (st := []) dX12_test_43 clX12_251 c0 rfl rfl (Nat.le_of_ble_eq_true rfl) (rmSH (by decide) (by decide)) (h3 q1 q2 q3)
      · refine g_aload_n 0 dX12_test_24 rfl rfl ?_
        exact g_callV (As := []) (st := []) dX12_test_25 clX12_248 c0 rfl rfl (Nat.le_of_ble_eq_true rfl) (rmSH (by decide) (by decide)) (h4 q1 q2 q3)
theorem bX12_test_46 {X : pX} {Q : Option Value → pMem → Prop} {m : pMem} {a0 : Nat} {x1 : Int32} {x2 : Int32} (hW : Wf m) (c0 : SH[a0]? = some (.inl 12))
    (h1 : Cl X 1 mX12_blanks [.ref a0] m (fun v m2 => Go X 11 mX12_test Q 50 [(0, .ref a0), (1, .int x1), (2, .int x2)] (v.toList ++ []) m2)) :
    Go X 11 mX12_test Q 46 [(0, .ref a0), (1, .int x1), (2, .int x2)] [] m := by
  refine g_aload_n 0 dX12_test_46 rfl rfl ?_
  exact g_callV (As := []) (st := []) dX12_test_47 clX12_183 c0 rfl rfl (Nat.le_of_ble_eq_true rfl) (rmSH (by decide) (by decide)) h1
theorem bX12_test_28 {X : pX} {Q : Option Value → pMem → Prop} {m : pMem} {a0 : Nat} {x1 : Int32} {x2 : Int32} {xs0 : Int32} (hW : Wf m) (c0 : SH[a0]? = some (.inl 12))
    (h1 : ¬ xs0 = 0 → Go X 11 mX12_test Q 9 [(0, .ref a0), (1, .int (0 : Int32)), (2, .int x2)] [] m)
    (h2 : xs0 = 0 → Go X 11 mX12_test Q 9 [(0, .ref a0), (1, .int (1 : Int32)), (2, .int x2)] [] m) :
    Go X 11 mX12_test Q 28 [(0, .ref a0), (1, .int x1), (2, .int x2)] [.int xs0] m := by
  refine g_if_ne 35 dX12_test_28 (by decide) (fun q1 => ?_) (fun q1 => ?_)
  · refine g_iconst (v := 0) dX12_test_35 (by decide) ?_
    refine g_istore_n (ls2 := [(1, .int (0 : Int32)), (0, .ref a0), (2, .int x2)]) dX12_test_36 rfl (by decide) rfl ?_
    refine g_goto 9 dX12_test_37 (by decide) ?_
    exact g_ls [1, 0, 2] rfl (h1 q1)
  · refine g_iconst (v := 1) dX12_test_31 (by decide) ?_
    refine g_goto 36 dX12_test_32 (by decide) ?_
    refine g_istore_n (ls2 := [(1, .int (1 : Int32)), (0, .ref a0), (2, .int x2)]) dX12_test_36 rfl (by decide) rfl ?_
    refine g_goto 9 dX12_test_37 (by decide) ?_
    exact g_ls [1, 0, 2] rfl (h2 q1)
theorem bX12_test_50 {X : pX} {Q : Option Value → pMem → Prop} {m : pMem} {a0 : Nat} {x1 : Int32} {x2 : Int32} (hW : Wf m) (c0 : SH[a0]? = some (.inl 12))
    (h1 : Cl X 5 mX12_stood [.ref a0, .retAddr 21] m (fun v m2 => Go X 11 mX12_test Q 56 [(0, .ref a0), (1, .int x1), (2, .int x2)] (v.toList ++ []) m2)) :
    Go X 11 mX12_test Q 50 [(0, .ref a0), (1, .int x1), (2, .int x2)] [] m := by
  refine g_aload_n 0 dX12_test_50 rfl rfl ?_
  refine g_ldcS 20 (by decide) rfl rfl dX12_test_51 ?_
  exact g_callV (As := [.retAddr 21]) (st := []) dX12_test_53 clX12_186 c0 rfl rfl (Nat.le_of_ble_eq_true rfl) (rmSH (by decide) (by decide)) h1
theorem bX12_test_56 {X : pX} {Q : Option Value → pMem → Prop} {m : pMem} {a0 : Nat} {x1 : Int32} {x2 : Int32} {xs0 : Int32} (hW : Wf m) (c0 : SH[a0]? = some (.inl 12))
    (h1 : Cl X 5 mX12_stood [.ref a0, .retAddr 22] m (fun v m2 => Go X 11 mX12_test Q 64 [(0, .ref a0), (1, .int x1), (2, .int x2), (3, .int xs0)] (v.toList ++ []) m2)) :
    Go X 11 mX12_test Q 56 [(0, .ref a0), (1, .int x1), (2, .int x2)] [.int xs0] m := by
  refine g_istore_n (ls2 := [(3, .int xs0), (0, .ref a0), (1, .int x1), (2, .int x2)]) dX12_test_56 rfl (by decide) rfl ?_
  refine g_aload_n 1 dX12_test_57 rfl rfl ?_
  refine g_ldcwS 21 (by decide) rfl rfl dX12_test_58 ?_
  refine g_ls [1, 2, 3, 0] (ls2 := [(0, .ref a0), (1, .int x1), (2, .int x2), (3, .int xs0)]) rfl ?_
  exact g_callV (As := [.retAddr 22]) (st := []) dX12_test_61 clX12_186 c0 rfl rfl (Nat.le_of_ble_eq_true rfl) (rmSH (by decide) (by decide)) h1
theorem bX12_test_64 {X : pX} {Q : Option Value → pMem → Prop} {m : pMem} {a0 : Nat} {x1 : Int32} {x2 : Int32} {x3 : Int32} {xs0 : Int32} (hW : Wf m) (c0 : SH[a0]? = some (.inl 12))
    (h1 : Cl X 1 mX12_answers [.ref a0, .int (10 : Int32)] m (fun v m2 => Go X 11 mX12_test Q 72 [(0, .ref a0), (1, .int x1), (2, .int x2), (3, .int x3), (4, .int xs0)] (v.toList ++ []) m2)) :
    Go X 11 mX12_test Q 64 [(0, .ref a0), (1, .int x1), (2, .int x2), (3, .int x3)] [.int xs0] m := by
  refine g_istore (ls2 := [(4, .int xs0), (0, .ref a0), (1, .int x1), (2, .int x2), (3, .int x3)]) dX12_test_64 (by decide) rfl ?_
  refine g_aload_n 1 dX12_test_66 rfl rfl ?_
  refine g_bipush (v := 10) dX12_test_67 (by decide) ?_
  refine g_ls [1, 2, 3, 4, 0] (ls2 := [(0, .ref a0), (1, .int x1), (2, .int x2), (3, .int x3), (4, .int xs0)]) rfl ?_
  exact g_callV (As := [.int (10 : Int32)]) (st := []) dX12_test_69 clX12_251 c0 rfl rfl (Nat.le_of_ble_eq_true rfl) (rmSH (by decide) (by decide)) h1
theorem bX12_test_72 {X : pX} {Q : Option Value → pMem → Prop} {m : pMem} {a0 : Nat} {x1 : Int32} {x2 : Int32} {x3 : Int32} {x4 : Int32} (hW : Wf m) (c0 : SH[a0]? = some (.inl 12))
    (h1 : ¬ x3 = 0 → Go X 11 mX12_test Q 81 [(0, .ref a0), (2, .int x2), (3, .int x3), (4, .int x4)] [] m)
    (h2 : x3 = 0 → x4 = 0 → Cl X 1 mX12_answers [.ref a0, .int (11 : Int32)] m (fun v m2 => Go X 11 mX12_test Q 136 [(0, .ref a0), (1, .int x1), (2, .int x2), (3, .int x3), (4, .int x4)] (v.toList ++ []) m2))
    (h3 : x3 = 0 → ¬ (x4 = 0) → Go X 11 mX12_test Q 81 [(0, .ref a0), (2, .int x2), (3, .int x3), (4, .int x4)] [] m) :
    Go X 11 mX12_test Q 72 [(0, .ref a0), (1, .int x1), (2, .int x2), (3, .int x3), (4, .int x4)] [] m := by
  refine g_iload_n 3 dX12_test_72 rfl rfl ?_
  refine g_if_ne 81 dX12_test_73 (by decide) (fun q1 => ?_) (fun q1 => ?_)
  · exact g_ls [0, 2, 3, 4] rfl (h1 q1)
  · refine g_iload 4 dX12_test_76 rfl ?_
    refine g_if_eq 130 dX12_test_78 (by decide) (fun q2 => ?_) (fun q2 => ?_)
    · refine g_aload_n 0 dX12_test_130 rfl rfl ?_
      refine g_bipush (v := 11) dX12_test_131 (by decide) ?_
      exact g_callV (As := [.int (11 : Int32)]) (st := []) dX12_test_133 clX12_251 c0 rfl rfl (Nat.le_of_ble_eq_true rfl) (rmSH (by decide) (by decide)) (h2 q1 q2)
    · exact g_ls [0, 2, 3, 4] rfl (h3 q1 q2)
theorem bX12_test_81 {X : pX} {Q : Option Value → pMem → Prop} {m : pMem} {a0 : Nat} {x2 : Int32} {x3 : Int32} {x4 : Int32} (hW : Wf m) (c0 : SH[a0]? = some (.inl 12))
    (h1 : x4 = 0 → Go X 11 mX12_test Q 92 [(0, .ref a0), (2, .int x2), (3, .int x3)] [] m)
    (h2 : ¬ (x4 = 0) → Cl X 1 mX12_answers [.ref a0, .int (11 : Int32)] m (fun v m2 => Go X 11 mX12_test Q 92 [(0, .ref a0), (2, .int x2), (3, .int x3), (4, .int x4)] (v.toList ++ []) m2)) :
    Go X 11 mX12_test Q 81 [(0, .ref a0), (2, .int x2), (3, .int x3), (4, .int x4)] [] m := by
  refine g_iload 3 dX12_test_81 rfl ?_
  refine g_if_eq 92 dX12_test_83 (by decide) (fun q1 => ?_) (fun q1 => ?_)
  · exact g_ls [0, 1, 2] rfl (h1 q1)
  · refine g_aload_n 0 dX12_test_86 rfl rfl ?_
    refine g_bipush (v := 11) dX12_test_87 (by decide) ?_
    exact g_callV (As := [.int (11 : Int32)]) (st := []) dX12_test_89 clX12_251 c0 rfl rfl (Nat.le_of_ble_eq_true rfl) (rmSH (by decide) (by decide)) (h2 q1)
theorem bX12_test_136 {X : pX} {Q : Option Value → pMem → Prop} {m : pMem} {a0 : Nat} {x1 : Int32} {x2 : Int32} {x3 : Int32} {x4 : Int32} (hW : Wf m) (c0 : SH[a0]? = some (.inl 12))
    (h1 : Cl X 0 mX12_top [.ref a0] m (fun v m2 => Go X 11 mX12_test Q 140 [(0, .ref a0), (1, .int x1), (2, .int x2), (3, .int x3), (4, .int x4)] (v.toList ++ []) m2)) :
    Go X 11 mX12_test Q 136 [(0, .ref a0), (1, .int x1), (2, .int x2), (3, .int x3), (4, .int x4)] [] m := by
  refine g_aload_n 0 dX12_test_136 rfl rfl ?_
  exact g_callV (As := []) (st := []) dX12_test_137 clX12_237 c0 rfl rfl (Nat.le_of_ble_eq_true rfl) (rmSH (by decide) (by decide)) h1
theorem bX12_test_92 {X : pX} {Q : Option Value → pMem → Prop} {m : pMem} {a0 : Nat} {x2 : Int32} {x3 : Int32} (hW : Wf m) (c0 : SH[a0]? = some (.inl 12))
    (h1 : x3 = 0 → Cl X 1 mX12_opens [.ref a0, .int (11 : Int32)] m (fun v m2 => Go X 11 mX12_test Q 107 [(0, .ref a0), (2, .int x2), (3, .int x3)] (v.toList ++ []) m2))
    (h2 : ¬ (x3 = 0) → Cl X 1 mX12_opens [.ref a0, .int (10 : Int32)] m (fun v m2 => Go X 11 mX12_test Q 107 [(0, .ref a0), (2, .int x2), (3, .int x3)] (v.toList ++ []) m2)) :
    Go X 11 mX12_test Q 92 [(0, .ref a0), (2, .int x2), (3, .int x3)] [] m := by
  refine g_aload_n 0 dX12_test_92 rfl rfl ?_
  refine g_iload_n 2 dX12_test_93 rfl rfl ?_
  refine g_if_eq 102 dX12_test_94 (by decide) (fun q1 => ?_) (fun q1 => ?_)
  · refine g_bipush (v := 11) dX12_test_102 (by decide) ?_
    exact g_callV (As := [.int (11 : Int32)]) (st := []) dX12_test_104 clX12_242 c0 rfl rfl (Nat.le_of_ble_eq_true rfl) (rmSH (by decide) (by decide)) (h1 q1)
  · refine g_bipush (v := 10) dX12_test_97 (by decide) ?_
    refine g_goto 104 dX12_test_99 (by decide) ?_
    exact g_callV (As := [.int (10 : Int32)]) (st := []) dX12_test_104 clX12_242 c0 rfl rfl (Nat.le_of_ble_eq_true rfl) (rmSH (by decide) (by decide)) (h2 q1)
theorem bX12_test_92v1 {X : pX} {Q : Option Value → pMem → Prop} {m : pMem} {a0 : Nat} {x2 : Int32} {x3 : Int32} {x4 : Int32} (hW : Wf m) (c0 : SH[a0]? = some (.inl 12))
    (h1 : x3 = 0 → Cl X 1 mX12_opens [.ref a0, .int (11 : Int32)] m (fun v m2 => Go X 11 mX12_test Q 107 [(0, .ref a0), (2, .int x2), (3, .int x3), (4, .int x4)] (v.toList ++ []) m2))
    (h2 : ¬ (x3 = 0) → Cl X 1 mX12_opens [.ref a0, .int (10 : Int32)] m (fun v m2 => Go X 11 mX12_test Q 107 [(0, .ref a0), (2, .int x2), (3, .int x3), (4, .int x4)] (v.toList ++ []) m2)) :
    Go X 11 mX12_test Q 92 [(0, .ref a0), (2, .int x2), (3, .int x3), (4, .int x4)] [] m := by
  refine g_aload_n 0 dX12_test_92 rfl rfl ?_
  refine g_iload_n 2 dX12_test_93 rfl rfl ?_
  refine g_if_eq 102 dX12_test_94 (by decide) (fun q1 => ?_) (fun q1 => ?_)
  · refine g_bipush (v := 11) dX12_test_102 (by decide) ?_
    exact g_callV (As := [.int (11 : Int32)]) (st := []) dX12_test_104 clX12_242 c0 rfl rfl (Nat.le_of_ble_eq_true rfl) (rmSH (by decide) (by decide)) (h1 q1)
  · refine g_bipush (v := 10) dX12_test_97 (by decide) ?_
    refine g_goto 104 dX12_test_99 (by decide) ?_
    exact g_callV (As := [.int (10 : Int32)]) (st := []) dX12_test_104 clX12_242 c0 rfl rfl (Nat.le_of_ble_eq_true rfl) (rmSH (by decide) (by decide)) (h2 q1)
theorem bX12_test_140 {X : pX} {Q : Option Value → pMem → Prop} {m : pMem} {a0 : Nat} {x1 : Int32} {x2 : Int32} {x3 : Int32} {x4 : Int32} {xs0 : Int32} (hW : Wf m) (c0 : SH[a0]? = some (.inl 12))
    (h1 : ¬ xs0 = (12 : Int32) → Go X 11 mX12_test Q 9 [(0, .ref a0), (1, .int x1), (2, .int (0 : Int32))] [] m)
    (h2 : xs0 = (12 : Int32) → Cl X 0 mX12_sign [.ref a0] m (fun v m2 => Go X 11 mX12_test Q 149 [(0, .ref a0), (1, .int x1), (2, .int x2), (3, .int x3), (4, .int x4)] (v.toList ++ []) m2)) :
    Go X 11 mX12_test Q 140 [(0, .ref a0), (1, .int x1), (2, .int x2), (3, .int x3), (4, .int x4)] [.int xs0] m := by
  refine g_bipush (v := 12) dX12_test_140 (by decide) ?_
  refine g_icmp_ne 196 dX12_test_142 (by decide) (fun q1 => ?_) (fun q1 => ?_)
  · refine g_iconst (v := 0) dX12_test_196 (by decide) ?_
    refine g_istore_n (ls2 := [(2, .int (0 : Int32)), (0, .ref a0), (1, .int x1), (3, .int x3), (4, .int x4)]) dX12_test_197 rfl (by decide) rfl ?_
    refine g_goto 9 dX12_test_198 (by decide) ?_
    exact g_ls [1, 2, 0] rfl (h1 q1)
  · refine g_aload_n 0 dX12_test_145 rfl rfl ?_
    exact g_callV (As := []) (st := []) dX12_test_146 clX12_166 c0 rfl rfl (Nat.le_of_ble_eq_true rfl) (rmSH (by decide) (by decide)) (h2 q1)
theorem bX12_test_107 {X : pX} {Q : Option Value → pMem → Prop} {m : pMem} {a0 : Nat} {x2 : Int32} {x3 : Int32} (hW : Wf m) (c0 : SH[a0]? = some (.inl 12))
    (h1 : x3 = 0 → Go X 11 mX12_test Q 9 [(0, .ref a0), (1, .int (1 : Int32)), (2, .int x2)] [] (uI m a0 20 ((mI m a0 20) + (2 : Int32))))
    (h2 : ¬ (x3 = 0) → Go X 11 mX12_test Q 9 [(0, .ref a0), (1, .int (1 : Int32)), (2, .int x2)] [] (uI m a0 20 ((mI m a0 20) + (3 : Int32)))) :
    Go X 11 mX12_test Q 107 [(0, .ref a0), (2, .int x2), (3, .int x3)] [] m := by
  refine g_aload_n 0 dX12_test_107 rfl rfl ?_
  refine g_dup dX12_test_108 rfl ?_
  refine g_getI dX12_test_109 fl12_163 c0 ?_
  refine g_iload_n 2 dX12_test_112 rfl rfl ?_
  refine g_if_eq 120 dX12_test_113 (by decide) (fun q1 => ?_) (fun q1 => ?_)
  · refine g_iconst (v := 2) dX12_test_120 (by decide) ?_
    refine g_iadd dX12_test_121 ?_
    refine g_putI dX12_test_122 fl12_163 (fun h => by cases h) c0 ?_
    refine g_iconst (v := 1) dX12_test_125 (by decide) ?_
    refine g_istore_n (ls2 := [(1, .int (1 : Int32)), (0, .ref a0), (2, .int x2), (3, .int x3)]) dX12_test_126 rfl (by decide) rfl ?_
    refine g_goto 198 dX12_test_127 (by decide) ?_
    refine g_goto 9 dX12_test_198 (by decide) ?_
    exact g_ls [1, 0, 2] rfl (h1 q1)
  · refine g_iconst (v := 3) dX12_test_116 (by decide) ?_
    refine g_goto 121 dX12_test_117 (by decide) ?_
    refine g_iadd dX12_test_121 ?_
    refine g_putI dX12_test_122 fl12_163 (fun h => by cases h) c0 ?_
    refine g_iconst (v := 1) dX12_test_125 (by decide) ?_
    refine g_istore_n (ls2 := [(1, .int (1 : Int32)), (0, .ref a0), (2, .int x2), (3, .int x3)]) dX12_test_126 rfl (by decide) rfl ?_
    refine g_goto 198 dX12_test_127 (by decide) ?_
    refine g_goto 9 dX12_test_198 (by decide) ?_
    exact g_ls [1, 0, 2] rfl (h2 q1)
theorem bX12_test_107v1 {X : pX} {Q : Option Value → pMem → Prop} {m : pMem} {a0 : Nat} {x2 : Int32} {x3 : Int32} {x4 : Int32} (hW : Wf m) (c0 : SH[a0]? = some (.inl 12))
    (h1 : x3 = 0 → Go X 11 mX12_test Q 9 [(0, .ref a0), (1, .int (1 : Int32)), (2, .int x2)] [] (uI m a0 20 ((mI m a0 20) + (2 : Int32))))
    (h2 : ¬ (x3 = 0) → Go X 11 mX12_test Q 9 [(0, .ref a0), (1, .int (1 : Int32)), (2, .int x2)] [] (uI m a0 20 ((mI m a0 20) + (3 : Int32)))) :
    Go X 11 mX12_test Q 107 [(0, .ref a0), (2, .int x2), (3, .int x3), (4, .int x4)] [] m := by
  refine g_aload_n 0 dX12_test_107 rfl rfl ?_
  refine g_dup dX12_test_108 rfl ?_
  refine g_getI dX12_test_109 fl12_163 c0 ?_
  refine g_iload_n 2 dX12_test_112 rfl rfl ?_
  refine g_if_eq 120 dX12_test_113 (by decide) (fun q1 => ?_) (fun q1 => ?_)
  · refine g_iconst (v := 2) dX12_test_120 (by decide) ?_
    refine g_iadd dX12_test_121 ?_
    refine g_putI dX12_test_122 fl12_163 (fun h => by cases h) c0 ?_
    refine g_iconst (v := 1) dX12_test_125 (by decide) ?_
    refine g_istore_n (ls2 := [(1, .int (1 : Int32)), (0, .ref a0), (2, .int x2), (3, .int x3), (4, .int x4)]) dX12_test_126 rfl (by decide) rfl ?_
    refine g_goto 198 dX12_test_127 (by decide) ?_
    refine g_goto 9 dX12_test_198 (by decide) ?_
    exact g_ls [1, 0, 2] rfl (h1 q1)
  · refine g_iconst (v := 3) dX12_test_116 (by decide) ?_
    refine g_goto 121 dX12_test_117 (by decide) ?_
    refine g_iadd dX12_test_121 ?_
    refine g_putI dX12_test_122 fl12_163 (fun h => by cases h) c0 ?_
    refine g_iconst (v := 1) dX12_test_125 (by decide) ?_
    refine g_istore_n (ls2 := [(1, .int (1 : Int32)), (0, .ref a0), (2, .int x2), (3, .int x3), (4, .int x4)]) dX12_test_126 rfl (by decide) rfl ?_
    refine g_goto 198 dX12_test_127 (by decide) ?_
    refine g_goto 9 dX12_test_198 (by decide) ?_
    exact g_ls [1, 0, 2] rfl (h2 q1)
theorem bX12_test_149 {X : pX} {Q : Option Value → pMem → Prop} {m : pMem} {a0 : Nat} {x1 : Int32} {x2 : Int32} {x3 : Int32} {x4 : Int32} {xs0 : Int32} (hW : Wf m) (c0 : SH[a0]? = some (.inl 12))
    (h1 : xs0 = (93 : Int32) → Go X 11 mX12_test Q 163 [(0, .ref a0), (1, .int x1), (2, .int x2)] [] m)
    (h2 : ¬ (xs0 = (93 : Int32)) → Cl X 0 mX12_fails [.ref a0, .int (0 : Int32), .int (mI m a0 20)] m (fun v m2 => Go X 11 mX12_test Q 163 [(0, .ref a0), (1, .int x1), (2, .int x2), (3, .int x3), (4, .int x4)] (v.toList ++ []) m2)) :
    Go X 11 mX12_test Q 149 [(0, .ref a0), (1, .int x1), (2, .int x2), (3, .int x3), (4, .int x4)] [.int xs0] m := by
  refine g_bipush (v := 93) dX12_test_149 (by decide) ?_
  refine g_icmp_eq 163 dX12_test_151 (by decide) (fun q1 => ?_) (fun q1 => ?_)
  · exact g_ls [0, 1, 2] rfl (h1 q1)
  · refine g_aload_n 0 dX12_test_154 rfl rfl ?_
    refine g_iconst (v := 0) dX12_test_155 (by decide) ?_
    refine g_aload_n 0 dX12_test_156 rfl rfl ?_
    refine g_getI dX12_test_157 fl12_163 c0 ?_
    exact g_callV (As := [.int (0 : Int32), .int (mI m a0 20)]) (st := []) dX12_test_160 clX12_199 c0 rfl rfl (Nat.le_of_ble_eq_true rfl) (rmSH (by decide) (by decide)) (h2 q1)
theorem bX12_test_163 {X : pX} {Q : Option Value → pMem → Prop} {m : pMem} {a0 : Nat} {x1 : Int32} {x2 : Int32} (hW : Wf m) (c0 : SH[a0]? = some (.inl 12))
    (h1 : Go X 11 mX12_test Q 9 [(0, .ref a0), (1, .int x1), (2, .int x2)] [] (uI (uI (uI m a0 20 ((mI m a0 20) + (1 : Int32))) a0 27 ((mI (uI m a0 20 ((mI m a0 20) + (1 : Int32))) a0 27) - (1 : Int32))) a0 25 ((mI (uI (uI m a0 20 ((mI m a0 20) + (1 : Int32))) a0 27 ((mI (uI m a0 20 ((mI m a0 20) + (1 : Int32))) a0 27) - (1 : Int32))) a0 25) - (1 : Int32)))) :
    Go X 11 mX12_test Q 163 [(0, .ref a0), (1, .int x1), (2, .int x2)] [] m := by
  refine g_aload_n 0 dX12_test_163 rfl rfl ?_
  refine g_dup dX12_test_164 rfl ?_
  refine g_getI dX12_test_165 fl12_163 c0 ?_
  refine g_iconst (v := 1) dX12_test_168 (by decide) ?_
  refine g_iadd dX12_test_169 ?_
  refine g_putI dX12_test_170 fl12_163 (fun h => by cases h) c0 ?_
  refine g_aload_n 0 dX12_test_173 rfl rfl ?_
  refine g_dup dX12_test_174 rfl ?_
  refine g_getI dX12_test_175 fl12_231 c0 ?_
  refine g_iconst (v := 1) dX12_test_178 (by decide) ?_
  refine g_isub dX12_test_179 ?_
  refine g_putI dX12_test_180 fl12_231 (fun h => by cases h) c0 ?_
  refine g_aload_n 0 dX12_test_183 rfl rfl ?_
  refine g_dup dX12_test_184 rfl ?_
  refine g_getI dX12_test_185 fl12_234 c0 ?_
  refine g_iconst (v := 1) dX12_test_188 (by decide) ?_
  refine g_isub dX12_test_189 ?_
  refine g_putI dX12_test_190 fl12_234 (fun h => by cases h) c0 ?_
  refine g_goto 198 dX12_test_193 (by decide) ?_
  refine g_goto 9 dX12_test_198 (by decide) ?_
  exact g_ls [0, 1, 2] rfl h1
theorem bX12_test_163v1 {X : pX} {Q : Option Value → pMem → Prop} {m : pMem} {a0 : Nat} {x1 : Int32} {x2 : Int32} {x3 : Int32} {x4 : Int32} (hW : Wf m) (c0 : SH[a0]? = some (.inl 12))
    (h1 : Go X 11 mX12_test Q 9 [(0, .ref a0), (1, .int x1), (2, .int x2)] [] (uI (uI (uI m a0 20 ((mI m a0 20) + (1 : Int32))) a0 27 ((mI (uI m a0 20 ((mI m a0 20) + (1 : Int32))) a0 27) - (1 : Int32))) a0 25 ((mI (uI (uI m a0 20 ((mI m a0 20) + (1 : Int32))) a0 27 ((mI (uI m a0 20 ((mI m a0 20) + (1 : Int32))) a0 27) - (1 : Int32))) a0 25) - (1 : Int32)))) :
    Go X 11 mX12_test Q 163 [(0, .ref a0), (1, .int x1), (2, .int x2), (3, .int x3), (4, .int x4)] [] m := by
  refine g_aload_n 0 dX12_test_163 rfl rfl ?_
  refine g_dup dX12_test_164 rfl ?_
  refine g_getI dX12_test_165 fl12_163 c0 ?_
  refine g_iconst (v := 1) dX12_test_168 (by decide) ?_
  refine g_iadd dX12_test_169 ?_
  refine g_putI dX12_test_170 fl12_163 (fun h => by cases h) c0 ?_
  refine g_aload_n 0 dX12_test_173 rfl rfl ?_
  refine g_dup dX12_test_174 rfl ?_
  refine g_getI dX12_test_175 fl12_231 c0 ?_
  refine g_iconst (v := 1) dX12_test_178 (by decide) ?_
  refine g_isub dX12_test_179 ?_
  refine g_putI dX12_test_180 fl12_231 (fun h => by cases h) c0 ?_
  refine g_aload_n 0 dX12_test_183 rfl rfl ?_
  refine g_dup dX12_test_184 rfl ?_
  refine g_getI dX12_test_185 fl12_234 c0 ?_
  refine g_iconst (v := 1) dX12_test_188 (by decide) ?_
  refine g_isub dX12_test_189 ?_
  refine g_putI dX12_test_190 fl12_234 (fun h => by cases h) c0 ?_
  refine g_goto 198 dX12_test_193 (by decide) ?_
  refine g_goto 9 dX12_test_198 (by decide) ?_
  exact g_ls [0, 1, 2] rfl h1
theorem bX12_amount_0 {X : pX} {Q : Option Value → pMem → Prop} {m : pMem} {a0 : Nat} {x1 : Int32} {x2 : Int32} (hW : Wf m) (c0 : SH[a0]? = some (.inl 12))
    (h1 : Cl X 1 mX12_blanks [.ref a0] m (fun v m2 => Go X 3 mX12_amount Q 4 [(0, .ref a0), (1, .int x1), (2, .int x2)] (v.toList ++ []) m2)) :
    Go X 3 mX12_amount Q 0 [(0, .ref a0), (1, .int x1), (2, .int x2)] [] m := by
  refine g_aload_n 0 dX12_amount_0 rfl rfl ?_
  exact g_callV (As := []) (st := []) dX12_amount_1 clX12_183 c0 rfl rfl (Nat.le_of_ble_eq_true rfl) (rmSH (by decide) (by decide)) h1
theorem bX12_amount_4 {X : pX} {Q : Option Value → pMem → Prop} {m : pMem} {a0 : Nat} {x1 : Int32} {x2 : Int32} (hW : Wf m) (c0 : SH[a0]? = some (.inl 12))
    (h1 : ¬ (mI m a0 21) = 0 → Go X 3 mX12_amount Q 26 [(0, .ref a0), (1, .int x1), (2, .int x2), (3, .int (mI m a0 20))] [.int (0 : Int32)] m)
    (h2 : (mI m a0 21) = 0 → Cl X 2 mX12_digits [.ref a0, .int (99999 : Int32)] m (fun v m2 => Go X 3 mX12_amount Q 22 [(0, .ref a0), (1, .int x1), (2, .int x2), (3, .int (mI m a0 20))] (v.toList ++ []) m2)) :
    Go X 3 mX12_amount Q 4 [(0, .ref a0), (1, .int x1), (2, .int x2)] [] m := by
  refine g_aload_n 0 dX12_amount_4 rfl rfl ?_
  refine g_getI dX12_amount_5 fl12_163 c0 ?_
  refine g_istore_n (ls2 := [(3, .int (mI m a0 20)), (0, .ref a0), (1, .int x1), (2, .int x2)]) dX12_amount_8 rfl (by decide) rfl ?_
  refine g_aload_n 1 dX12_amount_9 rfl rfl ?_
  refine g_getI dX12_amount_10 fl12_160 c0 ?_
  refine g_if_ne 25 dX12_amount_13 (by decide) (fun q1 => ?_) (fun q1 => ?_)
  · refine g_iconst (v := 0) dX12_amount_25 (by decide) ?_
    exact g_ls [1, 2, 3, 0] rfl (h1 q1)
  · refine g_aload_n 1 dX12_amount_16 rfl rfl ?_
    refine g_ldc (v := 99999) dX12_amount_17 ciX12_207 ?_
    refine g_ls [1, 2, 3, 0] (ls2 := [(0, .ref a0), (1, .int x1), (2, .int x2), (3, .int (mI m a0 20))]) rfl ?_
    exact g_callV (As := [.int (99999 : Int32)]) (st := []) dX12_amount_19 clX12_208 c0 rfl rfl (Nat.le_of_ble_eq_true rfl) (rmSH (by decide) (by decide)) (h2 q1)
theorem bX12_amount_26 {X : pX} {Q : Option Value → pMem → Prop} {m : pMem} {a0 : Nat} {x1 : Int32} {x2 : Int32} {x3 : Int32} (hW : Wf m) (c0 : SH[a0]? = some (.inl 12))
    (h1 : ¬ (mI m a0 21) = 0 → Q (some (.int (0 : Int32))) m)
    (h2 : (mI m a0 21) = 0 → Cl X 0 mX12_in [.long ((0 : Int32).toInt64), .long x1.toInt64, .long x2.toInt64] m (fun v m2 => Go X 3 mX12_amount Q 45 [(0, .ref a0), (1, .int x1), (2, .int x2), (3, .int x3), (4, .int (0 : Int32))] (v.toList ++ []) m2)) :
    Go X 3 mX12_amount Q 26 [(0, .ref a0), (1, .int x1), (2, .int x2), (3, .int x3)] [.int (0 : Int32)] m := by
  refine g_istore (ls2 := [(4, .int (0 : Int32)), (0, .ref a0), (1, .int x1), (2, .int x2), (3, .int x3)]) dX12_amount_26 (by decide) rfl ?_
  refine g_aload_n 1 dX12_amount_28 rfl rfl ?_
  refine g_getI dX12_amount_29 fl12_160 c0 ?_
  refine g_if_ne 54 dX12_amount_32 (by decide) (fun q1 => ?_) (fun q1 => ?_)
  · refine g_iload 0 dX12_amount_54 rfl ?_
    exact g_iret dX12_amount_56 rfl enSH (h1 q1)
  · refine g_iload 0 dX12_amount_35 rfl ?_
    refine g_i2l dX12_amount_37 ?_
    refine g_iload_n 2 dX12_amount_38 rfl rfl ?_
    refine g_i2l dX12_amount_39 ?_
    refine g_iload_n 3 dX12_amount_40 rfl rfl ?_
    refine g_i2l dX12_amount_41 ?_
    refine g_ls [1, 2, 3, 4, 0] (ls2 := [(0, .ref a0), (1, .int x1), (2, .int x2), (3, .int x3), (4, .int (0 : Int32))]) rfl ?_
    exact g_callS (As := [.long ((0 : Int32).toInt64), .long x1.toInt64, .long x2.toInt64]) (st := []) dX12_amount_42 clX12_128 rfl rfl (Nat.le_of_ble_eq_true rfl) (rmSH (by decide) (by decide)) (h2 q1)
theorem bX12_amount_22 {X : pX} {Q : Option Value → pMem → Prop} {m : pMem} {a0 : Nat} {x1 : Int32} {x2 : Int32} {x3 : Int32} {xs0 : Int32} (hW : Wf m) (c0 : SH[a0]? = some (.inl 12))
    (h1 : Go X 3 mX12_amount Q 26 [(0, .ref a0), (1, .int x1), (2, .int x2), (3, .int x3)] [.int xs0] m) :
    Go X 3 mX12_amount Q 22 [(0, .ref a0), (1, .int x1), (2, .int x2), (3, .int x3)] [.int xs0] m := by
  refine g_goto 26 dX12_amount_22 (by decide) ?_
  exact g_ls [0, 1, 2, 3] rfl h1
theorem bX12_amount_45 {X : pX} {Q : Option Value → pMem → Prop} {m : pMem} {a0 : Nat} {x1 : Int32} {x2 : Int32} {x3 : Int32} {x4 : Int32} {xs0 : Int32} (hW : Wf m) (c0 : SH[a0]? = some (.inl 12))
    (h1 : ¬ xs0 = 0 → Q (some (.int x4)) m)
    (h2 : xs0 = 0 → Cl X 0 mX12_fails [.ref a0, .int (1 : Int32), .int x3] m (fun v m2 => Go X 3 mX12_amount Q 54 [(0, .ref a0), (1, .int x1), (2, .int x2), (3, .int x3), (4, .int x4)] (v.toList ++ []) m2)) :
    Go X 3 mX12_amount Q 45 [(0, .ref a0), (1, .int x1), (2, .int x2), (3, .int x3), (4, .int x4)] [.int xs0] m := by
  refine g_if_ne 54 dX12_amount_45 (by decide) (fun q1 => ?_) (fun q1 => ?_)
  · refine g_iload 4 dX12_amount_54 rfl ?_
    exact g_iret dX12_amount_56 rfl enSH (h1 q1)
  · refine g_aload_n 0 dX12_amount_48 rfl rfl ?_
    refine g_iconst (v := 1) dX12_amount_49 (by decide) ?_
    refine g_iload_n 3 dX12_amount_50 rfl rfl ?_
    exact g_callV (As := [.int (1 : Int32), .int x3]) (st := []) dX12_amount_51 clX12_199 c0 rfl rfl (Nat.le_of_ble_eq_true rfl) (rmSH (by decide) (by decide)) (h2 q1)
theorem bX12_amount_26v1 {X : pX} {Q : Option Value → pMem → Prop} {m : pMem} {a0 : Nat} {x1 : Int32} {x2 : Int32} {x3 : Int32} {xs0 : Int32} (hW : Wf m) (c0 : SH[a0]? = some (.inl 12))
    (h1 : ¬ (mI m a0 21) = 0 → Q (some (.int xs0)) m)
    (h2 : (mI m a0 21) = 0 → Cl X 0 mX12_in [.long xs0.toInt64, .long x1.toInt64, .long x2.toInt64] m (fun v m2 => Go X 3 mX12_amount Q 45 [(0, .ref a0), (1, .int x1), (2, .int x2), (3, .int x3), (4, .int xs0)] (v.toList ++ []) m2)) :
    Go X 3 mX12_amount Q 26 [(0, .ref a0), (1, .int x1), (2, .int x2), (3, .int x3)] [.int xs0] m := by
  refine g_istore (ls2 := [(4, .int xs0), (0, .ref a0), (1, .int x1), (2, .int x2), (3, .int x3)]) dX12_amount_26 (by decide) rfl ?_
  refine g_aload_n 1 dX12_amount_28 rfl rfl ?_
  refine g_getI dX12_amount_29 fl12_160 c0 ?_
  refine g_if_ne 54 dX12_amount_32 (by decide) (fun q1 => ?_) (fun q1 => ?_)
  · refine g_iload 0 dX12_amount_54 rfl ?_
    exact g_iret dX12_amount_56 rfl enSH (h1 q1)
  · refine g_iload 0 dX12_amount_35 rfl ?_
    refine g_i2l dX12_amount_37 ?_
    refine g_iload_n 2 dX12_amount_38 rfl rfl ?_
    refine g_i2l dX12_amount_39 ?_
    refine g_iload_n 3 dX12_amount_40 rfl rfl ?_
    refine g_i2l dX12_amount_41 ?_
    refine g_ls [1, 2, 3, 4, 0] (ls2 := [(0, .ref a0), (1, .int x1), (2, .int x2), (3, .int x3), (4, .int xs0)]) rfl ?_
    exact g_callS (As := [.long xs0.toInt64, .long x1.toInt64, .long x2.toInt64]) (st := []) dX12_amount_42 clX12_128 rfl rfl (Nat.le_of_ble_eq_true rfl) (rmSH (by decide) (by decide)) (h2 q1)
theorem bX12_amount_54 {X : pX} {Q : Option Value → pMem → Prop} {m : pMem} {a0 : Nat} {x1 : Int32} {x2 : Int32} {x3 : Int32} {x4 : Int32} (hW : Wf m) (c0 : SH[a0]? = some (.inl 12))
    (h1 : Q (some (.int x4)) m) :
    Go X 3 mX12_amount Q 54 [(0, .ref a0), (1, .int x1), (2, .int x2), (3, .int x3), (4, .int x4)] [] m := by
  refine g_iload 4 dX12_amount_54 rfl ?_
  exact g_iret dX12_amount_56 rfl enSH h1
theorem bX12_roadWord_0 {X : pX} {Q : Option Value → pMem → Prop} {m : pMem} {x0 : Int32} (hW : Wf m)
    (h1 : x0 = 0 → Q (some (.retAddr 18)) m)
    (h2 : ¬ x0 = 0 → x0 = 1 → Q (some (.retAddr 23)) m)
    (h3 : ¬ x0 = 0 → ¬ x0 = 1 → x0 = 2 → Q (some (.retAddr 8)) m)
    (h4 : ¬ x0 = 0 → ¬ x0 = 1 → ¬ x0 = 2 → x0 = 3 → Q (some (.retAddr 9)) m)
    (h5 : ¬ x0 = 0 → ¬ x0 = 1 → ¬ x0 = 2 → ¬ x0 = 3 → Q (some (.retAddr 12)) m) :
    Go X 0 mX12_roadWord Q 0 [(0, .int x0)] [] m := by
  refine g_iload_n 0 dX12_roadWord_0 rfl rfl ?_
  by_cases q1 : x0 = 0
  · refine g_tabIn 32 dX12_roadWord_1 (by rw [q1]; decide) (by rw [q1]; decide) (by rw [q1]; rfl) (by decide) ?_
    refine g_ldcS 17 (by decide) rfl rfl dX12_roadWord_32 ?_
    exact g_aret dX12_roadWord_34 rfl (Or.inl ⟨_, rfl⟩) (Or.inr (Or.inr ⟨_, rfl⟩)) enSH (h1 q1)
  by_cases q2 : x0 = 1
  · refine g_tabIn 35 dX12_roadWord_1 (by rw [q2]; decide) (by rw [q2]; decide) (by rw [q2]; rfl) (by decide) ?_
    refine g_ldcwS 22 (by decide) rfl rfl dX12_roadWord_35 ?_
    exact g_aret dX12_roadWord_38 rfl (Or.inl ⟨_, rfl⟩) (Or.inr (Or.inr ⟨_, rfl⟩)) enSH (h2 q1 q2)
  by_cases q3 : x0 = 2
  · refine g_tabIn 39 dX12_roadWord_1 (by rw [q3]; decide) (by rw [q3]; decide) (by rw [q3]; rfl) (by decide) ?_
    refine g_ldcS 7 (by decide) rfl rfl dX12_roadWord_39 ?_
    exact g_aret dX12_roadWord_41 rfl (Or.inl ⟨_, rfl⟩) (Or.inr (Or.inr ⟨_, rfl⟩)) enSH (h3 q1 q2 q3)
  by_cases q4 : x0 = 3
  · refine g_tabIn 42 dX12_roadWord_1 (by rw [q4]; decide) (by rw [q4]; decide) (by rw [q4]; rfl) (by decide) ?_
    refine g_ldcS 8 (by decide) rfl rfl dX12_roadWord_42 ?_
    exact g_aret dX12_roadWord_44 rfl (Or.inl ⟨_, rfl⟩) (Or.inr (Or.inr ⟨_, rfl⟩)) enSH (h4 q1 q2 q3 q4)
  refine g_tabOut 45 dX12_roadWord_1 (p_tabD (fun k hk1 hk2 => ?_)) (by decide) ?_
  · have hk : k = 0 ∨ k = 1 ∨ k = 2 ∨ k = 3 := by omega
    rcases hk with rfl | rfl | rfl | rfl
    · exact q1
    · exact q2
    · exact q3
    · exact q4
  refine g_ldcS 11 (by decide) rfl rfl dX12_roadWord_45 ?_
  exact g_aret dX12_roadWord_47 rfl (Or.inl ⟨_, rfl⟩) (Or.inr (Or.inr ⟨_, rfl⟩)) enSH (h5 q1 q2 q3 q4)
theorem bX12_newHas_0 {X : pX} {Q : Option Value → pMem → Prop} {m : pMem} {a0 : Nat} {x1 : Int32} (hW : Wf m) (c0 : SH[a0]? = some (.inl 12))
    (h1 : Go X 0 mX12_newHas Q 4 [(0, .ref a0), (1, .int x1), (2, .int (0 : Int32)), (3, .int (0 : Int32))] [] m) :
    Go X 0 mX12_newHas Q 0 [(0, .ref a0), (1, .int x1)] [] m := by
  refine g_iconst (v := 0) dX12_newHas_0 (by decide) ?_
  refine g_istore_n (ls2 := [(2, .int (0 : Int32)), (0, .ref a0), (1, .int x1)]) dX12_newHas_1 rfl (by decide) rfl ?_
  refine g_iconst (v := 0) dX12_newHas_2 (by decide) ?_
  refine g_istore_n (ls2 := [(3, .int (0 : Int32)), (2, .int (0 : Int32)), (0, .ref a0), (1, .int x1)]) dX12_newHas_3 rfl (by decide) rfl ?_
  exact g_ls [2, 3, 1, 0] rfl h1
theorem bX12_newHas_4 {X : pX} {Q : Option Value → pMem → Prop} {m : pMem} {a0 : Nat} {x1 : Int32} {x2 : Int32} {x3 : Int32} (hW : Wf m) (c0 : SH[a0]? = some (.inl 12))
    (h1 : (mI m (a0 + 13) 4) ≤ x3 → Q (some (.int x2)) m)
    (h2 : ¬ ((mI m (a0 + 13) 4) ≤ x3) → vp_in x3 6)
    (h3 : ¬ ((mI m (a0 + 13) 4) ≤ x3) → ¬ (mI m (a0 + 18) x3.toNatClampNeg) = x1 → Go X 0 mX12_newHas Q 4 [(0, .ref a0), (1, .int x1), (2, .int (x2 + (0 : Int32))), (3, .int (x3 + (1 : Int32)))] [] m)
    (h4 : ¬ ((mI m (a0 + 13) 4) ≤ x3) → (mI m (a0 + 18) x3.toNatClampNeg) = x1 → Go X 0 mX12_newHas Q 4 [(0, .ref a0), (1, .int x1), (2, .int (x2 + (1 : Int32))), (3, .int (x3 + (1 : Int32)))] [] m) :
    Go X 0 mX12_newHas Q 4 [(0, .ref a0), (1, .int x1), (2, .int x2), (3, .int x3)] [] m := by
  refine g_iload_n 3 dX12_newHas_4 rfl rfl ?_
  refine g_aload_n 0 dX12_newHas_5 rfl rfl ?_
  refine g_getR dX12_newHas_6 fl12_46 rfl c0 (w12_13 hW c0) ?_
  refine g_iconst (v := 4) dX12_newHas_9 (by decide) ?_
  refine g_iald (j := 4) dX12_newHas_10 (s12_13 c0) (by unfold vp_in; decide) (by decide) ?_
  refine g_icmp_ge 38 dX12_newHas_11 (by decide) (fun q1 => ?_) (fun q1 => ?_)
  · refine g_iload_n 2 dX12_newHas_38 rfl rfl ?_
    exact g_iret dX12_newHas_39 rfl enSH (h1 q1)
  · refine g_iload_n 2 dX12_newHas_14 rfl rfl ?_
    refine g_aload_n 0 dX12_newHas_15 rfl rfl ?_
    refine g_getR dX12_newHas_16 fl12_61 rfl c0 (w12_18 hW c0) ?_
    refine g_iload_n 3 dX12_newHas_19 rfl rfl ?_
    refine g_iald (j := x3.toNatClampNeg) dX12_newHas_20 (s12_18 c0) (h2 q1) rfl ?_
    refine g_iload_n 1 dX12_newHas_21 rfl rfl ?_
    refine g_icmp_ne 29 dX12_newHas_22 (by decide) (fun q2 => ?_) (fun q2 => ?_)
    · refine g_iconst (v := 0) dX12_newHas_29 (by decide) ?_
      refine g_iadd dX12_newHas_30 ?_
      refine g_istore_n (ls2 := [(2, .int (x2 + (0 : Int32))), (0, .ref a0), (1, .int x1), (3, .int x3)]) dX12_newHas_31 rfl (by decide) rfl ?_
      refine g_iinc (v := x3 + (1 : Int32)) (ls2 := [(3, .int (x3 + (1 : Int32))), (2, .int (x2 + (0 : Int32))), (0, .ref a0), (1, .int x1)]) 3 dX12_newHas_32 rfl rfl (by decide) rfl ?_
      refine g_goto 4 dX12_newHas_35 (by decide) ?_
      exact g_ls [2, 3, 1, 0] rfl (h3 q1 q2)
    · refine g_iconst (v := 1) dX12_newHas_25 (by decide) ?_
      refine g_goto 30 dX12_newHas_26 (by decide) ?_
      refine g_iadd dX12_newHas_30 ?_
      refine g_istore_n (ls2 := [(2, .int (x2 + (1 : Int32))), (0, .ref a0), (1, .int x1), (3, .int x3)]) dX12_newHas_31 rfl (by decide) rfl ?_
      refine g_iinc (v := x3 + (1 : Int32)) (ls2 := [(3, .int (x3 + (1 : Int32))), (2, .int (x2 + (1 : Int32))), (0, .ref a0), (1, .int x1)]) 3 dX12_newHas_32 rfl rfl (by decide) rfl ?_
      refine g_goto 4 dX12_newHas_35 (by decide) ?_
      exact g_ls [2, 3, 1, 0] rfl (h4 q1 q2)
theorem bX12_hasPart_0 {X : pX} {Q : Option Value → pMem → Prop} {m : pMem} {a0 : Nat} (hW : Wf m) (c0 : SH[a0]? = some (.inl 12))
    (h1 : Cl X 1 mX12_blanks [.ref a0] m (fun v m2 => Go X 4 mX12_hasPart Q 4 [(0, .ref a0)] (v.toList ++ []) m2)) :
    Go X 4 mX12_hasPart Q 0 [(0, .ref a0)] [] m := by
  refine g_aload_n 0 dX12_hasPart_0 rfl rfl ?_
  exact g_callV (As := []) (st := []) dX12_hasPart_1 clX12_183 c0 rfl rfl (Nat.le_of_ble_eq_true rfl) (rmSH (by decide) (by decide)) h1
theorem bX12_hasPart_4 {X : pX} {Q : Option Value → pMem → Prop} {m : pMem} {a0 : Nat} (hW : Wf m) (c0 : SH[a0]? = some (.inl 12))
    (h1 : Cl X 3 mX12_amount [.ref a0, .int (0 : Int32), .int ((mI m (a0 + 13) 3) - (1 : Int32))] m (fun v m2 => Go X 4 mX12_hasPart Q 22 [(0, .ref a0), (1, .int (mI m a0 20))] (v.toList ++ []) m2)) :
    Go X 4 mX12_hasPart Q 4 [(0, .ref a0)] [] m := by
  refine g_aload_n 0 dX12_hasPart_4 rfl rfl ?_
  refine g_getI dX12_hasPart_5 fl12_163 c0 ?_
  refine g_istore_n (ls2 := [(1, .int (mI m a0 20)), (0, .ref a0)]) dX12_hasPart_8 rfl (by decide) rfl ?_
  refine g_aload_n 1 dX12_hasPart_9 rfl rfl ?_
  refine g_iconst (v := 0) dX12_hasPart_10 (by decide) ?_
  refine g_aload_n 1 dX12_hasPart_11 rfl rfl ?_
  refine g_getR dX12_hasPart_12 fl12_46 rfl c0 (w12_13 hW c0) ?_
  refine g_iconst (v := 3) dX12_hasPart_15 (by decide) ?_
  refine g_iald (j := 3) dX12_hasPart_16 (s12_13 c0) (by unfold vp_in; decide) (by decide) ?_
  refine g_iconst (v := 1) dX12_hasPart_17 (by decide) ?_
  refine g_isub dX12_hasPart_18 ?_
  refine g_ls [1, 0] (ls2 := [(0, .ref a0), (1, .int (mI m a0 20))]) rfl ?_
  exact g_callV (As := [.int (0 : Int32), .int ((mI m (a0 + 13) 3) - (1 : Int32))]) (st := []) dX12_hasPart_19 clX12_260 c0 rfl rfl (Nat.le_of_ble_eq_true rfl) (rmSH (by decide) (by decide)) h1
theorem bX12_hasPart_22 {X : pX} {Q : Option Value → pMem → Prop} {m : pMem} {a0 : Nat} {x1 : Int32} {xs0 : Int32} (hW : Wf m) (c0 : SH[a0]? = some (.inl 12))
    (h1 : ¬ (mI m a0 21) = 0 → Cl X 1 mX12_blanks [.ref a0] m (fun v m2 => Go X 4 mX12_hasPart Q 54 [(0, .ref a0), (1, .int x1), (2, .int xs0)] (v.toList ++ []) m2))
    (h2 : (mI m a0 21) = 0 → Cl X 0 mX12_newHas [.ref a0, .int xs0] m (fun v m2 => Go X 4 mX12_hasPart Q 35 [(0, .ref a0), (1, .int x1), (2, .int xs0)] (v.toList ++ []) m2)) :
    Go X 4 mX12_hasPart Q 22 [(0, .ref a0), (1, .int x1)] [.int xs0] m := by
  refine g_istore_n (ls2 := [(2, .int xs0), (0, .ref a0), (1, .int x1)]) dX12_hasPart_22 rfl (by decide) rfl ?_
  refine g_aload_n 1 dX12_hasPart_23 rfl rfl ?_
  refine g_getI dX12_hasPart_24 fl12_160 c0 ?_
  refine g_if_ne 50 dX12_hasPart_27 (by decide) (fun q1 => ?_) (fun q1 => ?_)
  · refine g_aload_n 1 dX12_hasPart_50 rfl rfl ?_
    refine g_ls [1, 2, 0] (ls2 := [(0, .ref a0), (1, .int x1), (2, .int xs0)]) rfl ?_
    exact g_callV (As := []) (st := []) dX12_hasPart_51 clX12_183 c0 rfl rfl (Nat.le_of_ble_eq_true rfl) (rmSH (by decide) (by decide)) (h1 q1)
  · refine g_aload_n 1 dX12_hasPart_30 rfl rfl ?_
    refine g_iload_n 0 dX12_hasPart_31 rfl rfl ?_
    refine g_ls [1, 2, 0] (ls2 := [(0, .ref a0), (1, .int x1), (2, .int xs0)]) rfl ?_
    exact g_callV (As := [.int xs0]) (st := []) dX12_hasPart_32 clX12_264 c0 rfl rfl (Nat.le_of_ble_eq_true rfl) (rmSH (by decide) (by decide)) (h2 q1)
theorem bX12_hasPart_54 {X : pX} {Q : Option Value → pMem → Prop} {m : pMem} {a0 : Nat} {x1 : Int32} {x2 : Int32} (hW : Wf m) (c0 : SH[a0]? = some (.inl 12))
    (h1 : Cl X 3 mX12_amount [.ref a0, .int (0 : Int32), .int ((mI m (a0 + 13) 4) - (1 : Int32))] m (fun v m2 => Go X 4 mX12_hasPart Q 72 [(0, .ref a0), (1, .int (mI m a0 20)), (2, .int x2)] (v.toList ++ []) m2)) :
    Go X 4 mX12_hasPart Q 54 [(0, .ref a0), (1, .int x1), (2, .int x2)] [] m := by
  refine g_aload_n 0 dX12_hasPart_54 rfl rfl ?_
  refine g_getI dX12_hasPart_55 fl12_163 c0 ?_
  refine g_istore_n (ls2 := [(1, .int (mI m a0 20)), (0, .ref a0), (2, .int x2)]) dX12_hasPart_58 rfl (by decide) rfl ?_
  refine g_aload_n 1 dX12_hasPart_59 rfl rfl ?_
  refine g_iconst (v := 0) dX12_hasPart_60 (by decide) ?_
  refine g_aload_n 1 dX12_hasPart_61 rfl rfl ?_
  refine g_getR dX12_hasPart_62 fl12_46 rfl c0 (w12_13 hW c0) ?_
  refine g_iconst (v := 4) dX12_hasPart_65 (by decide) ?_
  refine g_iald (j := 4) dX12_hasPart_66 (s12_13 c0) (by unfold vp_in; decide) (by decide) ?_
  refine g_iconst (v := 1) dX12_hasPart_67 (by decide) ?_
  refine g_isub dX12_hasPart_68 ?_
  refine g_ls [1, 0, 2] (ls2 := [(0, .ref a0), (1, .int (mI m a0 20)), (2, .int x2)]) rfl ?_
  exact g_callV (As := [.int (0 : Int32), .int ((mI m (a0 + 13) 4) - (1 : Int32))]) (st := []) dX12_hasPart_69 clX12_260 c0 rfl rfl (Nat.le_of_ble_eq_true rfl) (rmSH (by decide) (by decide)) h1
theorem bX12_hasPart_35 {X : pX} {Q : Option Value → pMem → Prop} {m : pMem} {a0 : Nat} {x1 : Int32} {x2 : Int32} {xs0 : Int32} (hW : Wf m) (c0 : SH[a0]? = some (.inl 12))
    (h1 : xs0 < (mI m (a0 + 13) 1) → Cl X 1 mX12_blanks [.ref a0] m (fun v m2 => Go X 4 mX12_hasPart Q 54 [(0, .ref a0), (1, .int x1), (2, .int x2)] (v.toList ++ []) m2))
    (h2 : ¬ (xs0 < (mI m (a0 + 13) 1)) → Cl X 0 mX12_fails [.ref a0, .int (1 : Int32), .int x1] m (fun v m2 => Go X 4 mX12_hasPart Q 50 [(0, .ref a0), (1, .int x1), (2, .int x2)] (v.toList ++ []) m2)) :
    Go X 4 mX12_hasPart Q 35 [(0, .ref a0), (1, .int x1), (2, .int x2)] [.int xs0] m := by
  refine g_aload_n 0 dX12_hasPart_35 rfl rfl ?_
  refine g_getR dX12_hasPart_36 fl12_46 rfl c0 (w12_13 hW c0) ?_
  refine g_iconst (v := 1) dX12_hasPart_39 (by decide) ?_
  refine g_iald (j := 1) dX12_hasPart_40 (s12_13 c0) (by unfold vp_in; decide) (by decide) ?_
  refine g_icmp_lt 50 dX12_hasPart_41 (by decide) (fun q1 => ?_) (fun q1 => ?_)
  · refine g_aload_n 0 dX12_hasPart_50 rfl rfl ?_
    exact g_callV (As := []) (st := []) dX12_hasPart_51 clX12_183 c0 rfl rfl (Nat.le_of_ble_eq_true rfl) (rmSH (by decide) (by decide)) (h1 q1)
  · refine g_aload_n 0 dX12_hasPart_44 rfl rfl ?_
    refine g_iconst (v := 1) dX12_hasPart_45 (by decide) ?_
    refine g_iload_n 1 dX12_hasPart_46 rfl rfl ?_
    exact g_callV (As := [.int (1 : Int32), .int x1]) (st := []) dX12_hasPart_47 clX12_199 c0 rfl rfl (Nat.le_of_ble_eq_true rfl) (rmSH (by decide) (by decide)) (h2 q1)
theorem bX12_hasPart_72 {X : pX} {Q : Option Value → pMem → Prop} {m : pMem} {a0 : Nat} {x1 : Int32} {x2 : Int32} {xs0 : Int32} (hW : Wf m) (c0 : SH[a0]? = some (.inl 12))
    (h1 : ¬ (mI m a0 21) = 0 → Go X 4 mX12_hasPart Q 97 [(0, .ref a0), (2, .int x2), (3, .int xs0)] [] m)
    (h2 : (mI m a0 21) = 0 → vp_in xs0 6)
    (h3 : (mI m a0 21) = 0 → (mI m (a0 + 18) xs0.toNatClampNeg) = (10 : Int32) → Go X 4 mX12_hasPart Q 97 [(0, .ref a0), (2, .int x2), (3, .int xs0)] [] m)
    (h4 : (mI m a0 21) = 0 → ¬ ((mI m (a0 + 18) xs0.toNatClampNeg) = (10 : Int32)) → Cl X 0 mX12_fails [.ref a0, .int (1 : Int32), .int x1] m (fun v m2 => Go X 4 mX12_hasPart Q 97 [(0, .ref a0), (1, .int x1), (2, .int x2), (3, .int xs0)] (v.toList ++ []) m2)) :
    Go X 4 mX12_hasPart Q 72 [(0, .ref a0), (1, .int x1), (2, .int x2)] [.int xs0] m := by
  refine g_istore_n (ls2 := [(3, .int xs0), (0, .ref a0), (1, .int x1), (2, .int x2)]) dX12_hasPart_72 rfl (by decide) rfl ?_
  refine g_aload_n 1 dX12_hasPart_73 rfl rfl ?_
  refine g_getI dX12_hasPart_74 fl12_160 c0 ?_
  refine g_if_ne 97 dX12_hasPart_77 (by decide) (fun q1 => ?_) (fun q1 => ?_)
  · exact g_ls [1, 3, 0] rfl (h1 q1)
  · refine g_aload_n 1 dX12_hasPart_80 rfl rfl ?_
    refine g_getR dX12_hasPart_81 fl12_61 rfl c0 (w12_18 hW c0) ?_
    refine g_iload_n 0 dX12_hasPart_84 rfl rfl ?_
    refine g_iald (j := xs0.toNatClampNeg) dX12_hasPart_85 (s12_18 c0) (h2 q1) rfl ?_
    refine g_bipush (v := 10) dX12_hasPart_86 (by decide) ?_
    refine g_icmp_eq 97 dX12_hasPart_88 (by decide) (fun q2 => ?_) (fun q2 => ?_)
    · exact g_ls [1, 3, 0] rfl (h3 q1 q2)
    · refine g_aload_n 1 dX12_hasPart_91 rfl rfl ?_
      refine g_iconst (v := 1) dX12_hasPart_92 (by decide) ?_
      refine g_iload_n 2 dX12_hasPart_93 rfl rfl ?_
      refine g_ls [1, 2, 3, 0] (ls2 := [(0, .ref a0), (1, .int x1), (2, .int x2), (3, .int xs0)]) rfl ?_
      exact g_callV (As := [.int (1 : Int32), .int x1]) (st := []) dX12_hasPart_94 clX12_199 c0 rfl rfl (Nat.le_of_ble_eq_true rfl) (rmSH (by decide) (by decide)) (h4 q1 q2)
theorem bX12_hasPart_50 {X : pX} {Q : Option Value → pMem → Prop} {m : pMem} {a0 : Nat} {x1 : Int32} {x2 : Int32} (hW : Wf m) (c0 : SH[a0]? = some (.inl 12))
    (h1 : Cl X 1 mX12_blanks [.ref a0] m (fun v m2 => Go X 4 mX12_hasPart Q 54 [(0, .ref a0), (1, .int x1), (2, .int x2)] (v.toList ++ []) m2)) :
    Go X 4 mX12_hasPart Q 50 [(0, .ref a0), (1, .int x1), (2, .int x2)] [] m := by
  refine g_aload_n 0 dX12_hasPart_50 rfl rfl ?_
  exact g_callV (As := []) (st := []) dX12_hasPart_51 clX12_183 c0 rfl rfl (Nat.le_of_ble_eq_true rfl) (rmSH (by decide) (by decide)) h1
theorem bX12_hasPart_97 {X : pX} {Q : Option Value → pMem → Prop} {m : pMem} {a0 : Nat} {x2 : Int32} {x3 : Int32} (hW : Wf m) (c0 : SH[a0]? = some (.inl 12))
    (h1 : ¬ (mI m a0 21) = 0 → Q none m)
    (h2 : (mI m a0 21) = 0 → vp_in x3 6)
    (h3 : (mI m a0 21) = 0 → Q none (uI m (a0 + 18) x3.toNatClampNeg x2)) :
    Go X 4 mX12_hasPart Q 97 [(0, .ref a0), (2, .int x2), (3, .int x3)] [] m := by
  refine g_aload_n 0 dX12_hasPart_97 rfl rfl ?_
  refine g_getI dX12_hasPart_98 fl12_160 c0 ?_
  refine g_if_ne 111 dX12_hasPart_101 (by decide) (fun q1 => ?_) (fun q1 => ?_)
  · exact g_vret dX12_hasPart_111 rfl enSH (h1 q1)
  · refine g_aload_n 0 dX12_hasPart_104 rfl rfl ?_
    refine g_getR dX12_hasPart_105 fl12_61 rfl c0 (w12_18 hW c0) ?_
    refine g_iload_n 2 dX12_hasPart_108 rfl rfl ?_
    refine g_iload_n 1 dX12_hasPart_109 rfl rfl ?_
    refine g_iast (j := x3.toNatClampNeg) dX12_hasPart_110 (s12_18 c0) (h2 q1) rfl ?_
    exact g_vret dX12_hasPart_111 rfl enSH (h3 q1)
theorem bX12_hasPart_97v1 {X : pX} {Q : Option Value → pMem → Prop} {m : pMem} {a0 : Nat} {x1 : Int32} {x2 : Int32} {x3 : Int32} (hW : Wf m) (c0 : SH[a0]? = some (.inl 12))
    (h1 : ¬ (mI m a0 21) = 0 → Q none m)
    (h2 : (mI m a0 21) = 0 → vp_in x3 6)
    (h3 : (mI m a0 21) = 0 → Q none (uI m (a0 + 18) x3.toNatClampNeg x2)) :
    Go X 4 mX12_hasPart Q 97 [(0, .ref a0), (1, .int x1), (2, .int x2), (3, .int x3)] [] m := by
  refine g_aload_n 0 dX12_hasPart_97 rfl rfl ?_
  refine g_getI dX12_hasPart_98 fl12_160 c0 ?_
  refine g_if_ne 111 dX12_hasPart_101 (by decide) (fun q1 => ?_) (fun q1 => ?_)
  · exact g_vret dX12_hasPart_111 rfl enSH (h1 q1)
  · refine g_aload_n 0 dX12_hasPart_104 rfl rfl ?_
    refine g_getR dX12_hasPart_105 fl12_61 rfl c0 (w12_18 hW c0) ?_
    refine g_iload_n 3 dX12_hasPart_108 rfl rfl ?_
    refine g_iload_n 2 dX12_hasPart_109 rfl rfl ?_
    refine g_iast (j := x3.toNatClampNeg) dX12_hasPart_110 (s12_18 c0) (h2 q1) rfl ?_
    exact g_vret dX12_hasPart_111 rfl enSH (h3 q1)
theorem bX12_roadPart_0 {X : pX} {Q : Option Value → pMem → Prop} {m : pMem} {a0 : Nat} {x1 : Int32} (hW : Wf m) (c0 : SH[a0]? = some (.inl 12))
    (h1 : x1 = 0 → Cl X 3 mX12_amount [.ref a0, .int (0 : Int32), .int (4 : Int32)] m (fun v m2 => Go X 5 mX12_roadPart Q 43 [(0, .ref a0), (1, .int x1)] (v.toList ++ [.int (1 : Int32), .ref (a0 + 13)]) m2))
    (h2 : ¬ x1 = 0 → x1 = 1 → Cl X 3 mX12_amount [.ref a0, .int (1 : Int32), .int (60 : Int32)] m (fun v m2 => Go X 5 mX12_roadPart Q 71 [(0, .ref a0), (1, .int x1)] (v.toList ++ [.int (mI m (a0 + 13) 2), .ref (a0 + 14)]) m2))
    (h3 : ¬ x1 = 0 → ¬ x1 = 1 → x1 = 2 → Cl X 3 mX12_amount [.ref a0, .int (1 : Int32), .int (20 : Int32)] m (fun v m2 => Go X 5 mX12_roadPart Q 102 [(0, .ref a0), (1, .int x1)] (v.toList ++ [.int (mI m (a0 + 13) 3), .ref (a0 + 15)]) m2))
    (h4 : ¬ x1 = 0 → ¬ x1 = 1 → ¬ x1 = 2 → x1 = 3 → Cl X 3 mX12_amount [.ref a0, .int (0 : Int32), .int (9 : Int32)] m (fun v m2 => Go X 5 mX12_roadPart Q 135 [(0, .ref a0), (1, .int x1), (2, .int (mI m (a0 + 13) 4))] (v.toList ++ [.int (mI m (a0 + 13) 4), .ref (a0 + 16)]) m2))
    (h5 : ¬ x1 = 0 → ¬ x1 = 1 → ¬ x1 = 2 → ¬ x1 = 3 → Cl X 4 mX12_hasPart [.ref a0] m (fun v m2 => Go X 5 mX12_roadPart Q 174 [(0, .ref a0), (1, .int x1)] (v.toList ++ []) m2)) :
    Go X 5 mX12_roadPart Q 0 [(0, .ref a0), (1, .int x1)] [] m := by
  refine g_iload_n 1 dX12_roadPart_0 rfl rfl ?_
  by_cases q1 : x1 = 0
  · refine g_tabIn 32 dX12_roadPart_1 (by rw [q1]; decide) (by rw [q1]; decide) (by rw [q1]; rfl) (by decide) ?_
    refine g_aload_n 0 dX12_roadPart_32 rfl rfl ?_
    refine g_getR dX12_roadPart_33 fl12_46 rfl c0 (w12_13 hW c0) ?_
    refine g_iconst (v := 1) dX12_roadPart_36 (by decide) ?_
    refine g_aload_n 0 dX12_roadPart_37 rfl rfl ?_
    refine g_iconst (v := 0) dX12_roadPart_38 (by decide) ?_
    refine g_iconst (v := 4) dX12_roadPart_39 (by decide) ?_
    exact g_callV (As := [.int (0 : Int32), .int (4 : Int32)]) (st := [.int (1 : Int32), .ref (a0 + 13)]) dX12_roadPart_40 clX12_260 c0 rfl rfl (Nat.le_of_ble_eq_true rfl) (rmSH (by decide) (by decide)) (h1 q1)
  by_cases q2 : x1 = 1
  · refine g_tabIn 54 dX12_roadPart_1 (by rw [q2]; decide) (by rw [q2]; decide) (by rw [q2]; rfl) (by decide) ?_
    refine g_aload_n 0 dX12_roadPart_54 rfl rfl ?_
    refine g_getR dX12_roadPart_55 fl12_49 rfl c0 (w12_14 hW c0) ?_
    refine g_aload_n 0 dX12_roadPart_58 rfl rfl ?_
    refine g_getR dX12_roadPart_59 fl12_46 rfl c0 (w12_13 hW c0) ?_
    refine g_iconst (v := 2) dX12_roadPart_62 (by decide) ?_
    refine g_iald (j := 2) dX12_roadPart_63 (s12_13 c0) (by unfold vp_in; decide) (by decide) ?_
    refine g_aload_n 0 dX12_roadPart_64 rfl rfl ?_
    refine g_iconst (v := 1) dX12_roadPart_65 (by decide) ?_
    refine g_bipush (v := 60) dX12_roadPart_66 (by decide) ?_
    exact g_callV (As := [.int (1 : Int32), .int (60 : Int32)]) (st := [.int (mI m (a0 + 13) 2), .ref (a0 + 14)]) dX12_roadPart_68 clX12_260 c0 rfl rfl (Nat.le_of_ble_eq_true rfl) (rmSH (by decide) (by decide)) (h2 q1 q2)
  by_cases q3 : x1 = 2
  · refine g_tabIn 85 dX12_roadPart_1 (by rw [q3]; decide) (by rw [q3]; decide) (by rw [q3]; rfl) (by decide) ?_
    refine g_aload_n 0 dX12_roadPart_85 rfl rfl ?_
    refine g_getR dX12_roadPart_86 fl12_52 rfl c0 (w12_15 hW c0) ?_
    refine g_aload_n 0 dX12_roadPart_89 rfl rfl ?_
    refine g_getR dX12_roadPart_90 fl12_46 rfl c0 (w12_13 hW c0) ?_
    refine g_iconst (v := 3) dX12_roadPart_93 (by decide) ?_
    refine g_iald (j := 3) dX12_roadPart_94 (s12_13 c0) (by unfold vp_in; decide) (by decide) ?_
    refine g_aload_n 0 dX12_roadPart_95 rfl rfl ?_
    refine g_iconst (v := 1) dX12_roadPart_96 (by decide) ?_
    refine g_bipush (v := 20) dX12_roadPart_97 (by decide) ?_
    exact g_callV (As := [.int (1 : Int32), .int (20 : Int32)]) (st := [.int (mI m (a0 + 13) 3), .ref (a0 + 15)]) dX12_roadPart_99 clX12_260 c0 rfl rfl (Nat.le_of_ble_eq_true rfl) (rmSH (by decide) (by decide)) (h3 q1 q2 q3)
  by_cases q4 : x1 = 3
  · refine g_tabIn 116 dX12_roadPart_1 (by rw [q4]; decide) (by rw [q4]; decide) (by rw [q4]; rfl) (by decide) ?_
    refine g_aload_n 0 dX12_roadPart_116 rfl rfl ?_
    refine g_getR dX12_roadPart_117 fl12_46 rfl c0 (w12_13 hW c0) ?_
    refine g_iconst (v := 4) dX12_roadPart_120 (by decide) ?_
    refine g_iald (j := 4) dX12_roadPart_121 (s12_13 c0) (by unfold vp_in; decide) (by decide) ?_
    refine g_istore_n (ls2 := [(2, .int (mI m (a0 + 13) 4)), (0, .ref a0), (1, .int x1)]) dX12_roadPart_122 rfl (by decide) rfl ?_
    refine g_aload_n 1 dX12_roadPart_123 rfl rfl ?_
    refine g_getR dX12_roadPart_124 fl12_55 rfl c0 (w12_16 hW c0) ?_
    refine g_iload_n 0 dX12_roadPart_127 rfl rfl ?_
    refine g_aload_n 1 dX12_roadPart_128 rfl rfl ?_
    refine g_iconst (v := 0) dX12_roadPart_129 (by decide) ?_
    refine g_bipush (v := 9) dX12_roadPart_130 (by decide) ?_
    refine g_ls [1, 2, 0] (ls2 := [(0, .ref a0), (1, .int x1), (2, .int (mI m (a0 + 13) 4))]) rfl ?_
    exact g_callV (As := [.int (0 : Int32), .int (9 : Int32)]) (st := [.int (mI m (a0 + 13) 4), .ref (a0 + 16)]) dX12_roadPart_132 clX12_260 c0 rfl rfl (Nat.le_of_ble_eq_true rfl) (rmSH (by decide) (by decide)) (h4 q1 q2 q3 q4)
  refine g_tabOut 170 dX12_roadPart_1 (p_tabD (fun k hk1 hk2 => ?_)) (by decide) ?_
  · have hk : k = 0 ∨ k = 1 ∨ k = 2 ∨ k = 3 := by omega
    rcases hk with rfl | rfl | rfl | rfl
    · exact q1
    · exact q2
    · exact q3
    · exact q4
  refine g_aload_n 0 dX12_roadPart_170 rfl rfl ?_
  exact g_callV (As := []) (st := []) dX12_roadPart_171 clX12_267 c0 rfl rfl (Nat.le_of_ble_eq_true rfl) (rmSH (by decide) (by decide)) (h5 q1 q2 q3 q4)
theorem bX12_roadPart_43 {X : pX} {Q : Option Value → pMem → Prop} {m : pMem} {a0 : Nat} {x1 : Int32} {xs0 : Int32} {as2 : Nat} (hW : Wf m) (c0 : SH[a0]? = some (.inl 12)) (cs2 : SH[as2]? = some (.inr (.int, 5)))
    (h1 : Q none (uI (uI m as2 1 xs0) (a0 + 13) 0 (1 : Int32))) :
    Go X 5 mX12_roadPart Q 43 [(0, .ref a0), (1, .int x1)] [.int xs0, .int (1 : Int32), .ref as2] m := by
  refine g_iast (j := 1) dX12_roadPart_43 cs2 (by unfold vp_in; decide) (by decide) ?_
  refine g_aload_n 0 dX12_roadPart_44 rfl rfl ?_
  refine g_getR dX12_roadPart_45 fl12_46 rfl c0 (w12_13 hW c0) ?_
  refine g_iconst (v := 0) dX12_roadPart_48 (by decide) ?_
  refine g_iconst (v := 1) dX12_roadPart_49 (by decide) ?_
  refine g_iast (j := 0) dX12_roadPart_50 (s12_13 c0) (by unfold vp_in; decide) (by decide) ?_
  refine g_goto 174 dX12_roadPart_51 (by decide) ?_
  exact g_vret dX12_roadPart_174 rfl enSH h1
theorem bX12_roadPart_71 {X : pX} {Q : Option Value → pMem → Prop} {m : pMem} {a0 : Nat} {x1 : Int32} {xs0 : Int32} {xs1 : Int32} {as2 : Nat} (hW : Wf m) (c0 : SH[a0]? = some (.inl 12)) (cs2 : SH[as2]? = some (.inr (.int, 8)))
    (h1 : vp_in xs1 8)
    (h2 : Q none (uI (uI m as2 xs1.toNatClampNeg xs0) (a0 + 13) 2 ((mI (uI m as2 xs1.toNatClampNeg xs0) (a0 + 13) 2) + (1 : Int32)))) :
    Go X 5 mX12_roadPart Q 71 [(0, .ref a0), (1, .int x1)] [.int xs0, .int xs1, .ref as2] m := by
  refine g_iast (j := xs1.toNatClampNeg) dX12_roadPart_71 cs2 h1 rfl ?_
  refine g_aload_n 0 dX12_roadPart_72 rfl rfl ?_
  refine g_getR dX12_roadPart_73 fl12_46 rfl c0 (w12_13 hW c0) ?_
  refine g_iconst (v := 2) dX12_roadPart_76 (by decide) ?_
  refine g_dup2 dX12_roadPart_77 rfl rfl ?_
  refine g_iald (j := 2) dX12_roadPart_78 (s12_13 c0) (by unfold vp_in; decide) (by decide) ?_
  refine g_iconst (v := 1) dX12_roadPart_79 (by decide) ?_
  refine g_iadd dX12_roadPart_80 ?_
  refine g_iast (j := 2) dX12_roadPart_81 (s12_13 c0) (by unfold vp_in; decide) (by decide) ?_
  refine g_goto 174 dX12_roadPart_82 (by decide) ?_
  exact g_vret dX12_roadPart_174 rfl enSH h2
theorem bX12_roadPart_102 {X : pX} {Q : Option Value → pMem → Prop} {m : pMem} {a0 : Nat} {x1 : Int32} {xs0 : Int32} {xs1 : Int32} {as2 : Nat} (hW : Wf m) (c0 : SH[a0]? = some (.inl 12)) (cs2 : SH[as2]? = some (.inr (.int, 4)))
    (h1 : vp_in xs1 4)
    (h2 : Q none (uI (uI m as2 xs1.toNatClampNeg xs0) (a0 + 13) 3 ((mI (uI m as2 xs1.toNatClampNeg xs0) (a0 + 13) 3) + (1 : Int32)))) :
    Go X 5 mX12_roadPart Q 102 [(0, .ref a0), (1, .int x1)] [.int xs0, .int xs1, .ref as2] m := by
  refine g_iast (j := xs1.toNatClampNeg) dX12_roadPart_102 cs2 h1 rfl ?_
  refine g_aload_n 0 dX12_roadPart_103 rfl rfl ?_
  refine g_getR dX12_roadPart_104 fl12_46 rfl c0 (w12_13 hW c0) ?_
  refine g_iconst (v := 3) dX12_roadPart_107 (by decide) ?_
  refine g_dup2 dX12_roadPart_108 rfl rfl ?_
  refine g_iald (j := 3) dX12_roadPart_109 (s12_13 c0) (by unfold vp_in; decide) (by decide) ?_
  refine g_iconst (v := 1) dX12_roadPart_110 (by decide) ?_
  refine g_iadd dX12_roadPart_111 ?_
  refine g_iast (j := 3) dX12_roadPart_112 (s12_13 c0) (by unfold vp_in; decide) (by decide) ?_
  refine g_goto 174 dX12_roadPart_113 (by decide) ?_
  exact g_vret dX12_roadPart_174 rfl enSH h2
theorem bX12_roadPart_135 {X : pX} {Q : Option Value → pMem → Prop} {m : pMem} {a0 : Nat} {x1 : Int32} {x2 : Int32} {xs0 : Int32} {xs1 : Int32} {as2 : Nat} (hW : Wf m) (c0 : SH[a0]? = some (.inl 12)) (cs2 : SH[as2]? = some (.inr (.int, 6)))
    (h1 : vp_in xs1 6)
    (h2 : Cl X 3 mX12_amount [.ref a0, .int (0 : Int32), .int (50 : Int32)] (uI m as2 xs1.toNatClampNeg xs0) (fun v m2 => Go X 5 mX12_roadPart Q 148 [(0, .ref a0), (1, .int x1), (2, .int x2)] (v.toList ++ [.int x2, .ref (a0 + 17)]) m2)) :
    Go X 5 mX12_roadPart Q 135 [(0, .ref a0), (1, .int x1), (2, .int x2)] [.int xs0, .int xs1, .ref as2] m := by
  refine g_iast (j := xs1.toNatClampNeg) dX12_roadPart_135 cs2 h1 rfl ?_
  refine g_aload_n 0 dX12_roadPart_136 rfl rfl ?_
  refine g_getR dX12_roadPart_137 fl12_58 rfl c0 (w12_17 hW c0) ?_
  refine g_iload_n 2 dX12_roadPart_140 rfl rfl ?_
  refine g_aload_n 0 dX12_roadPart_141 rfl rfl ?_
  refine g_iconst (v := 0) dX12_roadPart_142 (by decide) ?_
  refine g_bipush (v := 50) dX12_roadPart_143 (by decide) ?_
  exact g_callV (As := [.int (0 : Int32), .int (50 : Int32)]) (st := [.int x2, .ref (a0 + 17)]) dX12_roadPart_145 clX12_260 c0 rfl rfl (Nat.le_of_ble_eq_true rfl) (rmSH (by decide) (by decide)) h2
theorem bX12_roadPart_174 {X : pX} {Q : Option Value → pMem → Prop} {m : pMem} {a0 : Nat} {x1 : Int32} (hW : Wf m) (c0 : SH[a0]? = some (.inl 12))
    (h1 : Q none m) :
    Go X 5 mX12_roadPart Q 174 [(0, .ref a0), (1, .int x1)] [] m := by
  exact g_vret dX12_roadPart_174 rfl enSH h1
theorem bX12_roadPart_148 {X : pX} {Q : Option Value → pMem → Prop} {m : pMem} {a0 : Nat} {x1 : Int32} {x2 : Int32} {xs0 : Int32} {xs1 : Int32} {as2 : Nat} (hW : Wf m) (c0 : SH[a0]? = some (.inl 12)) (cs2 : SH[as2]? = some (.inr (.int, 6)))
    (h1 : vp_in xs1 6)
    (h2 : vp_in x2 6)
    (h3 : Q none (uI (uI (uI m as2 xs1.toNatClampNeg xs0) (a0 + 18) x2.toNatClampNeg (10 : Int32)) (a0 + 13) 4 ((mI (uI (uI m as2 xs1.toNatClampNeg xs0) (a0 + 18) x2.toNatClampNeg (10 : Int32)) (a0 + 13) 4) + (1 : Int32)))) :
    Go X 5 mX12_roadPart Q 148 [(0, .ref a0), (1, .int x1), (2, .int x2)] [.int xs0, .int xs1, .ref as2] m := by
  refine g_iast (j := xs1.toNatClampNeg) dX12_roadPart_148 cs2 h1 rfl ?_
  refine g_aload_n 0 dX12_roadPart_149 rfl rfl ?_
  refine g_getR dX12_roadPart_150 fl12_61 rfl c0 (w12_18 hW c0) ?_
  refine g_iload_n 2 dX12_roadPart_153 rfl rfl ?_
  refine g_bipush (v := 10) dX12_roadPart_154 (by decide) ?_
  refine g_iast (j := x2.toNatClampNeg) dX12_roadPart_156 (s12_18 c0) h2 rfl ?_
  refine g_aload_n 0 dX12_roadPart_157 rfl rfl ?_
  refine g_getR dX12_roadPart_158 fl12_46 rfl c0 (w12_13 hW c0) ?_
  refine g_iconst (v := 4) dX12_roadPart_161 (by decide) ?_
  refine g_dup2 dX12_roadPart_162 rfl rfl ?_
  refine g_iald (j := 4) dX12_roadPart_163 (s12_13 c0) (by unfold vp_in; decide) (by decide) ?_
  refine g_iconst (v := 1) dX12_roadPart_164 (by decide) ?_
  refine g_iadd dX12_roadPart_165 ?_
  refine g_iast (j := 4) dX12_roadPart_166 (s12_13 c0) (by unfold vp_in; decide) (by decide) ?_
  refine g_goto 174 dX12_roadPart_167 (by decide) ?_
  exact g_vret dX12_roadPart_174 rfl enSH h3
theorem bX12_isFull_0 {X : pX} {Q : Option Value → pMem → Prop} {m : pMem} {a0 : Nat} {x1 : Int32} {x2 : Int32} (hW : Wf m) (c0 : SH[a0]? = some (.inl 12))
    (h1 : x2 = (40 : Int32) → Q (some (.int (1 : Int32))) m)
    (h2 : ¬ (x2 = (40 : Int32)) → ¬ x1 = 0 → Go X 0 mX12_isFull Q 15 [(0, .ref a0), (1, .int x1), (2, .int x2)] [.int (0 : Int32)] m)
    (h3 : ¬ (x2 = (40 : Int32)) → x1 = 0 → Go X 0 mX12_isFull Q 15 [(0, .ref a0), (1, .int x1), (2, .int x2)] [.int (1 : Int32)] m) :
    Go X 0 mX12_isFull Q 0 [(0, .ref a0), (1, .int x1), (2, .int x2)] [] m := by
  refine g_iload_n 2 dX12_isFull_0 rfl rfl ?_
  refine g_bipush (v := 40) dX12_isFull_1 (by decide) ?_
  refine g_icmp_eq 27 dX12_isFull_3 (by decide) (fun q1 => ?_) (fun q1 => ?_)
  · refine g_iconst (v := 1) dX12_isFull_27 (by decide) ?_
    exact g_bret dX12_isFull_28 rfl (Or.inr rfl) enSH (h1 q1)
  · refine g_iload_n 1 dX12_isFull_6 rfl rfl ?_
    refine g_if_ne 14 dX12_isFull_7 (by decide) (fun q2 => ?_) (fun q2 => ?_)
    · refine g_iconst (v := 0) dX12_isFull_14 (by decide) ?_
      exact g_ls [0, 1, 2] rfl (h2 q1 q2)
    · refine g_iconst (v := 1) dX12_isFull_10 (by decide) ?_
      refine g_goto 15 dX12_isFull_11 (by decide) ?_
      exact g_ls [0, 1, 2] rfl (h3 q1 q2)
theorem bX12_isFull_15 {X : pX} {Q : Option Value → pMem → Prop} {m : pMem} {a0 : Nat} {x1 : Int32} {x2 : Int32} (hW : Wf m) (c0 : SH[a0]? = some (.inl 12))
    (h1 : ¬ x2 = 0 → Go X 0 mX12_isFull Q 24 [(0, .ref a0), (1, .int x1)] [.int (0 : Int32), .int (0 : Int32)] m)
    (h2 : x2 = 0 → Go X 0 mX12_isFull Q 24 [(0, .ref a0), (1, .int x1)] [.int (1 : Int32), .int (0 : Int32)] m) :
    Go X 0 mX12_isFull Q 15 [(0, .ref a0), (1, .int x1), (2, .int x2)] [.int (0 : Int32)] m := by
  refine g_iload_n 2 dX12_isFull_15 rfl rfl ?_
  refine g_if_ne 23 dX12_isFull_16 (by decide) (fun q1 => ?_) (fun q1 => ?_)
  · refine g_iconst (v := 0) dX12_isFull_23 (by decide) ?_
    exact g_ls [0, 1] rfl (h1 q1)
  · refine g_iconst (v := 1) dX12_isFull_19 (by decide) ?_
    refine g_goto 24 dX12_isFull_20 (by decide) ?_
    exact g_ls [0, 1] rfl (h2 q1)
theorem bX12_isFull_15v1 {X : pX} {Q : Option Value → pMem → Prop} {m : pMem} {a0 : Nat} {x1 : Int32} {x2 : Int32} (hW : Wf m) (c0 : SH[a0]? = some (.inl 12))
    (h1 : ¬ x2 = 0 → Go X 0 mX12_isFull Q 24 [(0, .ref a0), (1, .int x1)] [.int (0 : Int32), .int (1 : Int32)] m)
    (h2 : x2 = 0 → Go X 0 mX12_isFull Q 24 [(0, .ref a0), (1, .int x1)] [.int (1 : Int32), .int (1 : Int32)] m) :
    Go X 0 mX12_isFull Q 15 [(0, .ref a0), (1, .int x1), (2, .int x2)] [.int (1 : Int32)] m := by
  refine g_iload_n 2 dX12_isFull_15 rfl rfl ?_
  refine g_if_ne 23 dX12_isFull_16 (by decide) (fun q1 => ?_) (fun q1 => ?_)
  · refine g_iconst (v := 0) dX12_isFull_23 (by decide) ?_
    exact g_ls [0, 1] rfl (h1 q1)
  · refine g_iconst (v := 1) dX12_isFull_19 (by decide) ?_
    refine g_goto 24 dX12_isFull_20 (by decide) ?_
    exact g_ls [0, 1] rfl (h2 q1)
theorem bX12_isFull_24 {X : pX} {Q : Option Value → pMem → Prop} {m : pMem} {a0 : Nat} {x1 : Int32} (hW : Wf m) (c0 : SH[a0]? = some (.inl 12))
    (h1 : (0 : Int32) = (0 : Int32) → ¬ x1 = (1 : Int32) → Go X 0 mX12_isFull Q 45 [(0, .ref a0), (1, .int x1)] [] m)
    (h2 : (0 : Int32) = (0 : Int32) → x1 = (1 : Int32) → (mI m (a0 + 13) 2) = (8 : Int32) → Q (some (.int (1 : Int32))) m)
    (h3 : (0 : Int32) = (0 : Int32) → x1 = (1 : Int32) → ¬ ((mI m (a0 + 13) 2) = (8 : Int32)) → Go X 0 mX12_isFull Q 45 [(0, .ref a0), (1, .int x1)] [] m)
    (h4 : ¬ ((0 : Int32) = (0 : Int32)) → Q (some (.int (1 : Int32))) m) :
    Go X 0 mX12_isFull Q 24 [(0, .ref a0), (1, .int x1)] [.int (0 : Int32), .int (0 : Int32)] m := by
  refine g_icmp_eq 29 dX12_isFull_24 (by decide) (fun q1 => ?_) (fun q1 => ?_)
  · refine g_iload_n 1 dX12_isFull_29 rfl rfl ?_
    refine g_iconst (v := 1) dX12_isFull_30 (by decide) ?_
    refine g_icmp_ne 45 dX12_isFull_31 (by decide) (fun q2 => ?_) (fun q2 => ?_)
    · exact g_ls [0, 1] rfl (h1 q1 q2)
    · refine g_aload_n 0 dX12_isFull_34 rfl rfl ?_
      refine g_getR dX12_isFull_35 fl12_46 rfl c0 (w12_13 hW c0) ?_
      refine g_iconst (v := 2) dX12_isFull_38 (by decide) ?_
      refine g_iald (j := 2) dX12_isFull_39 (s12_13 c0) (by unfold vp_in; decide) (by decide) ?_
      refine g_bipush (v := 8) dX12_isFull_40 (by decide) ?_
      refine g_icmp_eq 76 dX12_isFull_42 (by decide) (fun q3 => ?_) (fun q3 => ?_)
      · refine g_iconst (v := 1) dX12_isFull_76 (by decide) ?_
        refine g_goto 81 dX12_isFull_77 (by decide) ?_
        exact g_bret dX12_isFull_81 rfl (Or.inr rfl) enSH (h2 q1 q2 q3)
      · exact g_ls [0, 1] rfl (h3 q1 q2 q3)
  · refine g_iconst (v := 1) dX12_isFull_27 (by decide) ?_
    exact g_bret dX12_isFull_28 rfl (Or.inr rfl) enSH (h4 q1)
theorem bX12_isFull_24v1 {X : pX} {Q : Option Value → pMem → Prop} {m : pMem} {a0 : Nat} {x1 : Int32} (hW : Wf m) (c0 : SH[a0]? = some (.inl 12))
    (h1 : (0 : Int32) = (1 : Int32) → ¬ x1 = (1 : Int32) → Go X 0 mX12_isFull Q 45 [(0, .ref a0), (1, .int x1)] [] m)
    (h2 : (0 : Int32) = (1 : Int32) → x1 = (1 : Int32) → (mI m (a0 + 13) 2) = (8 : Int32) → Q (some (.int (1 : Int32))) m)
    (h3 : (0 : Int32) = (1 : Int32) → x1 = (1 : Int32) → ¬ ((mI m (a0 + 13) 2) = (8 : Int32)) → Go X 0 mX12_isFull Q 45 [(0, .ref a0), (1, .int x1)] [] m)
    (h4 : ¬ ((0 : Int32) = (1 : Int32)) → Q (some (.int (1 : Int32))) m) :
    Go X 0 mX12_isFull Q 24 [(0, .ref a0), (1, .int x1)] [.int (1 : Int32), .int (0 : Int32)] m := by
  refine g_icmp_eq 29 dX12_isFull_24 (by decide) (fun q1 => ?_) (fun q1 => ?_)
  · refine g_iload_n 1 dX12_isFull_29 rfl rfl ?_
    refine g_iconst (v := 1) dX12_isFull_30 (by decide) ?_
    refine g_icmp_ne 45 dX12_isFull_31 (by decide) (fun q2 => ?_) (fun q2 => ?_)
    · exact g_ls [0, 1] rfl (h1 q1 q2)
    · refine g_aload_n 0 dX12_isFull_34 rfl rfl ?_
      refine g_getR dX12_isFull_35 fl12_46 rfl c0 (w12_13 hW c0) ?_
      refine g_iconst (v := 2) dX12_isFull_38 (by decide) ?_
      refine g_iald (j := 2) dX12_isFull_39 (s12_13 c0) (by unfold vp_in; decide) (by decide) ?_
      refine g_bipush (v := 8) dX12_isFull_40 (by decide) ?_
      refine g_icmp_eq 76 dX12_isFull_42 (by decide) (fun q3 => ?_) (fun q3 => ?_)
      · refine g_iconst (v := 1) dX12_isFull_76 (by decide) ?_
        refine g_goto 81 dX12_isFull_77 (by decide) ?_
        exact g_bret dX12_isFull_81 rfl (Or.inr rfl) enSH (h2 q1 q2 q3)
      · exact g_ls [0, 1] rfl (h3 q1 q2 q3)
  · refine g_iconst (v := 1) dX12_isFull_27 (by decide) ?_
    exact g_bret dX12_isFull_28 rfl (Or.inr rfl) enSH (h4 q1)
theorem bX12_isFull_24v2 {X : pX} {Q : Option Value → pMem → Prop} {m : pMem} {a0 : Nat} {x1 : Int32} (hW : Wf m) (c0 : SH[a0]? = some (.inl 12))
    (h1 : (1 : Int32) = (0 : Int32) → ¬ x1 = (1 : Int32) → Go X 0 mX12_isFull Q 45 [(0, .ref a0), (1, .int x1)] [] m)
    (h2 : (1 : Int32) = (0 : Int32) → x1 = (1 : Int32) → (mI m (a0 + 13) 2) = (8 : Int32) → Q (some (.int (1 : Int32))) m)
    (h3 : (1 : Int32) = (0 : Int32) → x1 = (1 : Int32) → ¬ ((mI m (a0 + 13) 2) = (8 : Int32)) → Go X 0 mX12_isFull Q 45 [(0, .ref a0), (1, .int x1)] [] m)
    (h4 : ¬ ((1 : Int32) = (0 : Int32)) → Q (some (.int (1 : Int32))) m) :
    Go X 0 mX12_isFull Q 24 [(0, .ref a0), (1, .int x1)] [.int (0 : Int32), .int (1 : Int32)] m := by
  refine g_icmp_eq 29 dX12_isFull_24 (by decide) (fun q1 => ?_) (fun q1 => ?_)
  · refine g_iload_n 1 dX12_isFull_29 rfl rfl ?_
    refine g_iconst (v := 1) dX12_isFull_30 (by decide) ?_
    refine g_icmp_ne 45 dX12_isFull_31 (by decide) (fun q2 => ?_) (fun q2 => ?_)
    · exact g_ls [0, 1] rfl (h1 q1 q2)
    · refine g_aload_n 0 dX12_isFull_34 rfl rfl ?_
      refine g_getR dX12_isFull_35 fl12_46 rfl c0 (w12_13 hW c0) ?_
      refine g_iconst (v := 2) dX12_isFull_38 (by decide) ?_
      refine g_iald (j := 2) dX12_isFull_39 (s12_13 c0) (by unfold vp_in; decide) (by decide) ?_
      refine g_bipush (v := 8) dX12_isFull_40 (by decide) ?_
      refine g_icmp_eq 76 dX12_isFull_42 (by decide) (fun q3 => ?_) (fun q3 => ?_)
      · refine g_iconst (v := 1) dX12_isFull_76 (by decide) ?_
        refine g_goto 81 dX12_isFull_77 (by decide) ?_
        exact g_bret dX12_isFull_81 rfl (Or.inr rfl) enSH (h2 q1 q2 q3)
      · exact g_ls [0, 1] rfl (h3 q1 q2 q3)
  · refine g_iconst (v := 1) dX12_isFull_27 (by decide) ?_
    exact g_bret dX12_isFull_28 rfl (Or.inr rfl) enSH (h4 q1)
theorem bX12_isFull_24v3 {X : pX} {Q : Option Value → pMem → Prop} {m : pMem} {a0 : Nat} {x1 : Int32} (hW : Wf m) (c0 : SH[a0]? = some (.inl 12))
    (h1 : (1 : Int32) = (1 : Int32) → ¬ x1 = (1 : Int32) → Go X 0 mX12_isFull Q 45 [(0, .ref a0), (1, .int x1)] [] m)
    (h2 : (1 : Int32) = (1 : Int32) → x1 = (1 : Int32) → (mI m (a0 + 13) 2) = (8 : Int32) → Q (some (.int (1 : Int32))) m)
    (h3 : (1 : Int32) = (1 : Int32) → x1 = (1 : Int32) → ¬ ((mI m (a0 + 13) 2) = (8 : Int32)) → Go X 0 mX12_isFull Q 45 [(0, .ref a0), (1, .int x1)] [] m)
    (h4 : ¬ ((1 : Int32) = (1 : Int32)) → Q (some (.int (1 : Int32))) m) :
    Go X 0 mX12_isFull Q 24 [(0, .ref a0), (1, .int x1)] [.int (1 : Int32), .int (1 : Int32)] m := by
  refine g_icmp_eq 29 dX12_isFull_24 (by decide) (fun q1 => ?_) (fun q1 => ?_)
  · refine g_iload_n 1 dX12_isFull_29 rfl rfl ?_
    refine g_iconst (v := 1) dX12_isFull_30 (by decide) ?_
    refine g_icmp_ne 45 dX12_isFull_31 (by decide) (fun q2 => ?_) (fun q2 => ?_)
    · exact g_ls [0, 1] rfl (h1 q1 q2)
    · refine g_aload_n 0 dX12_isFull_34 rfl rfl ?_
      refine g_getR dX12_isFull_35 fl12_46 rfl c0 (w12_13 hW c0) ?_
      refine g_iconst (v := 2) dX12_isFull_38 (by decide) ?_
      refine g_iald (j := 2) dX12_isFull_39 (s12_13 c0) (by unfold vp_in; decide) (by decide) ?_
      refine g_bipush (v := 8) dX12_isFull_40 (by decide) ?_
      refine g_icmp_eq 76 dX12_isFull_42 (by decide) (fun q3 => ?_) (fun q3 => ?_)
      · refine g_iconst (v := 1) dX12_isFull_76 (by decide) ?_
        refine g_goto 81 dX12_isFull_77 (by decide) ?_
        exact g_bret dX12_isFull_81 rfl (Or.inr rfl) enSH (h2 q1 q2 q3)
      · exact g_ls [0, 1] rfl (h3 q1 q2 q3)
  · refine g_iconst (v := 1) dX12_isFull_27 (by decide) ?_
    exact g_bret dX12_isFull_28 rfl (Or.inr rfl) enSH (h4 q1)
theorem bX12_isFull_45 {X : pX} {Q : Option Value → pMem → Prop} {m : pMem} {a0 : Nat} {x1 : Int32} (hW : Wf m) (c0 : SH[a0]? = some (.inl 12))
    (h1 : ¬ x1 = (2 : Int32) → Go X 0 mX12_isFull Q 60 [(0, .ref a0), (1, .int x1)] [] m)
    (h2 : x1 = (2 : Int32) → (mI m (a0 + 13) 3) = (4 : Int32) → Q (some (.int (1 : Int32))) m)
    (h3 : x1 = (2 : Int32) → ¬ ((mI m (a0 + 13) 3) = (4 : Int32)) → Go X 0 mX12_isFull Q 60 [(0, .ref a0), (1, .int x1)] [] m) :
    Go X 0 mX12_isFull Q 45 [(0, .ref a0), (1, .int x1)] [] m := by
  refine g_iload_n 1 dX12_isFull_45 rfl rfl ?_
  refine g_iconst (v := 2) dX12_isFull_46 (by decide) ?_
  refine g_icmp_ne 60 dX12_isFull_47 (by decide) (fun q1 => ?_) (fun q1 => ?_)
  · exact g_ls [0, 1] rfl (h1 q1)
  · refine g_aload_n 0 dX12_isFull_50 rfl rfl ?_
    refine g_getR dX12_isFull_51 fl12_46 rfl c0 (w12_13 hW c0) ?_
    refine g_iconst (v := 3) dX12_isFull_54 (by decide) ?_
    refine g_iald (j := 3) dX12_isFull_55 (s12_13 c0) (by unfold vp_in; decide) (by decide) ?_
    refine g_iconst (v := 4) dX12_isFull_56 (by decide) ?_
    refine g_icmp_eq 76 dX12_isFull_57 (by decide) (fun q2 => ?_) (fun q2 => ?_)
    · refine g_iconst (v := 1) dX12_isFull_76 (by decide) ?_
      refine g_goto 81 dX12_isFull_77 (by decide) ?_
      exact g_bret dX12_isFull_81 rfl (Or.inr rfl) enSH (h2 q1 q2)
    · exact g_ls [0, 1] rfl (h3 q1 q2)
theorem bX12_isFull_60 {X : pX} {Q : Option Value → pMem → Prop} {m : pMem} {a0 : Nat} {x1 : Int32} (hW : Wf m) (c0 : SH[a0]? = some (.inl 12))
    (h1 : ¬ x1 = (3 : Int32) → Q (some (.int (0 : Int32))) m)
    (h2 : x1 = (3 : Int32) → ¬ (mI m (a0 + 13) 4) = (6 : Int32) → Q (some (.int (0 : Int32))) m)
    (h3 : x1 = (3 : Int32) → (mI m (a0 + 13) 4) = (6 : Int32) → Q (some (.int (1 : Int32))) m) :
    Go X 0 mX12_isFull Q 60 [(0, .ref a0), (1, .int x1)] [] m := by
  refine g_iload_n 1 dX12_isFull_60 rfl rfl ?_
  refine g_iconst (v := 3) dX12_isFull_61 (by decide) ?_
  refine g_icmp_ne 80 dX12_isFull_62 (by decide) (fun q1 => ?_) (fun q1 => ?_)
  · refine g_iconst (v := 0) dX12_isFull_80 (by decide) ?_
    exact g_bret dX12_isFull_81 rfl (Or.inl rfl) enSH (h1 q1)
  · refine g_aload_n 0 dX12_isFull_65 rfl rfl ?_
    refine g_getR dX12_isFull_66 fl12_46 rfl c0 (w12_13 hW c0) ?_
    refine g_iconst (v := 4) dX12_isFull_69 (by decide) ?_
    refine g_iald (j := 4) dX12_isFull_70 (s12_13 c0) (by unfold vp_in; decide) (by decide) ?_
    refine g_bipush (v := 6) dX12_isFull_71 (by decide) ?_
    refine g_icmp_ne 80 dX12_isFull_73 (by decide) (fun q2 => ?_) (fun q2 => ?_)
    · refine g_iconst (v := 0) dX12_isFull_80 (by decide) ?_
      exact g_bret dX12_isFull_81 rfl (Or.inl rfl) enSH (h2 q1 q2)
    · refine g_iconst (v := 1) dX12_isFull_76 (by decide) ?_
      refine g_goto 81 dX12_isFull_77 (by decide) ?_
      exact g_bret dX12_isFull_81 rfl (Or.inr rfl) enSH (h3 q1 q2)
