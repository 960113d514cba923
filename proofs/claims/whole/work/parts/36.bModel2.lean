theorem bX12_roadClause_0 {X : pX} {Q : Option Value → pMem → Prop} {m : pMem} {a0 : Nat} {x1 : Int32} (hW : Wf m) (c0 : SH[a0]? = some (.inl 12))
    (h1 : Cl X 1 mX12_blanks [.ref a0] m (fun v m2 => Go X 6 mX12_roadClause Q 4 [(0, .ref a0), (1, .int x1)] (v.toList ++ []) m2)) :
    Go X 6 mX12_roadClause Q 0 [(0, .ref a0), (1, .int x1)] [] m := by
  refine g_aload_n 0 dX12_roadClause_0 rfl rfl ?_
  exact g_callV (As := []) (st := []) dX12_roadClause_1 clX12_183 c0 rfl rfl (Nat.le_of_ble_eq_true rfl) (rmSH (by decide) (by decide)) h1
theorem bX12_roadClause_4 {X : pX} {Q : Option Value → pMem → Prop} {m : pMem} {a0 : Nat} {x1 : Int32} (hW : Wf m) (c0 : SH[a0]? = some (.inl 12))
    (h1 : Go X 6 mX12_roadClause Q 11 [(0, .ref a0), (1, .int x1), (2, .int (mI m a0 20)), (3, .int (0 : Int32))] [] m) :
    Go X 6 mX12_roadClause Q 4 [(0, .ref a0), (1, .int x1)] [] m := by
  refine g_aload_n 0 dX12_roadClause_4 rfl rfl ?_
  refine g_getI dX12_roadClause_5 fl12_163 c0 ?_
  refine g_istore_n (ls2 := [(2, .int (mI m a0 20)), (0, .ref a0), (1, .int x1)]) dX12_roadClause_8 rfl (by decide) rfl ?_
  refine g_iconst (v := 0) dX12_roadClause_9 (by decide) ?_
  refine g_istore_n (ls2 := [(3, .int (0 : Int32)), (2, .int (mI m a0 20)), (0, .ref a0), (1, .int x1)]) dX12_roadClause_10 rfl (by decide) rfl ?_
  exact g_ls [2, 3, 1, 0] rfl h1
theorem bX12_roadClause_11 {X : pX} {Q : Option Value → pMem → Prop} {m : pMem} {a0 : Nat} {x1 : Int32} {x2 : Int32} {x3 : Int32} (hW : Wf m) (c0 : SH[a0]? = some (.inl 12))
    (h1 : (5 : Int32) ≤ x3 → Go X 6 mX12_roadClause Q 33 [(0, .ref a0), (1, .int x1), (2, .int x2), (3, .int x3)] [] m)
    (h2 : ¬ ((5 : Int32) ≤ x3) → Cl X 0 mX12_roadWord [.int x3] m (fun v m2 => Go X 6 mX12_roadClause Q 21 [(0, .ref a0), (1, .int x1), (2, .int x2), (3, .int x3)] (v.toList ++ [.ref a0]) m2)) :
    Go X 6 mX12_roadClause Q 11 [(0, .ref a0), (1, .int x1), (2, .int x2), (3, .int x3)] [] m := by
  refine g_iload_n 3 dX12_roadClause_11 rfl rfl ?_
  refine g_iconst (v := 5) dX12_roadClause_12 (by decide) ?_
  refine g_icmp_ge 33 dX12_roadClause_13 (by decide) (fun q1 => ?_) (fun q1 => ?_)
  · exact g_ls [0, 1, 2, 3] rfl (h1 q1)
  · refine g_aload_n 0 dX12_roadClause_16 rfl rfl ?_
    refine g_iload_n 3 dX12_roadClause_17 rfl rfl ?_
    exact g_callS (As := [.int x3]) (st := [.ref a0]) dX12_roadClause_18 clX12_270 rfl rfl (Nat.le_of_ble_eq_true rfl) (rmSH (by decide) (by decide)) (h2 q1)
theorem bX12_roadClause_33 {X : pX} {Q : Option Value → pMem → Prop} {m : pMem} {a0 : Nat} {x1 : Int32} {x2 : Int32} {x3 : Int32} (hW : Wf m) (c0 : SH[a0]? = some (.inl 12))
    (h1 : ¬ x3 = (5 : Int32) → Cl X 0 mX12_isFull [.ref a0, .int x3, .int x1] m (fun v m2 => Go X 6 mX12_roadClause Q 51 [(0, .ref a0), (1, .int x1), (2, .int x2), (3, .int x3)] (v.toList ++ []) m2))
    (h2 : x3 = (5 : Int32) → Cl X 0 mX12_fails [.ref a0, .int (0 : Int32), .int x2] m (fun v m2 => Go X 6 mX12_roadClause Q 44 [(0, .ref a0), (1, .int x1), (2, .int x2), (3, .int x3)] (v.toList ++ []) m2)) :
    Go X 6 mX12_roadClause Q 33 [(0, .ref a0), (1, .int x1), (2, .int x2), (3, .int x3)] [] m := by
  refine g_iload_n 3 dX12_roadClause_33 rfl rfl ?_
  refine g_iconst (v := 5) dX12_roadClause_34 (by decide) ?_
  refine g_icmp_ne 45 dX12_roadClause_35 (by decide) (fun q1 => ?_) (fun q1 => ?_)
  · refine g_aload_n 0 dX12_roadClause_45 rfl rfl ?_
    refine g_iload_n 3 dX12_roadClause_46 rfl rfl ?_
    refine g_iload_n 1 dX12_roadClause_47 rfl rfl ?_
    exact g_callV (As := [.int x3, .int x1]) (st := []) dX12_roadClause_48 clX12_273 c0 rfl rfl (Nat.le_of_ble_eq_true rfl) (rmSH (by decide) (by decide)) (h1 q1)
  · refine g_aload_n 0 dX12_roadClause_38 rfl rfl ?_
    refine g_iconst (v := 0) dX12_roadClause_39 (by decide) ?_
    refine g_iload_n 2 dX12_roadClause_40 rfl rfl ?_
    exact g_callV (As := [.int (0 : Int32), .int x2]) (st := []) dX12_roadClause_41 clX12_199 c0 rfl rfl (Nat.le_of_ble_eq_true rfl) (rmSH (by decide) (by decide)) (h2 q1)
theorem bX12_roadClause_21 {X : pX} {Q : Option Value → pMem → Prop} {m : pMem} {a0 : Nat} {x1 : Int32} {x2 : Int32} {x3 : Int32} {ks0 : Nat} {as1 : Nat} (hW : Wf m) (c0 : SH[a0]? = some (.inl 12)) (cs1 : SH[as1]? = some (.inl 12))
    (h1 : Cl X 5 mX12_stood [.ref as1, .retAddr ks0] m (fun v m2 => Go X 6 mX12_roadClause Q 24 [(0, .ref a0), (1, .int x1), (2, .int x2), (3, .int x3)] (v.toList ++ []) m2)) :
    Go X 6 mX12_roadClause Q 21 [(0, .ref a0), (1, .int x1), (2, .int x2), (3, .int x3)] [.retAddr ks0, .ref as1] m := by
  exact g_callV (As := [.retAddr ks0]) (st := []) dX12_roadClause_21 clX12_186 cs1 rfl rfl (Nat.le_of_ble_eq_true rfl) (rmSH (by decide) (by decide)) h1
theorem bX12_roadClause_51 {X : pX} {Q : Option Value → pMem → Prop} {m : pMem} {a0 : Nat} {x1 : Int32} {x2 : Int32} {x3 : Int32} {xs0 : Int32} (hW : Wf m) (c0 : SH[a0]? = some (.inl 12))
    (h1 : xs0 = 0 → Cl X 0 mX12_roadWord [.int x3] m (fun v m2 => Go X 6 mX12_roadClause Q 70 [(0, .ref a0), (1, .int x1), (2, .int x2), (3, .int x3)] (v.toList ++ [.int (mI m a0 20), .ref a0]) m2))
    (h2 : ¬ (xs0 = 0) → Cl X 0 mX12_fails [.ref a0, .int (4 : Int32), .int x2] m (fun v m2 => Go X 6 mX12_roadClause Q 60 [(0, .ref a0), (1, .int x1), (2, .int x2), (3, .int x3)] (v.toList ++ []) m2)) :
    Go X 6 mX12_roadClause Q 51 [(0, .ref a0), (1, .int x1), (2, .int x2), (3, .int x3)] [.int xs0] m := by
  refine g_if_eq 61 dX12_roadClause_51 (by decide) (fun q1 => ?_) (fun q1 => ?_)
  · refine g_aload_n 0 dX12_roadClause_61 rfl rfl ?_
    refine g_dup dX12_roadClause_62 rfl ?_
    refine g_getI dX12_roadClause_63 fl12_163 c0 ?_
    refine g_iload_n 3 dX12_roadClause_66 rfl rfl ?_
    exact g_callS (As := [.int x3]) (st := [.int (mI m a0 20), .ref a0]) dX12_roadClause_67 clX12_270 rfl rfl (Nat.le_of_ble_eq_true rfl) (rmSH (by decide) (by decide)) (h1 q1)
  · refine g_aload_n 0 dX12_roadClause_54 rfl rfl ?_
    refine g_iconst (v := 4) dX12_roadClause_55 (by decide) ?_
    refine g_iload_n 2 dX12_roadClause_56 rfl rfl ?_
    exact g_callV (As := [.int (4 : Int32), .int x2]) (st := []) dX12_roadClause_57 clX12_199 c0 rfl rfl (Nat.le_of_ble_eq_true rfl) (rmSH (by decide) (by decide)) (h2 q1)
theorem bX12_roadClause_44 {X : pX} {Q : Option Value → pMem → Prop} {m : pMem} {a0 : Nat} {x1 : Int32} {x2 : Int32} {x3 : Int32} (hW : Wf m) (c0 : SH[a0]? = some (.inl 12))
    (h1 : Q none m) :
    Go X 6 mX12_roadClause Q 44 [(0, .ref a0), (1, .int x1), (2, .int x2), (3, .int x3)] [] m := by
  exact g_vret dX12_roadClause_44 rfl enSH h1
theorem bX12_roadClause_24 {X : pX} {Q : Option Value → pMem → Prop} {m : pMem} {a0 : Nat} {x1 : Int32} {x2 : Int32} {x3 : Int32} {xs0 : Int32} (hW : Wf m) (c0 : SH[a0]? = some (.inl 12))
    (h1 : ¬ xs0 = 0 → Go X 6 mX12_roadClause Q 33 [(0, .ref a0), (1, .int x1), (2, .int x2), (3, .int x3)] [] m)
    (h2 : xs0 = 0 → Go X 6 mX12_roadClause Q 11 [(0, .ref a0), (1, .int x1), (2, .int x2), (3, .int (x3 + (1 : Int32)))] [] m) :
    Go X 6 mX12_roadClause Q 24 [(0, .ref a0), (1, .int x1), (2, .int x2), (3, .int x3)] [.int xs0] m := by
  refine g_if_ne 33 dX12_roadClause_24 (by decide) (fun q1 => ?_) (fun q1 => ?_)
  · exact g_ls [0, 1, 2, 3] rfl (h1 q1)
  · refine g_iinc (v := x3 + (1 : Int32)) (ls2 := [(3, .int (x3 + (1 : Int32))), (0, .ref a0), (1, .int x1), (2, .int x2)]) 3 dX12_roadClause_27 rfl rfl (by decide) rfl ?_
    refine g_goto 11 dX12_roadClause_30 (by decide) ?_
    exact g_ls [1, 2, 3, 0] rfl (h2 q1)
theorem bX12_roadClause_70 {X : pX} {Q : Option Value → pMem → Prop} {m : pMem} {a0 : Nat} {x1 : Int32} {x2 : Int32} {x3 : Int32} {ks0 : Nat} {xs1 : Int32} {as2 : Nat} (hW : Wf m) (c0 : SH[a0]? = some (.inl 12)) (cs2 : SH[as2]? = some (.inl 12))
    (h1 : 1 ≤ ks0 ∧ ks0 ≤ 25)
    (h2 : Cl X 1 mJ0_length_8abf5 [.retAddr ks0] m (fun v m2 => Go X 6 mX12_roadClause Q 73 [(0, .ref a0), (1, .int x1), (2, .int x2), (3, .int x3)] (v.toList ++ [.int xs1, .ref as2]) m2)) :
    Go X 6 mX12_roadClause Q 70 [(0, .ref a0), (1, .int x1), (2, .int x2), (3, .int x3)] [.retAddr ks0, .int xs1, .ref as2] m := by
  exact g_callVO (As := []) (st := [.int xs1, .ref as2]) dX12_roadClause_70 coX12_174 rfl h1 rfl rfl (Nat.le_of_ble_eq_true rfl) (rmSH (by decide) (by decide)) h2
theorem bX12_roadClause_60 {X : pX} {Q : Option Value → pMem → Prop} {m : pMem} {a0 : Nat} {x1 : Int32} {x2 : Int32} {x3 : Int32} (hW : Wf m) (c0 : SH[a0]? = some (.inl 12))
    (h1 : Q none m) :
    Go X 6 mX12_roadClause Q 60 [(0, .ref a0), (1, .int x1), (2, .int x2), (3, .int x3)] [] m := by
  exact g_vret dX12_roadClause_60 rfl enSH h1
theorem bX12_roadClause_73 {X : pX} {Q : Option Value → pMem → Prop} {m : pMem} {a0 : Nat} {x1 : Int32} {x2 : Int32} {x3 : Int32} {xs0 : Int32} {xs1 : Int32} {as2 : Nat} (hW : Wf m) (c0 : SH[a0]? = some (.inl 12)) (cs2 : SH[as2]? = some (.inl 12))
    (h1 : Cl X 5 mX12_roadPart [.ref a0, .int x3] (uI m as2 20 (xs1 + xs0)) (fun v m2 => Go X 6 mX12_roadClause Q 82 [(0, .ref a0), (1, .int x1), (2, .int x2), (3, .int x3)] (v.toList ++ []) m2)) :
    Go X 6 mX12_roadClause Q 73 [(0, .ref a0), (1, .int x1), (2, .int x2), (3, .int x3)] [.int xs0, .int xs1, .ref as2] m := by
  refine g_iadd dX12_roadClause_73 ?_
  refine g_putI dX12_roadClause_74 fl12_163 (fun h => by cases h) cs2 ?_
  refine g_aload_n 0 dX12_roadClause_77 rfl rfl ?_
  refine g_iload_n 3 dX12_roadClause_78 rfl rfl ?_
  exact g_callV (As := [.int x3]) (st := []) dX12_roadClause_79 clX12_277 c0 rfl rfl (Nat.le_of_ble_eq_true rfl) (rmSH (by decide) (by decide)) h1
theorem bX12_roadClause_82 {X : pX} {Q : Option Value → pMem → Prop} {m : pMem} {a0 : Nat} {x1 : Int32} {x2 : Int32} {x3 : Int32} (hW : Wf m) (c0 : SH[a0]? = some (.inl 12))
    (h1 : Q none m) :
    Go X 6 mX12_roadClause Q 82 [(0, .ref a0), (1, .int x1), (2, .int x2), (3, .int x3)] [] m := by
  exact g_vret dX12_roadClause_82 rfl enSH h1
theorem bX12_copies_0 {X : pX} {Q : Option Value → pMem → Prop} {m : pMem} {a0 n0 : Nat} {a1 n1 : Nat} (hW : Wf m) (c0 : SH[a0]? = some (.inr (.int, n0))) (c1 : SH[a1]? = some (.inr (.int, n1)))
    (h1 : Go X 0 mX12_copies Q 2 [(0, .ref a0), (1, .ref a1), (2, .int (0 : Int32))] [] m) :
    Go X 0 mX12_copies Q 0 [(0, .ref a0), (1, .ref a1)] [] m := by
  refine g_iconst (v := 0) dX12_copies_0 (by decide) ?_
  refine g_istore_n (ls2 := [(2, .int (0 : Int32)), (0, .ref a0), (1, .ref a1)]) dX12_copies_1 rfl (by decide) rfl ?_
  exact g_ls [1, 2, 0] rfl h1
theorem bX12_copies_2 {X : pX} {Q : Option Value → pMem → Prop} {m : pMem} {a0 n0 : Nat} {a1 n1 : Nat} {x2 : Int32} (hW : Wf m) (c0 : SH[a0]? = some (.inr (.int, n0))) (c1 : SH[a1]? = some (.inr (.int, n1)))
    (h1 : (Int32.ofNat n0) ≤ x2 → Q none m)
    (h2 : ¬ ((Int32.ofNat n0) ≤ x2) → vp_in x2 n0)
    (h3 : ¬ ((Int32.ofNat n0) ≤ x2) → vp_in x2 n1)
    (h4 : ¬ ((Int32.ofNat n0) ≤ x2) → Go X 0 mX12_copies Q 2 [(0, .ref a0), (1, .ref a1), (2, .int (x2 + (1 : Int32)))] [] (uI m a1 x2.toNatClampNeg (mI m a0 x2.toNatClampNeg))) :
    Go X 0 mX12_copies Q 2 [(0, .ref a0), (1, .ref a1), (2, .int x2)] [] m := by
  refine g_iload_n 2 dX12_copies_2 rfl rfl ?_
  refine g_aload_n 0 dX12_copies_3 rfl rfl ?_
  refine g_alen (v := Int32.ofNat n0) dX12_copies_4 c0 (by decide) (by first | rfl | decide) ?_
  refine g_icmp_ge 20 dX12_copies_5 (by decide) (fun q1 => ?_) (fun q1 => ?_)
  · exact g_vret dX12_copies_20 rfl enSH (h1 q1)
  · refine g_aload_n 1 dX12_copies_8 rfl rfl ?_
    refine g_iload_n 2 dX12_copies_9 rfl rfl ?_
    refine g_aload_n 0 dX12_copies_10 rfl rfl ?_
    refine g_iload_n 2 dX12_copies_11 rfl rfl ?_
    refine g_iald (j := x2.toNatClampNeg) dX12_copies_12 c0 (h2 q1) rfl ?_
    refine g_iast (j := x2.toNatClampNeg) dX12_copies_13 c1 (h3 q1) rfl ?_
    refine g_iinc (v := x2 + (1 : Int32)) (ls2 := [(2, .int (x2 + (1 : Int32))), (0, .ref a0), (1, .ref a1)]) 2 dX12_copies_14 rfl rfl (by decide) rfl ?_
    refine g_goto 2 dX12_copies_17 (by decide) ?_
    exact g_ls [1, 2, 0] rfl (h4 q1)
theorem bX12_goesOn_0 {X : pX} {Q : Option Value → pMem → Prop} {m : pMem} {a0 : Nat} (hW : Wf m) (c0 : SH[a0]? = some (.inl 12))
    (h1 : Cl X 1 mX12_blanks [.ref a0] m (fun v m2 => Go X 2 mX12_goesOn Q 4 [(0, .ref a0)] (v.toList ++ []) m2)) :
    Go X 2 mX12_goesOn Q 0 [(0, .ref a0)] [] m := by
  refine g_aload_n 0 dX12_goesOn_0 rfl rfl ?_
  exact g_callV (As := []) (st := []) dX12_goesOn_1 clX12_183 c0 rfl rfl (Nat.le_of_ble_eq_true rfl) (rmSH (by decide) (by decide)) h1
theorem bX12_goesOn_4 {X : pX} {Q : Option Value → pMem → Prop} {m : pMem} {a0 : Nat} (hW : Wf m) (c0 : SH[a0]? = some (.inl 12))
    (h1 : ¬ (mI m a0 21) = 0 → Go X 2 mX12_goesOn Q 40 [(0, .ref a0)] [] m)
    (h2 : (mI m a0 21) = 0 → (mI m a0 19) ≤ (mI m a0 20) → Go X 2 mX12_goesOn Q 40 [(0, .ref a0)] [] m)
    (h3 : (mI m a0 21) = 0 → ¬ ((mI m a0 19) ≤ (mI m a0 20)) → Cl X 0 mX12_sign [.ref a0] m (fun v m2 => Go X 2 mX12_goesOn Q 26 [(0, .ref a0)] (v.toList ++ []) m2)) :
    Go X 2 mX12_goesOn Q 4 [(0, .ref a0)] [] m := by
  refine g_aload_n 0 dX12_goesOn_4 rfl rfl ?_
  refine g_getI dX12_goesOn_5 fl12_160 c0 ?_
  refine g_if_ne 40 dX12_goesOn_8 (by decide) (fun q1 => ?_) (fun q1 => ?_)
  · exact g_ls [0] rfl (h1 q1)
  · refine g_aload_n 0 dX12_goesOn_11 rfl rfl ?_
    refine g_getI dX12_goesOn_12 fl12_163 c0 ?_
    refine g_aload_n 0 dX12_goesOn_15 rfl rfl ?_
    refine g_getI dX12_goesOn_16 fl12_132 c0 ?_
    refine g_icmp_ge 40 dX12_goesOn_19 (by decide) (fun q2 => ?_) (fun q2 => ?_)
    · exact g_ls [0] rfl (h2 q1 q2)
    · refine g_aload_n 0 dX12_goesOn_22 rfl rfl ?_
      exact g_callV (As := []) (st := []) dX12_goesOn_23 clX12_166 c0 rfl rfl (Nat.le_of_ble_eq_true rfl) (rmSH (by decide) (by decide)) (h3 q1 q2)
theorem bX12_goesOn_40 {X : pX} {Q : Option Value → pMem → Prop} {m : pMem} {a0 : Nat} (hW : Wf m) (c0 : SH[a0]? = some (.inl 12))
    (h1 : ¬ (mI m a0 21) = 0 → Go X 2 mX12_goesOn Q 62 [(0, .ref a0)] [] m)
    (h2 : (mI m a0 21) = 0 → (mI m a0 19) ≤ (mI m a0 20) → Go X 2 mX12_goesOn Q 62 [(0, .ref a0)] [] m)
    (h3 : (mI m a0 21) = 0 → ¬ ((mI m a0 19) ≤ (mI m a0 20)) → Q (some (.int (1 : Int32))) (uI m a0 20 ((mI m a0 20) + (1 : Int32)))) :
    Go X 2 mX12_goesOn Q 40 [(0, .ref a0)] [] m := by
  refine g_aload_n 0 dX12_goesOn_40 rfl rfl ?_
  refine g_getI dX12_goesOn_41 fl12_160 c0 ?_
  refine g_if_ne 62 dX12_goesOn_44 (by decide) (fun q1 => ?_) (fun q1 => ?_)
  · exact g_ls [0] rfl (h1 q1)
  · refine g_aload_n 0 dX12_goesOn_47 rfl rfl ?_
    refine g_getI dX12_goesOn_48 fl12_163 c0 ?_
    refine g_aload_n 0 dX12_goesOn_51 rfl rfl ?_
    refine g_getI dX12_goesOn_52 fl12_132 c0 ?_
    refine g_icmp_ge 62 dX12_goesOn_55 (by decide) (fun q2 => ?_) (fun q2 => ?_)
    · exact g_ls [0] rfl (h2 q1 q2)
    · refine g_iconst (v := 1) dX12_goesOn_58 (by decide) ?_
      refine g_goto 63 dX12_goesOn_59 (by decide) ?_
      refine g_istore_n (ls2 := [(1, .int (1 : Int32)), (0, .ref a0)]) dX12_goesOn_63 rfl (by decide) rfl ?_
      refine g_aload_n 1 dX12_goesOn_64 rfl rfl ?_
      refine g_dup dX12_goesOn_65 rfl ?_
      refine g_getI dX12_goesOn_66 fl12_163 c0 ?_
      refine g_iconst (v := 1) dX12_goesOn_69 (by decide) ?_
      refine g_iadd dX12_goesOn_70 ?_
      refine g_putI dX12_goesOn_71 fl12_163 (fun h => by cases h) c0 ?_
      refine g_iload_n 0 dX12_goesOn_74 rfl rfl ?_
      exact g_bret dX12_goesOn_75 rfl (Or.inr rfl) enSH (h3 q1 q2)
theorem bX12_goesOn_26 {X : pX} {Q : Option Value → pMem → Prop} {m : pMem} {a0 : Nat} {xs0 : Int32} (hW : Wf m) (c0 : SH[a0]? = some (.inl 12))
    (h1 : xs0 = (59 : Int32) → Go X 2 mX12_goesOn Q 40 [(0, .ref a0)] [] m)
    (h2 : ¬ (xs0 = (59 : Int32)) → Cl X 0 mX12_fails [.ref a0, .int (0 : Int32), .int (mI m a0 20)] m (fun v m2 => Go X 2 mX12_goesOn Q 40 [(0, .ref a0)] (v.toList ++ []) m2)) :
    Go X 2 mX12_goesOn Q 26 [(0, .ref a0)] [.int xs0] m := by
  refine g_bipush (v := 59) dX12_goesOn_26 (by decide) ?_
  refine g_icmp_eq 40 dX12_goesOn_28 (by decide) (fun q1 => ?_) (fun q1 => ?_)
  · exact g_ls [0] rfl (h1 q1)
  · refine g_aload_n 0 dX12_goesOn_31 rfl rfl ?_
    refine g_iconst (v := 0) dX12_goesOn_32 (by decide) ?_
    refine g_aload_n 0 dX12_goesOn_33 rfl rfl ?_
    refine g_getI dX12_goesOn_34 fl12_163 c0 ?_
    exact g_callV (As := [.int (0 : Int32), .int (mI m a0 20)]) (st := []) dX12_goesOn_37 clX12_199 c0 rfl rfl (Nat.le_of_ble_eq_true rfl) (rmSH (by decide) (by decide)) (h2 q1)
theorem bX12_goesOn_62 {X : pX} {Q : Option Value → pMem → Prop} {m : pMem} {a0 : Nat} (hW : Wf m) (c0 : SH[a0]? = some (.inl 12))
    (h1 : Q (some (.int (0 : Int32))) (uI m a0 20 ((mI m a0 20) + (1 : Int32)))) :
    Go X 2 mX12_goesOn Q 62 [(0, .ref a0)] [] m := by
  refine g_iconst (v := 0) dX12_goesOn_62 (by decide) ?_
  refine g_istore_n (ls2 := [(1, .int (0 : Int32)), (0, .ref a0)]) dX12_goesOn_63 rfl (by decide) rfl ?_
  refine g_aload_n 1 dX12_goesOn_64 rfl rfl ?_
  refine g_dup dX12_goesOn_65 rfl ?_
  refine g_getI dX12_goesOn_66 fl12_163 c0 ?_
  refine g_iconst (v := 1) dX12_goesOn_69 (by decide) ?_
  refine g_iadd dX12_goesOn_70 ?_
  refine g_putI dX12_goesOn_71 fl12_163 (fun h => by cases h) c0 ?_
  refine g_iload_n 0 dX12_goesOn_74 rfl rfl ?_
  exact g_bret dX12_goesOn_75 rfl (Or.inl rfl) enSH h1
theorem bX12_starts_0 {X : pX} {Q : Option Value → pMem → Prop} {m : pMem} {a0 : Nat} (hW : Wf m) (c0 : SH[a0]? = some (.inl 12))
    (h1 : Q none (uI (uI (uI (uI (uI m a0 20 (0 : Int32)) a0 21 (0 : Int32)) a0 24 (0 : Int32)) a0 25 (0 : Int32)) a0 26 (0 : Int32))) :
    Go X 0 mX12_starts Q 0 [(0, .ref a0)] [] m := by
  refine g_aload_n 0 dX12_starts_0 rfl rfl ?_
  refine g_iconst (v := 0) dX12_starts_1 (by decide) ?_
  refine g_putI dX12_starts_2 fl12_163 (fun h => by cases h) c0 ?_
  refine g_aload_n 0 dX12_starts_5 rfl rfl ?_
  refine g_iconst (v := 0) dX12_starts_6 (by decide) ?_
  refine g_putI dX12_starts_7 fl12_160 (fun h => by cases h) c0 ?_
  refine g_aload_n 0 dX12_starts_10 rfl rfl ?_
  refine g_iconst (v := 0) dX12_starts_11 (by decide) ?_
  refine g_putI dX12_starts_12 fl12_193 (fun h => by cases h) c0 ?_
  refine g_aload_n 0 dX12_starts_15 rfl rfl ?_
  refine g_iconst (v := 0) dX12_starts_16 (by decide) ?_
  refine g_putI dX12_starts_17 fl12_234 (fun h => by cases h) c0 ?_
  refine g_aload_n 0 dX12_starts_20 rfl rfl ?_
  refine g_iconst (v := 0) dX12_starts_21 (by decide) ?_
  refine g_putI dX12_starts_22 fl12_196 (fun h => by cases h) c0 ?_
  exact g_vret dX12_starts_25 rfl enSH h1
theorem bX12_readsAll_0 {X : pX} {Q : Option Value → pMem → Prop} {m : pMem} {a0 : Nat} (hW : Wf m) (c0 : SH[a0]? = some (.inl 12))
    (h1 : Cl X 0 mX12_starts [.ref a0] m (fun v m2 => Go X 7 mX12_readsAll Q 4 [(0, .ref a0)] (v.toList ++ []) m2)) :
    Go X 7 mX12_readsAll Q 0 [(0, .ref a0)] [] m := by
  refine g_aload_n 0 dX12_readsAll_0 rfl rfl ?_
  exact g_callV (As := []) (st := []) dX12_readsAll_1 clX12_280 c0 rfl rfl (Nat.le_of_ble_eq_true rfl) (rmSH (by decide) (by decide)) h1
theorem bX12_readsAll_4 {X : pX} {Q : Option Value → pMem → Prop} {m : pMem} {a0 : Nat} (hW : Wf m) (c0 : SH[a0]? = some (.inl 12))
    (h1 : Go X 7 mX12_readsAll Q 6 [(0, .ref a0), (1, .int (0 : Int32))] [] m) :
    Go X 7 mX12_readsAll Q 4 [(0, .ref a0)] [] m := by
  refine g_iconst (v := 0) dX12_readsAll_4 (by decide) ?_
  refine g_istore_n (ls2 := [(1, .int (0 : Int32)), (0, .ref a0)]) dX12_readsAll_5 rfl (by decide) rfl ?_
  exact g_ls [1, 0] rfl h1
theorem bX12_readsAll_6 {X : pX} {Q : Option Value → pMem → Prop} {m : pMem} {a0 : Nat} {x1 : Int32} (hW : Wf m) (c0 : SH[a0]? = some (.inl 12))
    (h1 : (5 : Int32) ≤ x1 → Go X 7 mX12_readsAll Q 28 [(0, .ref a0), (1, .int (0 : Int32)), (2, .int (1 : Int32))] [] m)
    (h2 : ¬ ((5 : Int32) ≤ x1) → vp_in x1 5)
    (h3 : ¬ ((5 : Int32) ≤ x1) → Go X 7 mX12_readsAll Q 6 [(0, .ref a0), (1, .int (x1 + (1 : Int32)))] [] (uI m (a0 + 13) x1.toNatClampNeg (0 : Int32))) :
    Go X 7 mX12_readsAll Q 6 [(0, .ref a0), (1, .int x1)] [] m := by
  refine g_iload_n 1 dX12_readsAll_6 rfl rfl ?_
  refine g_iconst (v := 5) dX12_readsAll_7 (by decide) ?_
  refine g_icmp_ge 24 dX12_readsAll_8 (by decide) (fun q1 => ?_) (fun q1 => ?_)
  · refine g_iconst (v := 0) dX12_readsAll_24 (by decide) ?_
    refine g_istore_n (ls2 := [(1, .int (0 : Int32)), (0, .ref a0)]) dX12_readsAll_25 rfl (by decide) rfl ?_
    refine g_iconst (v := 1) dX12_readsAll_26 (by decide) ?_
    refine g_istore_n (ls2 := [(2, .int (1 : Int32)), (1, .int (0 : Int32)), (0, .ref a0)]) dX12_readsAll_27 rfl (by decide) rfl ?_
    exact g_ls [2, 1, 0] rfl (h1 q1)
  · refine g_aload_n 0 dX12_readsAll_11 rfl rfl ?_
    refine g_getR dX12_readsAll_12 fl12_46 rfl c0 (w12_13 hW c0) ?_
    refine g_iload_n 1 dX12_readsAll_15 rfl rfl ?_
    refine g_iconst (v := 0) dX12_readsAll_16 (by decide) ?_
    refine g_iast (j := x1.toNatClampNeg) dX12_readsAll_17 (s12_13 c0) (h2 q1) rfl ?_
    refine g_iinc (v := x1 + (1 : Int32)) (ls2 := [(1, .int (x1 + (1 : Int32))), (0, .ref a0)]) 1 dX12_readsAll_18 rfl rfl (by decide) rfl ?_
    refine g_goto 6 dX12_readsAll_21 (by decide) ?_
    exact g_ls [1, 0] rfl (h3 q1)
theorem bX12_readsAll_28 {X : pX} {Q : Option Value → pMem → Prop} {m : pMem} {a0 : Nat} {x1 : Int32} {x2 : Int32} (hW : Wf m) (c0 : SH[a0]? = some (.inl 12))
    (h1 : x2 = 0 → Q none (uI m a0 19 (0 : Int32)))
    (h2 : ¬ (x2 = 0) → Cl X 6 mX12_roadClause [.ref a0, .int x1] m (fun v m2 => Go X 7 mX12_readsAll Q 37 [(0, .ref a0), (1, .int x1), (2, .int x2)] (v.toList ++ []) m2)) :
    Go X 7 mX12_readsAll Q 28 [(0, .ref a0), (1, .int x1), (2, .int x2)] [] m := by
  refine g_iload_n 2 dX12_readsAll_28 rfl rfl ?_
  refine g_if_eq 48 dX12_readsAll_29 (by decide) (fun q1 => ?_) (fun q1 => ?_)
  · refine g_aload_n 0 dX12_readsAll_48 rfl rfl ?_
    refine g_iconst (v := 0) dX12_readsAll_49 (by decide) ?_
    refine g_putI dX12_readsAll_50 fl12_132 (fun h => by cases h) c0 ?_
    exact g_vret dX12_readsAll_53 rfl enSH (h1 q1)
  · refine g_aload_n 0 dX12_readsAll_32 rfl rfl ?_
    refine g_iload_n 1 dX12_readsAll_33 rfl rfl ?_
    exact g_callV (As := [.int x1]) (st := []) dX12_readsAll_34 clX12_283 c0 rfl rfl (Nat.le_of_ble_eq_true rfl) (rmSH (by decide) (by decide)) (h2 q1)
theorem bX12_readsAll_37 {X : pX} {Q : Option Value → pMem → Prop} {m : pMem} {a0 : Nat} {x1 : Int32} {x2 : Int32} (hW : Wf m) (c0 : SH[a0]? = some (.inl 12))
    (h1 : Cl X 2 mX12_goesOn [.ref a0] m (fun v m2 => Go X 7 mX12_readsAll Q 44 [(0, .ref a0), (1, .int (x1 + (1 : Int32))), (2, .int x2)] (v.toList ++ []) m2)) :
    Go X 7 mX12_readsAll Q 37 [(0, .ref a0), (1, .int x1), (2, .int x2)] [] m := by
  refine g_iinc (v := x1 + (1 : Int32)) (ls2 := [(1, .int (x1 + (1 : Int32))), (0, .ref a0), (2, .int x2)]) 1 dX12_readsAll_37 rfl rfl (by decide) rfl ?_
  refine g_aload_n 1 dX12_readsAll_40 rfl rfl ?_
  refine g_ls [1, 0, 2] (ls2 := [(0, .ref a0), (1, .int (x1 + (1 : Int32))), (2, .int x2)]) rfl ?_
  exact g_callV (As := []) (st := []) dX12_readsAll_41 clX12_286 c0 rfl rfl (Nat.le_of_ble_eq_true rfl) (rmSH (by decide) (by decide)) h1
theorem bX12_readsAll_44 {X : pX} {Q : Option Value → pMem → Prop} {m : pMem} {a0 : Nat} {x1 : Int32} {x2 : Int32} {xs0 : Int32} (hW : Wf m) (c0 : SH[a0]? = some (.inl 12))
    (h1 : Go X 7 mX12_readsAll Q 28 [(0, .ref a0), (1, .int x1), (2, .int xs0)] [] m) :
    Go X 7 mX12_readsAll Q 44 [(0, .ref a0), (1, .int x1), (2, .int x2)] [.int xs0] m := by
  refine g_istore_n (ls2 := [(2, .int xs0), (0, .ref a0), (1, .int x1)]) dX12_readsAll_44 rfl (by decide) rfl ?_
  refine g_goto 28 dX12_readsAll_45 (by decide) ?_
  exact g_ls [1, 2, 0] rfl h1
theorem bX12_begins_0 {X : pX} {Q : Option Value → pMem → Prop} {m : pMem} {a0 : Nat} (hW : Wf m) (c0 : SH[a0]? = some (.inl 12))
    (h1 : Cl X 0 mX12_copies [.ref (a0 + 12), .ref (a0 + 4)] m (fun v m2 => Go X 1 mX12_begins Q 11 [(0, .ref a0)] (v.toList ++ []) m2)) :
    Go X 1 mX12_begins Q 0 [(0, .ref a0)] [] m := by
  refine g_aload_n 0 dX12_begins_0 rfl rfl ?_
  refine g_getR dX12_begins_1 fl12_43 rfl c0 (w12_12 hW c0) ?_
  refine g_aload_n 0 dX12_begins_4 rfl rfl ?_
  refine g_getR dX12_begins_5 fl12_19 rfl c0 (w12_4 hW c0) ?_
  exact g_callS (As := [.ref (a0 + 12), .ref (a0 + 4)]) (st := []) dX12_begins_8 clX12_289 rfl rfl (Nat.le_of_ble_eq_true rfl) (rmSH (by decide) (by decide)) h1
theorem bX12_begins_11 {X : pX} {Q : Option Value → pMem → Prop} {m : pMem} {a0 : Nat} (hW : Wf m) (c0 : SH[a0]? = some (.inl 12))
    (h1 : Go X 1 mX12_begins Q 20 [(0, .ref a0), (1, .int (0 : Int32))] [] (uI m (a0 + 1) 5 (0 : Int32))) :
    Go X 1 mX12_begins Q 11 [(0, .ref a0)] [] m := by
  refine g_aload_n 0 dX12_begins_11 rfl rfl ?_
  refine g_getR dX12_begins_12 fl12_9 rfl c0 (w12_1 hW c0) ?_
  refine g_iconst (v := 5) dX12_begins_15 (by decide) ?_
  refine g_iconst (v := 0) dX12_begins_16 (by decide) ?_
  refine g_iast (j := 5) dX12_begins_17 (s12_1 c0) (by unfold vp_in; decide) (by decide) ?_
  refine g_iconst (v := 0) dX12_begins_18 (by decide) ?_
  refine g_istore_n (ls2 := [(1, .int (0 : Int32)), (0, .ref a0)]) dX12_begins_19 rfl (by decide) rfl ?_
  exact g_ls [1, 0] rfl h1
theorem bX12_begins_20 {X : pX} {Q : Option Value → pMem → Prop} {m : pMem} {a0 : Nat} {x1 : Int32} (hW : Wf m) (c0 : SH[a0]? = some (.inl 12))
    (h1 : (4 : Int32) ≤ x1 → Q none m)
    (h2 : ¬ ((4 : Int32) ≤ x1) → vp_in x1 4)
    (h3 : ¬ ((4 : Int32) ≤ x1) → vp_in x1 4)
    (h4 : ¬ ((4 : Int32) ≤ x1) → Go X 1 mX12_begins Q 20 [(0, .ref a0), (1, .int (x1 + (1 : Int32)))] [] (uI (uI m (a0 + 2) x1.toNatClampNeg (0 : Int32)) (a0 + 3) x1.toNatClampNeg (0 : Int32))) :
    Go X 1 mX12_begins Q 20 [(0, .ref a0), (1, .int x1)] [] m := by
  refine g_iload_n 1 dX12_begins_20 rfl rfl ?_
  refine g_iconst (v := 4) dX12_begins_21 (by decide) ?_
  refine g_icmp_ge 45 dX12_begins_22 (by decide) (fun q1 => ?_) (fun q1 => ?_)
  · exact g_vret dX12_begins_45 rfl enSH (h1 q1)
  · refine g_aload_n 0 dX12_begins_25 rfl rfl ?_
    refine g_getR dX12_begins_26 fl12_13 rfl c0 (w12_2 hW c0) ?_
    refine g_iload_n 1 dX12_begins_29 rfl rfl ?_
    refine g_iconst (v := 0) dX12_begins_30 (by decide) ?_
    refine g_iast (j := x1.toNatClampNeg) dX12_begins_31 (s12_2 c0) (h2 q1) rfl ?_
    refine g_aload_n 0 dX12_begins_32 rfl rfl ?_
    refine g_getR dX12_begins_33 fl12_16 rfl c0 (w12_3 hW c0) ?_
    refine g_iload_n 1 dX12_begins_36 rfl rfl ?_
    refine g_iconst (v := 0) dX12_begins_37 (by decide) ?_
    refine g_iast (j := x1.toNatClampNeg) dX12_begins_38 (s12_3 c0) (h3 q1) rfl ?_
    refine g_iinc (v := x1 + (1 : Int32)) (ls2 := [(1, .int (x1 + (1 : Int32))), (0, .ref a0)]) 1 dX12_begins_39 rfl rfl (by decide) rfl ?_
    refine g_goto 20 dX12_begins_42 (by decide) ?_
    exact g_ls [1, 0] rfl (h4 q1)
theorem bX12_road_0 {X : pX} {Q : Option Value → pMem → Prop} {m : pMem} {a0 : Nat} (hW : Wf m) (c0 : SH[a0]? = some (.inl 12))
    (h1 : Cl X 7 mX12_readsAll [.ref a0] m (fun v m2 => Go X 8 mX12_road Q 4 [(0, .ref a0)] (v.toList ++ []) m2)) :
    Go X 8 mX12_road Q 0 [(0, .ref a0)] [] m := by
  refine g_aload_n 0 dX12_road_0 rfl rfl ?_
  exact g_callV (As := []) (st := []) dX12_road_1 clX12_293 c0 rfl rfl (Nat.le_of_ble_eq_true rfl) (rmSH (by decide) (by decide)) h1
theorem bX12_road_4 {X : pX} {Q : Option Value → pMem → Prop} {m : pMem} {a0 : Nat} (hW : Wf m) (c0 : SH[a0]? = some (.inl 12))
    (h1 : (mI m a0 21) ≤ 0 → Go X 8 mX12_road Q 21 [(0, .ref a0), (1, .int (0 : Int32))] [] m)
    (h2 : ¬ ((mI m a0 21) ≤ 0) → Q (some (.int ((-2 : Int32) - (mI m a0 21)))) m) :
    Go X 8 mX12_road Q 4 [(0, .ref a0)] [] m := by
  refine g_aload_n 0 dX12_road_4 rfl rfl ?_
  refine g_getI dX12_road_5 fl12_160 c0 ?_
  refine g_if_le 19 dX12_road_8 (by decide) (fun q1 => ?_) (fun q1 => ?_)
  · refine g_iconst (v := 0) dX12_road_19 (by decide) ?_
    refine g_istore_n (ls2 := [(1, .int (0 : Int32)), (0, .ref a0)]) dX12_road_20 rfl (by decide) rfl ?_
    exact g_ls [1, 0] rfl (h1 q1)
  · refine g_bipush (v := -2) dX12_road_11 (by decide) ?_
    refine g_aload_n 0 dX12_road_13 rfl rfl ?_
    refine g_getI dX12_road_14 fl12_160 c0 ?_
    refine g_isub dX12_road_17 ?_
    exact g_iret dX12_road_18 rfl enSH (h2 q1)
theorem bX12_road_21 {X : pX} {Q : Option Value → pMem → Prop} {m : pMem} {a0 : Nat} {x1 : Int32} (hW : Wf m) (c0 : SH[a0]? = some (.inl 12))
    (h1 : (5 : Int32) ≤ x1 → Cl X 0 mX12_copies [.ref (a0 + 14), .ref (a0 + 5)] (uI m (a0 + 1) 6 (0 : Int32)) (fun v m2 => Go X 8 mX12_road Q 63 [(0, .ref a0), (1, .int x1)] (v.toList ++ []) m2))
    (h2 : ¬ ((5 : Int32) ≤ x1) → vp_in x1 5)
    (h3 : ¬ ((5 : Int32) ≤ x1) → vp_in x1 9)
    (h4 : ¬ ((5 : Int32) ≤ x1) → Go X 8 mX12_road Q 21 [(0, .ref a0), (1, .int (x1 + (1 : Int32)))] [] (uI m (a0 + 1) x1.toNatClampNeg (mI m (a0 + 13) x1.toNatClampNeg))) :
    Go X 8 mX12_road Q 21 [(0, .ref a0), (1, .int x1)] [] m := by
  refine g_iload_n 1 dX12_road_21 rfl rfl ?_
  refine g_iconst (v := 5) dX12_road_22 (by decide) ?_
  refine g_icmp_ge 44 dX12_road_23 (by decide) (fun q1 => ?_) (fun q1 => ?_)
  · refine g_aload_n 0 dX12_road_44 rfl rfl ?_
    refine g_getR dX12_road_45 fl12_9 rfl c0 (w12_1 hW c0) ?_
    refine g_bipush (v := 6) dX12_road_48 (by decide) ?_
    refine g_iconst (v := 0) dX12_road_50 (by decide) ?_
    refine g_iast (j := 6) dX12_road_51 (s12_1 c0) (by unfold vp_in; decide) (by decide) ?_
    refine g_aload_n 0 dX12_road_52 rfl rfl ?_
    refine g_getR dX12_road_53 fl12_49 rfl c0 (w12_14 hW c0) ?_
    refine g_aload_n 0 dX12_road_56 rfl rfl ?_
    refine g_getR dX12_road_57 fl12_22 rfl c0 (w12_5 hW c0) ?_
    exact g_callS (As := [.ref (a0 + 14), .ref (a0 + 5)]) (st := []) dX12_road_60 clX12_289 rfl rfl (Nat.le_of_ble_eq_true rfl) (rmSH (by decide) (by decide)) (h1 q1)
  · refine g_aload_n 0 dX12_road_26 rfl rfl ?_
    refine g_getR dX12_road_27 fl12_9 rfl c0 (w12_1 hW c0) ?_
    refine g_iload_n 1 dX12_road_30 rfl rfl ?_
    refine g_aload_n 0 dX12_road_31 rfl rfl ?_
    refine g_getR dX12_road_32 fl12_46 rfl c0 (w12_13 hW c0) ?_
    refine g_iload_n 1 dX12_road_35 rfl rfl ?_
    refine g_iald (j := x1.toNatClampNeg) dX12_road_36 (s12_13 c0) (h2 q1) rfl ?_
    refine g_iast (j := x1.toNatClampNeg) dX12_road_37 (s12_1 c0) (h3 q1) rfl ?_
    refine g_iinc (v := x1 + (1 : Int32)) (ls2 := [(1, .int (x1 + (1 : Int32))), (0, .ref a0)]) 1 dX12_road_38 rfl rfl (by decide) rfl ?_
    refine g_goto 21 dX12_road_41 (by decide) ?_
    exact g_ls [1, 0] rfl (h4 q1)
theorem bX12_road_63 {X : pX} {Q : Option Value → pMem → Prop} {m : pMem} {a0 : Nat} {x1 : Int32} (hW : Wf m) (c0 : SH[a0]? = some (.inl 12))
    (h1 : Cl X 0 mX12_copies [.ref (a0 + 15), .ref (a0 + 6)] m (fun v m2 => Go X 8 mX12_road Q 74 [(0, .ref a0), (1, .int x1)] (v.toList ++ []) m2)) :
    Go X 8 mX12_road Q 63 [(0, .ref a0), (1, .int x1)] [] m := by
  refine g_aload_n 0 dX12_road_63 rfl rfl ?_
  refine g_getR dX12_road_64 fl12_52 rfl c0 (w12_15 hW c0) ?_
  refine g_aload_n 0 dX12_road_67 rfl rfl ?_
  refine g_getR dX12_road_68 fl12_25 rfl c0 (w12_6 hW c0) ?_
  exact g_callS (As := [.ref (a0 + 15), .ref (a0 + 6)]) (st := []) dX12_road_71 clX12_289 rfl rfl (Nat.le_of_ble_eq_true rfl) (rmSH (by decide) (by decide)) h1
theorem bX12_road_74 {X : pX} {Q : Option Value → pMem → Prop} {m : pMem} {a0 : Nat} {x1 : Int32} (hW : Wf m) (c0 : SH[a0]? = some (.inl 12))
    (h1 : Cl X 0 mX12_copies [.ref (a0 + 16), .ref (a0 + 7)] m (fun v m2 => Go X 8 mX12_road Q 85 [(0, .ref a0), (1, .int x1)] (v.toList ++ []) m2)) :
    Go X 8 mX12_road Q 74 [(0, .ref a0), (1, .int x1)] [] m := by
  refine g_aload_n 0 dX12_road_74 rfl rfl ?_
  refine g_getR dX12_road_75 fl12_55 rfl c0 (w12_16 hW c0) ?_
  refine g_aload_n 0 dX12_road_78 rfl rfl ?_
  refine g_getR dX12_road_79 fl12_28 rfl c0 (w12_7 hW c0) ?_
  exact g_callS (As := [.ref (a0 + 16), .ref (a0 + 7)]) (st := []) dX12_road_82 clX12_289 rfl rfl (Nat.le_of_ble_eq_true rfl) (rmSH (by decide) (by decide)) h1
theorem bX12_road_85 {X : pX} {Q : Option Value → pMem → Prop} {m : pMem} {a0 : Nat} {x1 : Int32} (hW : Wf m) (c0 : SH[a0]? = some (.inl 12))
    (h1 : Cl X 0 mX12_copies [.ref (a0 + 17), .ref (a0 + 8)] m (fun v m2 => Go X 8 mX12_road Q 96 [(0, .ref a0), (1, .int x1)] (v.toList ++ []) m2)) :
    Go X 8 mX12_road Q 85 [(0, .ref a0), (1, .int x1)] [] m := by
  refine g_aload_n 0 dX12_road_85 rfl rfl ?_
  refine g_getR dX12_road_86 fl12_58 rfl c0 (w12_17 hW c0) ?_
  refine g_aload_n 0 dX12_road_89 rfl rfl ?_
  refine g_getR dX12_road_90 fl12_31 rfl c0 (w12_8 hW c0) ?_
  exact g_callS (As := [.ref (a0 + 17), .ref (a0 + 8)]) (st := []) dX12_road_93 clX12_289 rfl rfl (Nat.le_of_ble_eq_true rfl) (rmSH (by decide) (by decide)) h1
theorem bX12_road_96 {X : pX} {Q : Option Value → pMem → Prop} {m : pMem} {a0 : Nat} {x1 : Int32} (hW : Wf m) (c0 : SH[a0]? = some (.inl 12))
    (h1 : Cl X 0 mX12_copies [.ref (a0 + 18), .ref (a0 + 12)] m (fun v m2 => Go X 8 mX12_road Q 107 [(0, .ref a0), (1, .int x1)] (v.toList ++ []) m2)) :
    Go X 8 mX12_road Q 96 [(0, .ref a0), (1, .int x1)] [] m := by
  refine g_aload_n 0 dX12_road_96 rfl rfl ?_
  refine g_getR dX12_road_97 fl12_61 rfl c0 (w12_18 hW c0) ?_
  refine g_aload_n 0 dX12_road_100 rfl rfl ?_
  refine g_getR dX12_road_101 fl12_43 rfl c0 (w12_12 hW c0) ?_
  exact g_callS (As := [.ref (a0 + 18), .ref (a0 + 12)]) (st := []) dX12_road_104 clX12_289 rfl rfl (Nat.le_of_ble_eq_true rfl) (rmSH (by decide) (by decide)) h1
theorem bX12_road_107 {X : pX} {Q : Option Value → pMem → Prop} {m : pMem} {a0 : Nat} {x1 : Int32} (hW : Wf m) (c0 : SH[a0]? = some (.inl 12))
    (h1 : Cl X 1 mX12_begins [.ref a0] m (fun v m2 => Go X 8 mX12_road Q 111 [(0, .ref a0), (1, .int x1)] (v.toList ++ []) m2)) :
    Go X 8 mX12_road Q 107 [(0, .ref a0), (1, .int x1)] [] m := by
  refine g_aload_n 0 dX12_road_107 rfl rfl ?_
  exact g_callV (As := []) (st := []) dX12_road_108 clX12_296 c0 rfl rfl (Nat.le_of_ble_eq_true rfl) (rmSH (by decide) (by decide)) h1
theorem bX12_road_111 {X : pX} {Q : Option Value → pMem → Prop} {m : pMem} {a0 : Nat} {x1 : Int32} (hW : Wf m) (c0 : SH[a0]? = some (.inl 12))
    (h1 : Q (some (.int (mI (uI m a0 41 (0 : Int32)) (a0 + 1) 3))) (uI m a0 41 (0 : Int32))) :
    Go X 8 mX12_road Q 111 [(0, .ref a0), (1, .int x1)] [] m := by
  refine g_aload_n 0 dX12_road_111 rfl rfl ?_
  refine g_iconst (v := 0) dX12_road_112 (by decide) ?_
  refine g_putI dX12_road_113 fl12_299 (fun h => by cases h) c0 ?_
  refine g_aload_n 0 dX12_road_116 rfl rfl ?_
  refine g_getR dX12_road_117 fl12_9 rfl c0 (w12_1 hW c0) ?_
  refine g_iconst (v := 3) dX12_road_120 (by decide) ?_
  refine g_iald (j := 3) dX12_road_121 (s12_1 c0) (by unfold vp_in; decide) (by decide) ?_
  exact g_iret dX12_road_122 rfl enSH h1
theorem bX12_ruleClause_0 {X : pX} {Q : Option Value → pMem → Prop} {m : pMem} {a0 : Nat} {x1 : Int32} (hW : Wf m) (c0 : SH[a0]? = some (.inl 12))
    (h1 : Cl X 1 mX12_blanks [.ref a0] m (fun v m2 => Go X 12 mX12_ruleClause Q 4 [(0, .ref a0), (1, .int x1)] (v.toList ++ []) m2)) :
    Go X 12 mX12_ruleClause Q 0 [(0, .ref a0), (1, .int x1)] [] m := by
  refine g_aload_n 0 dX12_ruleClause_0 rfl rfl ?_
  exact g_callV (As := []) (st := []) dX12_ruleClause_1 clX12_183 c0 rfl rfl (Nat.le_of_ble_eq_true rfl) (rmSH (by decide) (by decide)) h1
theorem bX12_ruleClause_4 {X : pX} {Q : Option Value → pMem → Prop} {m : pMem} {a0 : Nat} {x1 : Int32} (hW : Wf m) (c0 : SH[a0]? = some (.inl 12))
    (h1 : Cl X 5 mX12_stood [.ref a0, .retAddr 24] m (fun v m2 => Go X 12 mX12_ruleClause Q 16 [(0, .ref a0), (1, .int x1), (2, .int (mI m a0 20))] (v.toList ++ []) m2)) :
    Go X 12 mX12_ruleClause Q 4 [(0, .ref a0), (1, .int x1)] [] m := by
  refine g_aload_n 0 dX12_ruleClause_4 rfl rfl ?_
  refine g_getI dX12_ruleClause_5 fl12_163 c0 ?_
  refine g_istore_n (ls2 := [(2, .int (mI m a0 20)), (0, .ref a0), (1, .int x1)]) dX12_ruleClause_8 rfl (by decide) rfl ?_
  refine g_aload_n 1 dX12_ruleClause_9 rfl rfl ?_
  refine g_ldcwS 23 (by decide) rfl rfl dX12_ruleClause_10 ?_
  refine g_ls [1, 2, 0] (ls2 := [(0, .ref a0), (1, .int x1), (2, .int (mI m a0 20))]) rfl ?_
  exact g_callV (As := [.retAddr 24]) (st := []) dX12_ruleClause_13 clX12_186 c0 rfl rfl (Nat.le_of_ble_eq_true rfl) (rmSH (by decide) (by decide)) h1
theorem bX12_ruleClause_16 {X : pX} {Q : Option Value → pMem → Prop} {m : pMem} {a0 : Nat} {x1 : Int32} {x2 : Int32} {xs0 : Int32} (hW : Wf m) (c0 : SH[a0]? = some (.inl 12))
    (h1 : ¬ xs0 = 0 → ¬ x1 = (12 : Int32) → vp_in (((12 : Int32) * (mI (uI m a0 20 ((mI m a0 20) + (5 : Int32))) a0 22)) + x1) 72)
    (h2 : ¬ xs0 = 0 → ¬ x1 = (12 : Int32) → Cl X 8 mX12_sum [.ref a0] (uI (uI m a0 20 ((mI m a0 20) + (5 : Int32))) (a0 + 23) ((((12 : Int32) * (mI (uI m a0 20 ((mI m a0 20) + (5 : Int32))) a0 22)) + x1).toNatClampNeg) (mI (uI m a0 20 ((mI m a0 20) + (5 : Int32))) a0 24)) (fun v m2 => Go X 12 mX12_ruleClause Q 73 [(0, .ref a0), (1, .int x1), (2, .int x2), (3, .int (((12 : Int32) * (mI (uI m a0 20 ((mI m a0 20) + (5 : Int32))) a0 22)) + x1))] (v.toList ++ []) m2))
    (h3 : ¬ xs0 = 0 → x1 = (12 : Int32) → Cl X 0 mX12_fails [.ref a0, .int (4 : Int32), .int x2] m (fun v m2 => Go X 12 mX12_ruleClause Q 38 [(0, .ref a0), (1, .int x1), (2, .int x2)] (v.toList ++ []) m2))
    (h4 : xs0 = 0 → Cl X 0 mX12_fails [.ref a0, .int (0 : Int32), .int x2] m (fun v m2 => Go X 12 mX12_ruleClause Q 25 [(0, .ref a0), (1, .int x1), (2, .int x2)] (v.toList ++ []) m2)) :
    Go X 12 mX12_ruleClause Q 16 [(0, .ref a0), (1, .int x1), (2, .int x2)] [.int xs0] m := by
  refine g_if_ne 26 dX12_ruleClause_16 (by decide) (fun q1 => ?_) (fun q1 => ?_)
  · refine g_iload_n 1 dX12_ruleClause_26 rfl rfl ?_
    refine g_bipush (v := 12) dX12_ruleClause_27 (by decide) ?_
    refine g_icmp_ne 39 dX12_ruleClause_29 (by decide) (fun q2 => ?_) (fun q2 => ?_)
    · refine g_aload_n 0 dX12_ruleClause_39 rfl rfl ?_
      refine g_dup dX12_ruleClause_40 rfl ?_
      refine g_getI dX12_ruleClause_41 fl12_163 c0 ?_
      refine g_iconst (v := 5) dX12_ruleClause_44 (by decide) ?_
      refine g_iadd dX12_ruleClause_45 ?_
      refine g_putI dX12_ruleClause_46 fl12_163 (fun h => by cases h) c0 ?_
      refine g_bipush (v := 12) dX12_ruleClause_49 (by decide) ?_
      refine g_aload_n 0 dX12_ruleClause_51 rfl rfl ?_
      refine g_getI dX12_ruleClause_52 fl12_190 c0 ?_
      refine g_imul dX12_ruleClause_55 ?_
      refine g_iload_n 1 dX12_ruleClause_56 rfl rfl ?_
      refine g_iadd dX12_ruleClause_57 ?_
      refine g_istore_n (ls2 := [(3, .int (((12 : Int32) * (mI (uI m a0 20 ((mI m a0 20) + (5 : Int32))) a0 22)) + x1)), (0, .ref a0), (1, .int x1), (2, .int x2)]) dX12_ruleClause_58 rfl (by decide) rfl ?_
      refine g_aload_n 1 dX12_ruleClause_59 rfl rfl ?_
      refine g_getR dX12_ruleClause_60 fl12_81 rfl c0 (w12_33 hW c0) ?_
      refine g_iload_n 0 dX12_ruleClause_63 rfl rfl ?_
      refine g_aload_n 1 dX12_ruleClause_64 rfl rfl ?_
      refine g_getI dX12_ruleClause_65 fl12_193 c0 ?_
      refine g_iast (j := (((12 : Int32) * (mI (uI m a0 20 ((mI m a0 20) + (5 : Int32))) a0 22)) + x1).toNatClampNeg) dX12_ruleClause_68 (s12_33 c0) (h1 q1 q2) rfl ?_
      refine g_aload_n 1 dX12_ruleClause_69 rfl rfl ?_
      refine g_ls [1, 2, 3, 0] (ls2 := [(0, .ref a0), (1, .int x1), (2, .int x2), (3, .int (((12 : Int32) * (mI (uI m a0 20 ((mI m a0 20) + (5 : Int32))) a0 22)) + x1))]) rfl ?_
      exact g_callV (As := []) (st := []) dX12_ruleClause_70 clX12_228 c0 rfl rfl (Nat.le_of_ble_eq_true rfl) (rmSH (by decide) (by decide)) (h2 q1 q2)
    · refine g_aload_n 0 dX12_ruleClause_32 rfl rfl ?_
      refine g_iconst (v := 4) dX12_ruleClause_33 (by decide) ?_
      refine g_iload_n 2 dX12_ruleClause_34 rfl rfl ?_
      exact g_callV (As := [.int (4 : Int32), .int x2]) (st := []) dX12_ruleClause_35 clX12_199 c0 rfl rfl (Nat.le_of_ble_eq_true rfl) (rmSH (by decide) (by decide)) (h3 q1 q2)
  · refine g_aload_n 0 dX12_ruleClause_19 rfl rfl ?_
    refine g_iconst (v := 0) dX12_ruleClause_20 (by decide) ?_
    refine g_iload_n 2 dX12_ruleClause_21 rfl rfl ?_
    exact g_callV (As := [.int (0 : Int32), .int x2]) (st := []) dX12_ruleClause_22 clX12_199 c0 rfl rfl (Nat.le_of_ble_eq_true rfl) (rmSH (by decide) (by decide)) (h4 q1)
theorem bX12_ruleClause_73 {X : pX} {Q : Option Value → pMem → Prop} {m : pMem} {a0 : Nat} {x1 : Int32} {x2 : Int32} {x3 : Int32} (hW : Wf m) (c0 : SH[a0]? = some (.inl 12))
    (h1 : vp_in x3 72)
    (h2 : ¬ (mI (uI m (a0 + 24) x3.toNatClampNeg (mI m a0 24)) a0 21) = 0 → vp_in x3 72)
    (h3 : ¬ (mI (uI m (a0 + 24) x3.toNatClampNeg (mI m a0 24)) a0 21) = 0 → Q none (uI (uI m (a0 + 24) x3.toNatClampNeg (mI m a0 24)) (a0 + 25) x3.toNatClampNeg (mI (uI m (a0 + 24) x3.toNatClampNeg (mI m a0 24)) a0 24)))
    (h4 : (mI (uI m (a0 + 24) x3.toNatClampNeg (mI m a0 24)) a0 21) = 0 → Cl X 6 mX12_takes [.ref a0, .retAddr 25] (uI m (a0 + 24) x3.toNatClampNeg (mI m a0 24)) (fun v m2 => Go X 12 mX12_ruleClause Q 97 [(0, .ref a0), (1, .int x1), (2, .int x2), (3, .int x3)] (v.toList ++ []) m2)) :
    Go X 12 mX12_ruleClause Q 73 [(0, .ref a0), (1, .int x1), (2, .int x2), (3, .int x3)] [] m := by
  refine g_aload_n 0 dX12_ruleClause_73 rfl rfl ?_
  refine g_getR dX12_ruleClause_74 fl12_84 rfl c0 (w12_34 hW c0) ?_
  refine g_iload_n 3 dX12_ruleClause_77 rfl rfl ?_
  refine g_aload_n 0 dX12_ruleClause_78 rfl rfl ?_
  refine g_getI dX12_ruleClause_79 fl12_193 c0 ?_
  refine g_iast (j := x3.toNatClampNeg) dX12_ruleClause_82 (s12_34 c0) h1 rfl ?_
  refine g_aload_n 0 dX12_ruleClause_83 rfl rfl ?_
  refine g_getI dX12_ruleClause_84 fl12_160 c0 ?_
  refine g_if_ne 104 dX12_ruleClause_87 (by decide) (fun q1 => ?_) (fun q1 => ?_)
  · refine g_aload_n 0 dX12_ruleClause_104 rfl rfl ?_
    refine g_getR dX12_ruleClause_105 fl12_87 rfl c0 (w12_35 hW c0) ?_
    refine g_iload_n 3 dX12_ruleClause_108 rfl rfl ?_
    refine g_aload_n 0 dX12_ruleClause_109 rfl rfl ?_
    refine g_getI dX12_ruleClause_110 fl12_193 c0 ?_
    refine g_iast (j := x3.toNatClampNeg) dX12_ruleClause_113 (s12_35 c0) (h2 q1) rfl ?_
    exact g_vret dX12_ruleClause_114 rfl enSH (h3 q1)
  · refine g_aload_n 0 dX12_ruleClause_90 rfl rfl ?_
    refine g_ldcwS 24 (by decide) rfl rfl dX12_ruleClause_91 ?_
    exact g_callV (As := [.retAddr 25]) (st := []) dX12_ruleClause_94 clX12_306 c0 rfl rfl (Nat.le_of_ble_eq_true rfl) (rmSH (by decide) (by decide)) (h4 q1)
theorem bX12_ruleClause_38 {X : pX} {Q : Option Value → pMem → Prop} {m : pMem} {a0 : Nat} {x1 : Int32} {x2 : Int32} (hW : Wf m) (c0 : SH[a0]? = some (.inl 12))
    (h1 : Q none m) :
    Go X 12 mX12_ruleClause Q 38 [(0, .ref a0), (1, .int x1), (2, .int x2)] [] m := by
  exact g_vret dX12_ruleClause_38 rfl enSH h1
theorem bX12_ruleClause_25 {X : pX} {Q : Option Value → pMem → Prop} {m : pMem} {a0 : Nat} {x1 : Int32} {x2 : Int32} (hW : Wf m) (c0 : SH[a0]? = some (.inl 12))
    (h1 : Q none m) :
    Go X 12 mX12_ruleClause Q 25 [(0, .ref a0), (1, .int x1), (2, .int x2)] [] m := by
  exact g_vret dX12_ruleClause_25 rfl enSH h1
theorem bX12_ruleClause_97 {X : pX} {Q : Option Value → pMem → Prop} {m : pMem} {a0 : Nat} {x1 : Int32} {x2 : Int32} {x3 : Int32} {xs0 : Int32} (hW : Wf m) (c0 : SH[a0]? = some (.inl 12))
    (h1 : xs0 = 0 → vp_in x3 72)
    (h2 : xs0 = 0 → Q none (uI m (a0 + 25) x3.toNatClampNeg (mI m a0 24)))
    (h3 : ¬ (xs0 = 0) → Cl X 11 mX12_test [.ref a0] m (fun v m2 => Go X 12 mX12_ruleClause Q 104 [(0, .ref a0), (1, .int x1), (2, .int x2), (3, .int x3)] (v.toList ++ []) m2)) :
    Go X 12 mX12_ruleClause Q 97 [(0, .ref a0), (1, .int x1), (2, .int x2), (3, .int x3)] [.int xs0] m := by
  refine g_if_eq 104 dX12_ruleClause_97 (by decide) (fun q1 => ?_) (fun q1 => ?_)
  · refine g_aload_n 0 dX12_ruleClause_104 rfl rfl ?_
    refine g_getR dX12_ruleClause_105 fl12_87 rfl c0 (w12_35 hW c0) ?_
    refine g_iload_n 3 dX12_ruleClause_108 rfl rfl ?_
    refine g_aload_n 0 dX12_ruleClause_109 rfl rfl ?_
    refine g_getI dX12_ruleClause_110 fl12_193 c0 ?_
    refine g_iast (j := x3.toNatClampNeg) dX12_ruleClause_113 (s12_35 c0) (h1 q1) rfl ?_
    exact g_vret dX12_ruleClause_114 rfl enSH (h2 q1)
  · refine g_aload_n 0 dX12_ruleClause_100 rfl rfl ?_
    exact g_callV (As := []) (st := []) dX12_ruleClause_101 clX12_309 c0 rfl rfl (Nat.le_of_ble_eq_true rfl) (rmSH (by decide) (by decide)) (h3 q1)
theorem bX12_ruleClause_104 {X : pX} {Q : Option Value → pMem → Prop} {m : pMem} {a0 : Nat} {x1 : Int32} {x2 : Int32} {x3 : Int32} (hW : Wf m) (c0 : SH[a0]? = some (.inl 12))
    (h1 : vp_in x3 72)
    (h2 : Q none (uI m (a0 + 25) x3.toNatClampNeg (mI m a0 24))) :
    Go X 12 mX12_ruleClause Q 104 [(0, .ref a0), (1, .int x1), (2, .int x2), (3, .int x3)] [] m := by
  refine g_aload_n 0 dX12_ruleClause_104 rfl rfl ?_
  refine g_getR dX12_ruleClause_105 fl12_87 rfl c0 (w12_35 hW c0) ?_
  refine g_iload_n 3 dX12_ruleClause_108 rfl rfl ?_
  refine g_aload_n 0 dX12_ruleClause_109 rfl rfl ?_
  refine g_getI dX12_ruleClause_110 fl12_193 c0 ?_
  refine g_iast (j := x3.toNatClampNeg) dX12_ruleClause_113 (s12_35 c0) h1 rfl ?_
  exact g_vret dX12_ruleClause_114 rfl enSH h2
theorem bX12_rule_0 {X : pX} {Q : Option Value → pMem → Prop} {m : pMem} {a0 : Nat} (hW : Wf m) (c0 : SH[a0]? = some (.inl 12))
    (h1 : ¬ (mI m a0 23) = (6 : Int32) → Cl X 0 mX12_starts [.ref a0] (uI m a0 22 (mI m a0 23)) (fun v m2 => Go X 13 mX12_rule Q 23 [(0, .ref a0)] (v.toList ++ []) m2))
    (h2 : (mI m a0 23) = (6 : Int32) → Q (some (.int (-1 : Int32))) m) :
    Go X 13 mX12_rule Q 0 [(0, .ref a0)] [] m := by
  refine g_aload_n 0 dX12_rule_0 rfl rfl ?_
  refine g_getI dX12_rule_1 fl12_312 c0 ?_
  refine g_bipush (v := 6) dX12_rule_4 (by decide) ?_
  refine g_icmp_ne 11 dX12_rule_6 (by decide) (fun q1 => ?_) (fun q1 => ?_)
  · refine g_aload_n 0 dX12_rule_11 rfl rfl ?_
    refine g_aload_n 0 dX12_rule_12 rfl rfl ?_
    refine g_getI dX12_rule_13 fl12_312 c0 ?_
    refine g_putI dX12_rule_16 fl12_190 (fun h => by cases h) c0 ?_
    refine g_aload_n 0 dX12_rule_19 rfl rfl ?_
    exact g_callV (As := []) (st := []) dX12_rule_20 clX12_280 c0 rfl rfl (Nat.le_of_ble_eq_true rfl) (rmSH (by decide) (by decide)) (h1 q1)
  · refine g_iconst (v := -1) dX12_rule_9 (by decide) ?_
    exact g_iret dX12_rule_10 rfl enSH (h2 q1)
theorem bX12_rule_23 {X : pX} {Q : Option Value → pMem → Prop} {m : pMem} {a0 : Nat} (hW : Wf m) (c0 : SH[a0]? = some (.inl 12))
    (h1 : Go X 13 mX12_rule Q 27 [(0, .ref a0), (1, .int (0 : Int32)), (2, .int (1 : Int32))] [] m) :
    Go X 13 mX12_rule Q 23 [(0, .ref a0)] [] m := by
  refine g_iconst (v := 0) dX12_rule_23 (by decide) ?_
  refine g_istore_n (ls2 := [(1, .int (0 : Int32)), (0, .ref a0)]) dX12_rule_24 rfl (by decide) rfl ?_
  refine g_iconst (v := 1) dX12_rule_25 (by decide) ?_
  refine g_istore_n (ls2 := [(2, .int (1 : Int32)), (1, .int (0 : Int32)), (0, .ref a0)]) dX12_rule_26 rfl (by decide) rfl ?_
  exact g_ls [2, 1, 0] rfl h1
theorem bX12_rule_27 {X : pX} {Q : Option Value → pMem → Prop} {m : pMem} {a0 : Nat} {x1 : Int32} {x2 : Int32} (hW : Wf m) (c0 : SH[a0]? = some (.inl 12))
    (h1 : x2 = 0 → vp_in (mI (uI m a0 19 (0 : Int32)) a0 22) 6)
    (h2 : x2 = 0 → ¬ (mI (uI (uI m a0 19 (0 : Int32)) (a0 + 22) ((mI (uI m a0 19 (0 : Int32)) a0 22).toNatClampNeg) x1) a0 21) = 0 → Go X 13 mX12_rule Q 79 [(0, .ref a0)] [.int (0 : Int32), .int (mI (uI (uI m a0 19 (0 : Int32)) (a0 + 22) ((mI (uI m a0 19 (0 : Int32)) a0 22).toNatClampNeg) x1) a0 23), .ref a0] (uI (uI m a0 19 (0 : Int32)) (a0 + 22) ((mI (uI m a0 19 (0 : Int32)) a0 22).toNatClampNeg) x1))
    (h3 : x2 = 0 → (mI (uI (uI m a0 19 (0 : Int32)) (a0 + 22) ((mI (uI m a0 19 (0 : Int32)) a0 22).toNatClampNeg) x1) a0 21) = 0 → Go X 13 mX12_rule Q 79 [(0, .ref a0)] [.int (1 : Int32), .int (mI (uI (uI m a0 19 (0 : Int32)) (a0 + 22) ((mI (uI m a0 19 (0 : Int32)) a0 22).toNatClampNeg) x1) a0 23), .ref a0] (uI (uI m a0 19 (0 : Int32)) (a0 + 22) ((mI (uI m a0 19 (0 : Int32)) a0 22).toNatClampNeg) x1))
    (h4 : ¬ (x2 = 0) → Cl X 12 mX12_ruleClause [.ref a0, .int x1] m (fun v m2 => Go X 13 mX12_rule Q 36 [(0, .ref a0), (1, .int x1), (2, .int x2)] (v.toList ++ []) m2)) :
    Go X 13 mX12_rule Q 27 [(0, .ref a0), (1, .int x1), (2, .int x2)] [] m := by
  refine g_iload_n 2 dX12_rule_27 rfl rfl ?_
  refine g_if_eq 47 dX12_rule_28 (by decide) (fun q1 => ?_) (fun q1 => ?_)
  · refine g_aload_n 0 dX12_rule_47 rfl rfl ?_
    refine g_iconst (v := 0) dX12_rule_48 (by decide) ?_
    refine g_putI dX12_rule_49 fl12_132 (fun h => by cases h) c0 ?_
    refine g_aload_n 0 dX12_rule_52 rfl rfl ?_
    refine g_getR dX12_rule_53 fl12_78 rfl c0 (w12_32 hW c0) ?_
    refine g_aload_n 0 dX12_rule_56 rfl rfl ?_
    refine g_getI dX12_rule_57 fl12_190 c0 ?_
    refine g_iload_n 1 dX12_rule_60 rfl rfl ?_
    refine g_iast (j := (mI (uI m a0 19 (0 : Int32)) a0 22).toNatClampNeg) dX12_rule_61 (s12_32 c0) (h1 q1) rfl ?_
    refine g_aload_n 0 dX12_rule_62 rfl rfl ?_
    refine g_dup dX12_rule_63 rfl ?_
    refine g_getI dX12_rule_64 fl12_312 c0 ?_
    refine g_aload_n 0 dX12_rule_67 rfl rfl ?_
    refine g_getI dX12_rule_68 fl12_160 c0 ?_
    refine g_if_ne 78 dX12_rule_71 (by decide) (fun q2 => ?_) (fun q2 => ?_)
    · refine g_iconst (v := 0) dX12_rule_78 (by decide) ?_
      exact g_ls [0] rfl (h2 q1 q2)
    · refine g_iconst (v := 1) dX12_rule_74 (by decide) ?_
      refine g_goto 79 dX12_rule_75 (by decide) ?_
      exact g_ls [0] rfl (h3 q1 q2)
  · refine g_aload_n 0 dX12_rule_31 rfl rfl ?_
    refine g_iload_n 1 dX12_rule_32 rfl rfl ?_
    exact g_callV (As := [.int x1]) (st := []) dX12_rule_33 clX12_315 c0 rfl rfl (Nat.le_of_ble_eq_true rfl) (rmSH (by decide) (by decide)) (h4 q1)
theorem bX12_rule_79 {X : pX} {Q : Option Value → pMem → Prop} {m : pMem} {a0 : Nat} {xs1 : Int32} {as2 : Nat} (hW : Wf m) (c0 : SH[a0]? = some (.inl 12)) (cs2 : SH[as2]? = some (.inl 12))
    (h1 : (mI (uI m as2 23 (xs1 + (0 : Int32))) a0 21) ≤ 0 → Q (some (.int ((mI (uI m as2 23 (xs1 + (0 : Int32))) a0 23) - (1 : Int32)))) (uI m as2 23 (xs1 + (0 : Int32))))
    (h2 : ¬ ((mI (uI m as2 23 (xs1 + (0 : Int32))) a0 21) ≤ 0) → Q (some (.int ((-2 : Int32) - (mI (uI m as2 23 (xs1 + (0 : Int32))) a0 21)))) (uI m as2 23 (xs1 + (0 : Int32)))) :
    Go X 13 mX12_rule Q 79 [(0, .ref a0)] [.int (0 : Int32), .int xs1, .ref as2] m := by
  refine g_iadd dX12_rule_79 ?_
  refine g_putI dX12_rule_80 fl12_312 (fun h => by cases h) cs2 ?_
  refine g_aload_n 0 dX12_rule_83 rfl rfl ?_
  refine g_getI dX12_rule_84 fl12_160 c0 ?_
  refine g_if_le 100 dX12_rule_87 (by decide) (fun q1 => ?_) (fun q1 => ?_)
  · refine g_aload_n 0 dX12_rule_100 rfl rfl ?_
    refine g_getI dX12_rule_101 fl12_312 c0 ?_
    refine g_iconst (v := 1) dX12_rule_104 (by decide) ?_
    refine g_isub dX12_rule_105 ?_
    exact g_iret dX12_rule_106 rfl enSH (h1 q1)
  · refine g_bipush (v := -2) dX12_rule_90 (by decide) ?_
    refine g_aload_n 0 dX12_rule_92 rfl rfl ?_
    refine g_getI dX12_rule_93 fl12_160 c0 ?_
    refine g_isub dX12_rule_96 ?_
    refine g_goto 106 dX12_rule_97 (by decide) ?_
    exact g_iret dX12_rule_106 rfl enSH (h2 q1)
theorem bX12_rule_79v1 {X : pX} {Q : Option Value → pMem → Prop} {m : pMem} {a0 : Nat} {xs1 : Int32} {as2 : Nat} (hW : Wf m) (c0 : SH[a0]? = some (.inl 12)) (cs2 : SH[as2]? = some (.inl 12))
    (h1 : (mI (uI m as2 23 (xs1 + (1 : Int32))) a0 21) ≤ 0 → Q (some (.int ((mI (uI m as2 23 (xs1 + (1 : Int32))) a0 23) - (1 : Int32)))) (uI m as2 23 (xs1 + (1 : Int32))))
    (h2 : ¬ ((mI (uI m as2 23 (xs1 + (1 : Int32))) a0 21) ≤ 0) → Q (some (.int ((-2 : Int32) - (mI (uI m as2 23 (xs1 + (1 : Int32))) a0 21)))) (uI m as2 23 (xs1 + (1 : Int32)))) :
    Go X 13 mX12_rule Q 79 [(0, .ref a0)] [.int (1 : Int32), .int xs1, .ref as2] m := by
  refine g_iadd dX12_rule_79 ?_
  refine g_putI dX12_rule_80 fl12_312 (fun h => by cases h) cs2 ?_
  refine g_aload_n 0 dX12_rule_83 rfl rfl ?_
  refine g_getI dX12_rule_84 fl12_160 c0 ?_
  refine g_if_le 100 dX12_rule_87 (by decide) (fun q1 => ?_) (fun q1 => ?_)
  · refine g_aload_n 0 dX12_rule_100 rfl rfl ?_
    refine g_getI dX12_rule_101 fl12_312 c0 ?_
    refine g_iconst (v := 1) dX12_rule_104 (by decide) ?_
    refine g_isub dX12_rule_105 ?_
    exact g_iret dX12_rule_106 rfl enSH (h1 q1)
  · refine g_bipush (v := -2) dX12_rule_90 (by decide) ?_
    refine g_aload_n 0 dX12_rule_92 rfl rfl ?_
    refine g_getI dX12_rule_93 fl12_160 c0 ?_
    refine g_isub dX12_rule_96 ?_
    refine g_goto 106 dX12_rule_97 (by decide) ?_
    exact g_iret dX12_rule_106 rfl enSH (h2 q1)
theorem bX12_rule_36 {X : pX} {Q : Option Value → pMem → Prop} {m : pMem} {a0 : Nat} {x1 : Int32} {x2 : Int32} (hW : Wf m) (c0 : SH[a0]? = some (.inl 12))
    (h1 : Cl X 2 mX12_goesOn [.ref a0] m (fun v m2 => Go X 13 mX12_rule Q 43 [(0, .ref a0), (1, .int (x1 + (1 : Int32))), (2, .int x2)] (v.toList ++ []) m2)) :
    Go X 13 mX12_rule Q 36 [(0, .ref a0), (1, .int x1), (2, .int x2)] [] m := by
  refine g_iinc (v := x1 + (1 : Int32)) (ls2 := [(1, .int (x1 + (1 : Int32))), (0, .ref a0), (2, .int x2)]) 1 dX12_rule_36 rfl rfl (by decide) rfl ?_
  refine g_aload_n 1 dX12_rule_39 rfl rfl ?_
  refine g_ls [1, 0, 2] (ls2 := [(0, .ref a0), (1, .int (x1 + (1 : Int32))), (2, .int x2)]) rfl ?_
  exact g_callV (As := []) (st := []) dX12_rule_40 clX12_286 c0 rfl rfl (Nat.le_of_ble_eq_true rfl) (rmSH (by decide) (by decide)) h1
theorem bX12_rule_43 {X : pX} {Q : Option Value → pMem → Prop} {m : pMem} {a0 : Nat} {x1 : Int32} {x2 : Int32} {xs0 : Int32} (hW : Wf m) (c0 : SH[a0]? = some (.inl 12))
    (h1 : Go X 13 mX12_rule Q 27 [(0, .ref a0), (1, .int x1), (2, .int xs0)] [] m) :
    Go X 13 mX12_rule Q 43 [(0, .ref a0), (1, .int x1), (2, .int x2)] [.int xs0] m := by
  refine g_istore_n (ls2 := [(2, .int xs0), (0, .ref a0), (1, .int x1)]) dX12_rule_43 rfl (by decide) rfl ?_
  refine g_goto 27 dX12_rule_44 (by decide) ?_
  exact g_ls [1, 2, 0] rfl h1
theorem bX12_force_0 {X : pX} {Q : Option Value → pMem → Prop} {m : pMem} {a0 : Nat} {x1 : Int32} (hW : Wf m) (c0 : SH[a0]? = some (.inl 12))
    (h1 : Cl X 0 mX12_in [.long x1.toInt64, .long (-1 : Int64), .long (((mI m a0 23) - (1 : Int32)).toInt64)] m (fun v m2 => Go X 1 mX12_force Q 15 [(0, .ref a0), (1, .int x1)] (v.toList ++ []) m2)) :
    Go X 1 mX12_force Q 0 [(0, .ref a0), (1, .int x1)] [] m := by
  refine g_iload_n 1 dX12_force_0 rfl rfl ?_
  refine g_i2l dX12_force_1 ?_
  refine g_ldc2 (v := -1) dX12_force_2 cjX12_318 ?_
  refine g_aload_n 0 dX12_force_5 rfl rfl ?_
  refine g_getI dX12_force_6 fl12_312 c0 ?_
  refine g_iconst (v := 1) dX12_force_9 (by decide) ?_
  refine g_isub dX12_force_10 ?_
  refine g_i2l dX12_force_11 ?_
  exact g_callS (As := [.long x1.toInt64, .long (-1 : Int64), .long (((mI m a0 23) - (1 : Int32)).toInt64)]) (st := []) dX12_force_12 clX12_128 rfl rfl (Nat.le_of_ble_eq_true rfl) (rmSH (by decide) (by decide)) h1
theorem bX12_force_15 {X : pX} {Q : Option Value → pMem → Prop} {m : pMem} {a0 : Nat} {x1 : Int32} {xs0 : Int32} (hW : Wf m) (c0 : SH[a0]? = some (.inl 12))
    (h1 : ¬ xs0 = 0 → Q (some (.int (mI m (a0 + 1) 8))) (uI m (a0 + 1) 8 x1))
    (h2 : xs0 = 0 → Q (some (.int (-2 : Int32))) m) :
    Go X 1 mX12_force Q 15 [(0, .ref a0), (1, .int x1)] [.int xs0] m := by
  refine g_if_ne 21 dX12_force_15 (by decide) (fun q1 => ?_) (fun q1 => ?_)
  · refine g_aload_n 0 dX12_force_21 rfl rfl ?_
    refine g_getR dX12_force_22 fl12_9 rfl c0 (w12_1 hW c0) ?_
    refine g_bipush (v := 8) dX12_force_25 (by decide) ?_
    refine g_iald (j := 8) dX12_force_27 (s12_1 c0) (by unfold vp_in; decide) (by decide) ?_
    refine g_istore_n (ls2 := [(2, .int (mI m (a0 + 1) 8)), (0, .ref a0), (1, .int x1)]) dX12_force_28 rfl (by decide) rfl ?_
    refine g_aload_n 1 dX12_force_29 rfl rfl ?_
    refine g_getR dX12_force_30 fl12_9 rfl c0 (w12_1 hW c0) ?_
    refine g_bipush (v := 8) dX12_force_33 (by decide) ?_
    refine g_iload_n 2 dX12_force_35 rfl rfl ?_
    refine g_iast (j := 8) dX12_force_36 (s12_1 c0) (by unfold vp_in; decide) (by decide) ?_
    refine g_iload_n 0 dX12_force_37 rfl rfl ?_
    exact g_iret dX12_force_38 rfl enSH (h1 q1)
  · refine g_bipush (v := -2) dX12_force_18 (by decide) ?_
    exact g_iret dX12_force_20 rfl enSH (h2 q1)
theorem bX12_wanted_0 {X : pX} {Q : Option Value → pMem → Prop} {m : pMem} {a0 : Nat} (hW : Wf m) (c0 : SH[a0]? = some (.inl 12))
    (h1 : Go X 3 mX12_wanted Q 13 [(0, .ref a0), (1, .int (mI m (a0 + 1) 8)), (2, .int ((12 : Int32) * (mI m (a0 + 1) 8)))] [] m) :
    Go X 3 mX12_wanted Q 0 [(0, .ref a0)] [] m := by
  refine g_aload_n 0 dX12_wanted_0 rfl rfl ?_
  refine g_getR dX12_wanted_1 fl12_9 rfl c0 (w12_1 hW c0) ?_
  refine g_bipush (v := 8) dX12_wanted_4 (by decide) ?_
  refine g_iald (j := 8) dX12_wanted_6 (s12_1 c0) (by unfold vp_in; decide) (by decide) ?_
  refine g_istore_n (ls2 := [(1, .int (mI m (a0 + 1) 8)), (0, .ref a0)]) dX12_wanted_7 rfl (by decide) rfl ?_
  refine g_bipush (v := 12) dX12_wanted_8 (by decide) ?_
  refine g_iload_n 0 dX12_wanted_10 rfl rfl ?_
  refine g_imul dX12_wanted_11 ?_
  refine g_istore_n (ls2 := [(2, .int ((12 : Int32) * (mI m (a0 + 1) 8))), (1, .int (mI m (a0 + 1) 8)), (0, .ref a0)]) dX12_wanted_12 rfl (by decide) rfl ?_
  exact g_ls [2, 1, 0] rfl h1
theorem bX12_wanted_13 {X : pX} {Q : Option Value → pMem → Prop} {m : pMem} {a0 : Nat} {x1 : Int32} {x2 : Int32} (hW : Wf m) (c0 : SH[a0]? = some (.inl 12))
    (h1 : vp_in x1 6)
    (h2 : (((12 : Int32) * x1) + (mI m (a0 + 22) x1.toNatClampNeg)) ≤ x2 → Q (some (.long (0 : Int64))) m)
    (h3 : ¬ ((((12 : Int32) * x1) + (mI m (a0 + 22) x1.toNatClampNeg)) ≤ x2) → vp_in x2 72)
    (h4 : ¬ ((((12 : Int32) * x1) + (mI m (a0 + 22) x1.toNatClampNeg)) ≤ x2) → vp_in x2 72)
    (h5 : ¬ ((((12 : Int32) * x1) + (mI m (a0 + 22) x1.toNatClampNeg)) ≤ x2) → (mI m (a0 + 24) x2.toNatClampNeg) = (mI m (a0 + 25) x2.toNatClampNeg) → Go X 3 mX12_wanted Q 65 [(0, .ref a0), (1, .int x1), (2, .int x2)] [] m)
    (h6 : ¬ ((((12 : Int32) * x1) + (mI m (a0 + 22) x1.toNatClampNeg)) ≤ x2) → ¬ ((mI m (a0 + 24) x2.toNatClampNeg) = (mI m (a0 + 25) x2.toNatClampNeg)) → vp_in x2 72)
    (h7 : ¬ ((((12 : Int32) * x1) + (mI m (a0 + 22) x1.toNatClampNeg)) ≤ x2) → ¬ ((mI m (a0 + 24) x2.toNatClampNeg) = (mI m (a0 + 25) x2.toNatClampNeg)) → vp_in x2 72)
    (h8 : ¬ ((((12 : Int32) * x1) + (mI m (a0 + 22) x1.toNatClampNeg)) ≤ x2) → ¬ ((mI m (a0 + 24) x2.toNatClampNeg) = (mI m (a0 + 25) x2.toNatClampNeg)) → Cl X 2 mX12_answer [.ref a0, .int x1, .int (mI m (a0 + 24) x2.toNatClampNeg), .int (mI m (a0 + 25) x2.toNatClampNeg)] m (fun v m2 => Go X 3 mX12_wanted Q 60 [(0, .ref a0), (1, .int x1), (2, .int x2)] (v.toList ++ []) m2)) :
    Go X 3 mX12_wanted Q 13 [(0, .ref a0), (1, .int x1), (2, .int x2)] [] m := by
  refine g_iload_n 2 dX12_wanted_13 rfl rfl ?_
  refine g_bipush (v := 12) dX12_wanted_14 (by decide) ?_
  refine g_iload_n 1 dX12_wanted_16 rfl rfl ?_
  refine g_imul dX12_wanted_17 ?_
  refine g_aload_n 0 dX12_wanted_18 rfl rfl ?_
  refine g_getR dX12_wanted_19 fl12_78 rfl c0 (w12_32 hW c0) ?_
  refine g_iload_n 1 dX12_wanted_22 rfl rfl ?_
  refine g_iald (j := x1.toNatClampNeg) dX12_wanted_23 (s12_32 c0) h1 rfl ?_
  refine g_iadd dX12_wanted_24 ?_
  refine g_icmp_ge 89 dX12_wanted_25 (by decide) (fun q1 => ?_) (fun q1 => ?_)
  · refine g_lconst (v := 0) dX12_wanted_89 (by decide) ?_
    exact g_lret dX12_wanted_90 rfl enSH (h2 q1)
  · refine g_aload_n 0 dX12_wanted_28 rfl rfl ?_
    refine g_getR dX12_wanted_29 fl12_84 rfl c0 (w12_34 hW c0) ?_
    refine g_iload_n 2 dX12_wanted_32 rfl rfl ?_
    refine g_iald (j := x2.toNatClampNeg) dX12_wanted_33 (s12_34 c0) (h3 q1) rfl ?_
    refine g_aload_n 0 dX12_wanted_34 rfl rfl ?_
    refine g_getR dX12_wanted_35 fl12_87 rfl c0 (w12_35 hW c0) ?_
    refine g_iload_n 2 dX12_wanted_38 rfl rfl ?_
    refine g_iald (j := x2.toNatClampNeg) dX12_wanted_39 (s12_35 c0) (h4 q1) rfl ?_
    refine g_icmp_eq 65 dX12_wanted_40 (by decide) (fun q2 => ?_) (fun q2 => ?_)
    · exact g_ls [0, 1, 2] rfl (h5 q1 q2)
    · refine g_aload_n 0 dX12_wanted_43 rfl rfl ?_
      refine g_iload_n 1 dX12_wanted_44 rfl rfl ?_
      refine g_aload_n 0 dX12_wanted_45 rfl rfl ?_
      refine g_getR dX12_wanted_46 fl12_84 rfl c0 (w12_34 hW c0) ?_
      refine g_iload_n 2 dX12_wanted_49 rfl rfl ?_
      refine g_iald (j := x2.toNatClampNeg) dX12_wanted_50 (s12_34 c0) (h6 q1 q2) rfl ?_
      refine g_aload_n 0 dX12_wanted_51 rfl rfl ?_
      refine g_getR dX12_wanted_52 fl12_87 rfl c0 (w12_35 hW c0) ?_
      refine g_iload_n 2 dX12_wanted_55 rfl rfl ?_
      refine g_iald (j := x2.toNatClampNeg) dX12_wanted_56 (s12_35 c0) (h7 q1 q2) rfl ?_
      exact g_callV (As := [.int x1, .int (mI m (a0 + 24) x2.toNatClampNeg), .int (mI m (a0 + 25) x2.toNatClampNeg)]) (st := []) dX12_wanted_57 clX12_320 c0 rfl rfl (Nat.le_of_ble_eq_true rfl) (rmSH (by decide) (by decide)) (h8 q1 q2)
theorem bX12_wanted_65 {X : pX} {Q : Option Value → pMem → Prop} {m : pMem} {a0 : Nat} {x1 : Int32} {x2 : Int32} (hW : Wf m) (c0 : SH[a0]? = some (.inl 12))
    (h1 : vp_in x2 72)
    (h2 : vp_in x2 72)
    (h3 : Cl X 2 mX12_answer [.ref a0, .int x1, .int (mI m (a0 + 23) x2.toNatClampNeg), .int (mI m (a0 + 24) x2.toNatClampNeg)] m (fun v m2 => Go X 3 mX12_wanted Q 82 [(0, .ref a0), (1, .int x1), (2, .int x2)] (v.toList ++ []) m2)) :
    Go X 3 mX12_wanted Q 65 [(0, .ref a0), (1, .int x1), (2, .int x2)] [] m := by
  refine g_aload_n 0 dX12_wanted_65 rfl rfl ?_
  refine g_iload_n 1 dX12_wanted_66 rfl rfl ?_
  refine g_aload_n 0 dX12_wanted_67 rfl rfl ?_
  refine g_getR dX12_wanted_68 fl12_81 rfl c0 (w12_33 hW c0) ?_
  refine g_iload_n 2 dX12_wanted_71 rfl rfl ?_
  refine g_iald (j := x2.toNatClampNeg) dX12_wanted_72 (s12_33 c0) h1 rfl ?_
  refine g_aload_n 0 dX12_wanted_73 rfl rfl ?_
  refine g_getR dX12_wanted_74 fl12_84 rfl c0 (w12_34 hW c0) ?_
  refine g_iload_n 2 dX12_wanted_77 rfl rfl ?_
  refine g_iald (j := x2.toNatClampNeg) dX12_wanted_78 (s12_34 c0) h2 rfl ?_
  exact g_callV (As := [.int x1, .int (mI m (a0 + 23) x2.toNatClampNeg), .int (mI m (a0 + 24) x2.toNatClampNeg)]) (st := []) dX12_wanted_79 clX12_320 c0 rfl rfl (Nat.le_of_ble_eq_true rfl) (rmSH (by decide) (by decide)) h3
theorem bX12_wanted_60 {X : pX} {Q : Option Value → pMem → Prop} {m : pMem} {a0 : Nat} {x1 : Int32} {x2 : Int32} {ys0 : Int64} (hW : Wf m) (c0 : SH[a0]? = some (.inl 12))
    (h1 : ¬ (lg_cmp ys0 (1 : Int64)) = 0 → Go X 3 mX12_wanted Q 13 [(0, .ref a0), (1, .int x1), (2, .int (x2 + (1 : Int32)))] [] m)
    (h2 : (lg_cmp ys0 (1 : Int64)) = 0 → Go X 3 mX12_wanted Q 65 [(0, .ref a0), (1, .int x1), (2, .int x2)] [] m) :
    Go X 3 mX12_wanted Q 60 [(0, .ref a0), (1, .int x1), (2, .int x2)] [.long ys0] m := by
  refine g_lconst (v := 1) dX12_wanted_60 (by decide) ?_
  refine g_lcmp dX12_wanted_61 ?_
  refine g_if_ne 83 dX12_wanted_62 (by decide) (fun q1 => ?_) (fun q1 => ?_)
  · refine g_iinc (v := x2 + (1 : Int32)) (ls2 := [(2, .int (x2 + (1 : Int32))), (0, .ref a0), (1, .int x1)]) 2 dX12_wanted_83 rfl rfl (by decide) rfl ?_
    refine g_goto 13 dX12_wanted_86 (by decide) ?_
    exact g_ls [1, 2, 0] rfl (h1 q1)
  · exact g_ls [0, 1, 2] rfl (h2 q1)
theorem bX12_wanted_82 {X : pX} {Q : Option Value → pMem → Prop} {m : pMem} {a0 : Nat} {x1 : Int32} {x2 : Int32} {ys0 : Int64} (hW : Wf m) (c0 : SH[a0]? = some (.inl 12))
    (h1 : Q (some (.long ys0)) m) :
    Go X 3 mX12_wanted Q 82 [(0, .ref a0), (1, .int x1), (2, .int x2)] [.long ys0] m := by
  exact g_lret dX12_wanted_82 rfl enSH h1
theorem bX12_truth_0 {X : pX} {Q : Option Value → pMem → Prop} {m : pMem} {x0 : Int32} (hW : Wf m)
    (h1 : x0 = 0 → Q (some (.long (0 : Int64))) m)
    (h2 : ¬ (x0 = 0) → Q (some (.long (1 : Int64))) m) :
    Go X 0 mX12_truth Q 0 [(0, .int x0)] [] m := by
  refine g_iload_n 0 dX12_truth_0 rfl rfl ?_
  refine g_if_eq 8 dX12_truth_1 (by decide) (fun q1 => ?_) (fun q1 => ?_)
  · refine g_lconst (v := 0) dX12_truth_8 (by decide) ?_
    exact g_lret dX12_truth_9 rfl enSH (h1 q1)
  · refine g_lconst (v := 1) dX12_truth_4 (by decide) ?_
    refine g_goto 9 dX12_truth_5 (by decide) ?_
    exact g_lret dX12_truth_9 rfl enSH (h2 q1)
theorem bX12_both_0 {X : pX} {Q : Option Value → pMem → Prop} {m : pMem} {x0 : Int32} {y1 : Int64} {y3 : Int64} (hW : Wf m)
    (h1 : x0 = 2 → Q (some (.long (y1 + y3))) m)
    (h2 : ¬ x0 = 2 → x0 = 3 → Q (some (.long (y1 - y3))) m)
    (h3 : ¬ x0 = 2 → ¬ x0 = 3 → x0 = 4 → 0 ≤ (lg_cmp y1 y3) → Cl X 0 mX12_truth [.int (0 : Int32)] m (fun v m2 => Go X 1 mX12_both Q 126 [(0, .int x0), (1, .long y1), (3, .long y3)] (v.toList ++ []) m2))
    (h4 : ¬ x0 = 2 → ¬ x0 = 3 → x0 = 4 → ¬ (0 ≤ (lg_cmp y1 y3)) → Cl X 0 mX12_truth [.int (1 : Int32)] m (fun v m2 => Go X 1 mX12_both Q 126 [(0, .int x0), (1, .long y1), (3, .long y3)] (v.toList ++ []) m2))
    (h5 : ¬ x0 = 2 → ¬ x0 = 3 → ¬ x0 = 4 → x0 = 5 → 0 < (lg_cmp y1 y3) → Cl X 0 mX12_truth [.int (0 : Int32)] m (fun v m2 => Go X 1 mX12_both Q 141 [(0, .int x0), (1, .long y1), (3, .long y3)] (v.toList ++ []) m2))
    (h6 : ¬ x0 = 2 → ¬ x0 = 3 → ¬ x0 = 4 → x0 = 5 → ¬ (0 < (lg_cmp y1 y3)) → Cl X 0 mX12_truth [.int (1 : Int32)] m (fun v m2 => Go X 1 mX12_both Q 141 [(0, .int x0), (1, .long y1), (3, .long y3)] (v.toList ++ []) m2))
    (h7 : ¬ x0 = 2 → ¬ x0 = 3 → ¬ x0 = 4 → ¬ x0 = 5 → x0 = 6 → ¬ (lg_cmp y1 y3) = 0 → Cl X 0 mX12_truth [.int (0 : Int32)] m (fun v m2 => Go X 1 mX12_both Q 156 [(0, .int x0), (1, .long y1), (3, .long y3)] (v.toList ++ []) m2))
    (h8 : ¬ x0 = 2 → ¬ x0 = 3 → ¬ x0 = 4 → ¬ x0 = 5 → x0 = 6 → (lg_cmp y1 y3) = 0 → Cl X 0 mX12_truth [.int (1 : Int32)] m (fun v m2 => Go X 1 mX12_both Q 156 [(0, .int x0), (1, .long y1), (3, .long y3)] (v.toList ++ []) m2))
    (h9 : ¬ x0 = 2 → ¬ x0 = 3 → ¬ x0 = 4 → ¬ x0 = 5 → ¬ x0 = 6 → x0 = 7 → (lg_cmp y1 y3) < 0 → Cl X 0 mX12_truth [.int (0 : Int32)] m (fun v m2 => Go X 1 mX12_both Q 171 [(0, .int x0), (1, .long y1), (3, .long y3)] (v.toList ++ []) m2))
    (h10 : ¬ x0 = 2 → ¬ x0 = 3 → ¬ x0 = 4 → ¬ x0 = 5 → ¬ x0 = 6 → x0 = 7 → ¬ ((lg_cmp y1 y3) < 0) → Cl X 0 mX12_truth [.int (1 : Int32)] m (fun v m2 => Go X 1 mX12_both Q 171 [(0, .int x0), (1, .long y1), (3, .long y3)] (v.toList ++ []) m2))
    (h11 : ¬ x0 = 2 → ¬ x0 = 3 → ¬ x0 = 4 → ¬ x0 = 5 → ¬ x0 = 6 → ¬ x0 = 7 → x0 = 8 → (lg_cmp y1 y3) ≤ 0 → Cl X 0 mX12_truth [.int (0 : Int32)] m (fun v m2 => Go X 1 mX12_both Q 186 [(0, .int x0), (1, .long y1), (3, .long y3)] (v.toList ++ []) m2))
    (h12 : ¬ x0 = 2 → ¬ x0 = 3 → ¬ x0 = 4 → ¬ x0 = 5 → ¬ x0 = 6 → ¬ x0 = 7 → x0 = 8 → ¬ ((lg_cmp y1 y3) ≤ 0) → Cl X 0 mX12_truth [.int (1 : Int32)] m (fun v m2 => Go X 1 mX12_both Q 186 [(0, .int x0), (1, .long y1), (3, .long y3)] (v.toList ++ []) m2))
    (h13 : ¬ x0 = 2 → ¬ x0 = 3 → ¬ x0 = 4 → ¬ x0 = 5 → ¬ x0 = 6 → ¬ x0 = 7 → ¬ x0 = 8 → x0 = 10 → Q (some (.long (y1 &&& y3))) m)
    (h14 : ¬ x0 = 2 → ¬ x0 = 3 → ¬ x0 = 4 → ¬ x0 = 5 → ¬ x0 = 6 → ¬ x0 = 7 → ¬ x0 = 8 → ¬ x0 = 10 → x0 = 13 → Q (some (.long (y1 * y3))) m)
    (h15 : ¬ x0 = 2 → ¬ x0 = 3 → ¬ x0 = 4 → ¬ x0 = 5 → ¬ x0 = 6 → ¬ x0 = 7 → ¬ x0 = 8 → ¬ x0 = 10 → ¬ x0 = 13 → x0 = 14 → ¬ (lg_cmp y3 (0 : Int64)) = 0 → ¬ y3 = 0)
    (h16 : ¬ x0 = 2 → ¬ x0 = 3 → ¬ x0 = 4 → ¬ x0 = 5 → ¬ x0 = 6 → ¬ x0 = 7 → ¬ x0 = 8 → ¬ x0 = 10 → ¬ x0 = 13 → x0 = 14 → ¬ (lg_cmp y3 (0 : Int64)) = 0 → Q (some (.long (y1 / y3))) m)
    (h17 : ¬ x0 = 2 → ¬ x0 = 3 → ¬ x0 = 4 → ¬ x0 = 5 → ¬ x0 = 6 → ¬ x0 = 7 → ¬ x0 = 8 → ¬ x0 = 10 → ¬ x0 = 13 → x0 = 14 → (lg_cmp y3 (0 : Int64)) = 0 → Q (some (.long (0 : Int64))) m)
    (h18 : ¬ x0 = 2 → ¬ x0 = 3 → ¬ x0 = 4 → ¬ x0 = 5 → ¬ x0 = 6 → ¬ x0 = 7 → ¬ x0 = 8 → ¬ x0 = 10 → ¬ x0 = 13 → ¬ x0 = 14 → x0 = 15 → ¬ (lg_cmp y3 (0 : Int64)) = 0 → ¬ y3 = 0)
    (h19 : ¬ x0 = 2 → ¬ x0 = 3 → ¬ x0 = 4 → ¬ x0 = 5 → ¬ x0 = 6 → ¬ x0 = 7 → ¬ x0 = 8 → ¬ x0 = 10 → ¬ x0 = 13 → ¬ x0 = 14 → x0 = 15 → ¬ (lg_cmp y3 (0 : Int64)) = 0 → Q (some (.long (y1 - y1 / y3 * y3))) m)
    (h20 : ¬ x0 = 2 → ¬ x0 = 3 → ¬ x0 = 4 → ¬ x0 = 5 → ¬ x0 = 6 → ¬ x0 = 7 → ¬ x0 = 8 → ¬ x0 = 10 → ¬ x0 = 13 → ¬ x0 = 14 → x0 = 15 → (lg_cmp y3 (0 : Int64)) = 0 → Q (some (.long (0 : Int64))) m)
    (h21 : ¬ x0 = 2 → ¬ x0 = 3 → ¬ x0 = 4 → ¬ x0 = 5 → ¬ x0 = 6 → ¬ x0 = 7 → ¬ x0 = 8 → ¬ x0 = 10 → ¬ x0 = 13 → ¬ x0 = 14 → ¬ x0 = 15 → x0 = 9 → Q (some (.long (y1 ||| y3))) m)
    (h22 : ¬ x0 = 2 → ¬ x0 = 3 → ¬ x0 = 4 → ¬ x0 = 5 → ¬ x0 = 6 → ¬ x0 = 7 → ¬ x0 = 8 → ¬ x0 = 10 → ¬ x0 = 13 → ¬ x0 = 14 → ¬ x0 = 15 → ¬ x0 = 9 → x0 = 11 → Q (some (.long (y1 ||| y3))) m)
    (h23 : ¬ x0 = 2 → ¬ x0 = 3 → ¬ x0 = 4 → ¬ x0 = 5 → ¬ x0 = 6 → ¬ x0 = 7 → ¬ x0 = 8 → ¬ x0 = 10 → ¬ x0 = 13 → ¬ x0 = 14 → ¬ x0 = 15 → ¬ x0 = 9 → ¬ x0 = 11 → x0 = 12 → Q (some (.long (y1 ||| y3))) m)
    (h24 : ¬ x0 = 2 → ¬ x0 = 3 → ¬ x0 = 4 → ¬ x0 = 5 → ¬ x0 = 6 → ¬ x0 = 7 → ¬ x0 = 8 → ¬ x0 = 10 → ¬ x0 = 13 → ¬ x0 = 14 → ¬ x0 = 15 → ¬ x0 = 9 → ¬ x0 = 11 → ¬ x0 = 12 → Q (some (.long (y1 ||| y3))) m) :
    Go X 1 mX12_both Q 0 [(0, .int x0), (1, .long y1), (3, .long y3)] [] m := by
  refine g_iload_n 0 dX12_both_0 rfl rfl ?_
  by_cases q1 : x0 = 2
  · refine g_tabIn 72 dX12_both_1 (by rw [q1]; decide) (by rw [q1]; decide) (by rw [q1]; rfl) (by decide) ?_
    refine g_lload_n 1 dX12_both_72 rfl rfl ?_
    refine g_lload_n 2 dX12_both_73 rfl rfl ?_
    refine g_ladd dX12_both_74 ?_
    exact g_lret dX12_both_75 rfl enSH (h1 q1)
  by_cases q2 : x0 = 3
  · refine g_tabIn 76 dX12_both_1 (by rw [q2]; decide) (by rw [q2]; decide) (by rw [q2]; rfl) (by decide) ?_
    refine g_lload_n 1 dX12_both_76 rfl rfl ?_
    refine g_lload_n 2 dX12_both_77 rfl rfl ?_
    refine g_lsub dX12_both_78 ?_
    exact g_lret dX12_both_79 rfl enSH (h2 q1 q2)
  by_cases q3 : x0 = 4
  · refine g_tabIn 112 dX12_both_1 (by rw [q3]; decide) (by rw [q3]; decide) (by rw [q3]; rfl) (by decide) ?_
    refine g_lload_n 1 dX12_both_112 rfl rfl ?_
    refine g_lload_n 2 dX12_both_113 rfl rfl ?_
    refine g_lcmp dX12_both_114 ?_
    refine g_if_ge 122 dX12_both_115 (by decide) (fun q4 => ?_) (fun q4 => ?_)
    · refine g_iconst (v := 0) dX12_both_122 (by decide) ?_
      exact g_callS (As := [.int (0 : Int32)]) (st := []) dX12_both_123 clX12_324 rfl rfl (Nat.le_of_ble_eq_true rfl) (rmSH (by decide) (by decide)) (h3 q1 q2 q3 q4)
    · refine g_iconst (v := 1) dX12_both_118 (by decide) ?_
      refine g_goto 123 dX12_both_119 (by decide) ?_
      exact g_callS (As := [.int (1 : Int32)]) (st := []) dX12_both_123 clX12_324 rfl rfl (Nat.le_of_ble_eq_true rfl) (rmSH (by decide) (by decide)) (h4 q1 q2 q3 q4)
  by_cases q5 : x0 = 5
  · refine g_tabIn 127 dX12_both_1 (by rw [q5]; decide) (by rw [q5]; decide) (by rw [q5]; rfl) (by decide) ?_
    refine g_lload_n 1 dX12_both_127 rfl rfl ?_
    refine g_lload_n 2 dX12_both_128 rfl rfl ?_
    refine g_lcmp dX12_both_129 ?_
    refine g_if_gt 137 dX12_both_130 (by decide) (fun q6 => ?_) (fun q6 => ?_)
    · refine g_iconst (v := 0) dX12_both_137 (by decide) ?_
      exact g_callS (As := [.int (0 : Int32)]) (st := []) dX12_both_138 clX12_324 rfl rfl (Nat.le_of_ble_eq_true rfl) (rmSH (by decide) (by decide)) (h5 q1 q2 q3 q5 q6)
    · refine g_iconst (v := 1) dX12_both_133 (by decide) ?_
      refine g_goto 138 dX12_both_134 (by decide) ?_
      exact g_callS (As := [.int (1 : Int32)]) (st := []) dX12_both_138 clX12_324 rfl rfl (Nat.le_of_ble_eq_true rfl) (rmSH (by decide) (by decide)) (h6 q1 q2 q3 q5 q6)
  by_cases q7 : x0 = 6
  · refine g_tabIn 142 dX12_both_1 (by rw [q7]; decide) (by rw [q7]; decide) (by rw [q7]; rfl) (by decide) ?_
    refine g_lload_n 1 dX12_both_142 rfl rfl ?_
    refine g_lload_n 2 dX12_both_143 rfl rfl ?_
    refine g_lcmp dX12_both_144 ?_
    refine g_if_ne 152 dX12_both_145 (by decide) (fun q8 => ?_) (fun q8 => ?_)
    · refine g_iconst (v := 0) dX12_both_152 (by decide) ?_
      exact g_callS (As := [.int (0 : Int32)]) (st := []) dX12_both_153 clX12_324 rfl rfl (Nat.le_of_ble_eq_true rfl) (rmSH (by decide) (by decide)) (h7 q1 q2 q3 q5 q7 q8)
    · refine g_iconst (v := 1) dX12_both_148 (by decide) ?_
      refine g_goto 153 dX12_both_149 (by decide) ?_
      exact g_callS (As := [.int (1 : Int32)]) (st := []) dX12_both_153 clX12_324 rfl rfl (Nat.le_of_ble_eq_true rfl) (rmSH (by decide) (by decide)) (h8 q1 q2 q3 q5 q7 q8)
  by_cases q9 : x0 = 7
  · refine g_tabIn 157 dX12_both_1 (by rw [q9]; decide) (by rw [q9]; decide) (by rw [q9]; rfl) (by decide) ?_
    refine g_lload_n 1 dX12_both_157 rfl rfl ?_
    refine g_lload_n 2 dX12_both_158 rfl rfl ?_
    refine g_lcmp dX12_both_159 ?_
    refine g_if_lt 167 dX12_both_160 (by decide) (fun q10 => ?_) (fun q10 => ?_)
    · refine g_iconst (v := 0) dX12_both_167 (by decide) ?_
      exact g_callS (As := [.int (0 : Int32)]) (st := []) dX12_both_168 clX12_324 rfl rfl (Nat.le_of_ble_eq_true rfl) (rmSH (by decide) (by decide)) (h9 q1 q2 q3 q5 q7 q9 q10)
    · refine g_iconst (v := 1) dX12_both_163 (by decide) ?_
      refine g_goto 168 dX12_both_164 (by decide) ?_
      exact g_callS (As := [.int (1 : Int32)]) (st := []) dX12_both_168 clX12_324 rfl rfl (Nat.le_of_ble_eq_true rfl) (rmSH (by decide) (by decide)) (h10 q1 q2 q3 q5 q7 q9 q10)
  by_cases q11 : x0 = 8
  · refine g_tabIn 172 dX12_both_1 (by rw [q11]; decide) (by rw [q11]; decide) (by rw [q11]; rfl) (by decide) ?_
    refine g_lload_n 1 dX12_both_172 rfl rfl ?_
    refine g_lload_n 2 dX12_both_173 rfl rfl ?_
    refine g_lcmp dX12_both_174 ?_
    refine g_if_le 182 dX12_both_175 (by decide) (fun q12 => ?_) (fun q12 => ?_)
    · refine g_iconst (v := 0) dX12_both_182 (by decide) ?_
      exact g_callS (As := [.int (0 : Int32)]) (st := []) dX12_both_183 clX12_324 rfl rfl (Nat.le_of_ble_eq_true rfl) (rmSH (by decide) (by decide)) (h11 q1 q2 q3 q5 q7 q9 q11 q12)
    · refine g_iconst (v := 1) dX12_both_178 (by decide) ?_
      refine g_goto 183 dX12_both_179 (by decide) ?_
      exact g_callS (As := [.int (1 : Int32)]) (st := []) dX12_both_183 clX12_324 rfl rfl (Nat.le_of_ble_eq_true rfl) (rmSH (by decide) (by decide)) (h12 q1 q2 q3 q5 q7 q9 q11 q12)
  by_cases q13 : x0 = 10
  · refine g_tabIn 187 dX12_both_1 (by rw [q13]; decide) (by rw [q13]; decide) (by rw [q13]; rfl) (by decide) ?_
    refine g_lload_n 1 dX12_both_187 rfl rfl ?_
    refine g_lload_n 2 dX12_both_188 rfl rfl ?_
    refine g_land dX12_both_189 ?_
    exact g_lret dX12_both_190 rfl enSH (h13 q1 q2 q3 q5 q7 q9 q11 q13)
  by_cases q14 : x0 = 13
  · refine g_tabIn 80 dX12_both_1 (by rw [q14]; decide) (by rw [q14]; decide) (by rw [q14]; rfl) (by decide) ?_
    refine g_lload_n 1 dX12_both_80 rfl rfl ?_
    refine g_lload_n 2 dX12_both_81 rfl rfl ?_
    refine g_lmul dX12_both_82 ?_
    exact g_lret dX12_both_83 rfl enSH (h14 q1 q2 q3 q5 q7 q9 q11 q13 q14)
  by_cases q15 : x0 = 14
  · refine g_tabIn 84 dX12_both_1 (by rw [q15]; decide) (by rw [q15]; decide) (by rw [q15]; rfl) (by decide) ?_
    refine g_lload_n 2 dX12_both_84 rfl rfl ?_
    refine g_lconst (v := 0) dX12_both_85 (by decide) ?_
    refine g_lcmp dX12_both_86 ?_
    refine g_if_ne 94 dX12_both_87 (by decide) (fun q16 => ?_) (fun q16 => ?_)
    · refine g_lload_n 1 dX12_both_94 rfl rfl ?_
      refine g_lload_n 2 dX12_both_95 rfl rfl ?_
      refine g_ldiv dX12_both_96 (h15 q1 q2 q3 q5 q7 q9 q11 q13 q14 q15 q16) ?_
      exact g_lret dX12_both_97 rfl enSH (h16 q1 q2 q3 q5 q7 q9 q11 q13 q14 q15 q16)
    · refine g_lconst (v := 0) dX12_both_90 (by decide) ?_
      refine g_goto 97 dX12_both_91 (by decide) ?_
      exact g_lret dX12_both_97 rfl enSH (h17 q1 q2 q3 q5 q7 q9 q11 q13 q14 q15 q16)
  by_cases q17 : x0 = 15
  · refine g_tabIn 98 dX12_both_1 (by rw [q17]; decide) (by rw [q17]; decide) (by rw [q17]; rfl) (by decide) ?_
    refine g_lload_n 2 dX12_both_98 rfl rfl ?_
    refine g_lconst (v := 0) dX12_both_99 (by decide) ?_
    refine g_lcmp dX12_both_100 ?_
    refine g_if_ne 108 dX12_both_101 (by decide) (fun q18 => ?_) (fun q18 => ?_)
    · refine g_lload_n 1 dX12_both_108 rfl rfl ?_
      refine g_lload_n 2 dX12_both_109 rfl rfl ?_
      refine g_lrem dX12_both_110 (h18 q1 q2 q3 q5 q7 q9 q11 q13 q14 q15 q17 q18) ?_
      exact g_lret dX12_both_111 rfl enSH (h19 q1 q2 q3 q5 q7 q9 q11 q13 q14 q15 q17 q18)
    · refine g_lconst (v := 0) dX12_both_104 (by decide) ?_
      refine g_goto 111 dX12_both_105 (by decide) ?_
      exact g_lret dX12_both_111 rfl enSH (h20 q1 q2 q3 q5 q7 q9 q11 q13 q14 q15 q17 q18)
  by_cases q19 : x0 = 9
  · refine g_tabIn 191 dX12_both_1 (by rw [q19]; decide) (by rw [q19]; decide) (by rw [q19]; rfl) (by decide) ?_
    refine g_lload_n 1 dX12_both_191 rfl rfl ?_
    refine g_lload_n 2 dX12_both_192 rfl rfl ?_
    refine g_lor dX12_both_193 ?_
    exact g_lret dX12_both_194 rfl enSH (h21 q1 q2 q3 q5 q7 q9 q11 q13 q14 q15 q17 q19)
  by_cases q20 : x0 = 11
  · refine g_tabIn 191 dX12_both_1 (by rw [q20]; decide) (by rw [q20]; decide) (by rw [q20]; rfl) (by decide) ?_
    refine g_lload_n 1 dX12_both_191 rfl rfl ?_
    refine g_lload_n 2 dX12_both_192 rfl rfl ?_
    refine g_lor dX12_both_193 ?_
    exact g_lret dX12_both_194 rfl enSH (h22 q1 q2 q3 q5 q7 q9 q11 q13 q14 q15 q17 q19 q20)
  by_cases q21 : x0 = 12
  · refine g_tabIn 191 dX12_both_1 (by rw [q21]; decide) (by rw [q21]; decide) (by rw [q21]; rfl) (by decide) ?_
    refine g_lload_n 1 dX12_both_191 rfl rfl ?_
    refine g_lload_n 2 dX12_both_192 rfl rfl ?_
    refine g_lor dX12_both_193 ?_
    exact g_lret dX12_both_194 rfl enSH (h23 q1 q2 q3 q5 q7 q9 q11 q13 q14 q15 q17 q19 q20 q21)
  refine g_tabOut 191 dX12_both_1 (p_tabD (fun k hk1 hk2 => ?_)) (by decide) ?_
  · have hk : k = 2 ∨ k = 3 ∨ k = 4 ∨ k = 5 ∨ k = 6 ∨ k = 7 ∨ k = 8 ∨ k = 9 ∨ k = 10 ∨ k = 11 ∨ k = 12 ∨ k = 13 ∨ k = 14 ∨ k = 15 := by omega
    rcases hk with rfl | rfl | rfl | rfl | rfl | rfl | rfl | rfl | rfl | rfl | rfl | rfl | rfl | rfl
    · exact q1
    · exact q2
    · exact q3
    · exact q5
    · exact q7
    · exact q9
    · exact q11
    · exact q19
    · exact q13
    · exact q20
    · exact q21
    · exact q14
    · exact q15
    · exact q17
  refine g_lload_n 1 dX12_both_191 rfl rfl ?_
  refine g_lload_n 2 dX12_both_192 rfl rfl ?_
  refine g_lor dX12_both_193 ?_
  exact g_lret dX12_both_194 rfl enSH (h24 q1 q2 q3 q5 q7 q9 q11 q13 q14 q15 q17 q19 q20 q21)
theorem bX12_both_126 {X : pX} {Q : Option Value → pMem → Prop} {m : pMem} {x0 : Int32} {y1 : Int64} {y3 : Int64} {ys0 : Int64} (hW : Wf m)
    (h1 : Q (some (.long ys0)) m) :
    Go X 1 mX12_both Q 126 [(0, .int x0), (1, .long y1), (3, .long y3)] [.long ys0] m := by
  exact g_lret dX12_both_126 rfl enSH h1
theorem bX12_both_141 {X : pX} {Q : Option Value → pMem → Prop} {m : pMem} {x0 : Int32} {y1 : Int64} {y3 : Int64} {ys0 : Int64} (hW : Wf m)
    (h1 : Q (some (.long ys0)) m) :
    Go X 1 mX12_both Q 141 [(0, .int x0), (1, .long y1), (3, .long y3)] [.long ys0] m := by
  exact g_lret dX12_both_141 rfl enSH h1
theorem bX12_both_156 {X : pX} {Q : Option Value → pMem → Prop} {m : pMem} {x0 : Int32} {y1 : Int64} {y3 : Int64} {ys0 : Int64} (hW : Wf m)
    (h1 : Q (some (.long ys0)) m) :
    Go X 1 mX12_both Q 156 [(0, .int x0), (1, .long y1), (3, .long y3)] [.long ys0] m := by
  exact g_lret dX12_both_156 rfl enSH h1
theorem bX12_both_171 {X : pX} {Q : Option Value → pMem → Prop} {m : pMem} {x0 : Int32} {y1 : Int64} {y3 : Int64} {ys0 : Int64} (hW : Wf m)
    (h1 : Q (some (.long ys0)) m) :
    Go X 1 mX12_both Q 171 [(0, .int x0), (1, .long y1), (3, .long y3)] [.long ys0] m := by
  exact g_lret dX12_both_171 rfl enSH h1
theorem bX12_both_186 {X : pX} {Q : Option Value → pMem → Prop} {m : pMem} {x0 : Int32} {y1 : Int64} {y3 : Int64} {ys0 : Int64} (hW : Wf m)
    (h1 : Q (some (.long ys0)) m) :
    Go X 1 mX12_both Q 186 [(0, .int x0), (1, .long y1), (3, .long y3)] [.long ys0] m := by
  exact g_lret dX12_both_186 rfl enSH h1
theorem bX12_answer_0 {X : pX} {Q : Option Value → pMem → Prop} {m : pMem} {a0 : Nat} {x1 : Int32} {x2 : Int32} {x3 : Int32} (hW : Wf m) (c0 : SH[a0]? = some (.inl 12))
    (h1 : Go X 2 mX12_answer Q 6 [(0, .ref a0), (1, .int x1), (3, .int x3), (4, .int (0 : Int32)), (5, .int x2)] [] m) :
    Go X 2 mX12_answer Q 0 [(0, .ref a0), (1, .int x1), (2, .int x2), (3, .int x3)] [] m := by
  refine g_iconst (v := 0) dX12_answer_0 (by decide) ?_
  refine g_istore (ls2 := [(4, .int (0 : Int32)), (0, .ref a0), (1, .int x1), (2, .int x2), (3, .int x3)]) dX12_answer_1 (by decide) rfl ?_
  refine g_iload_n 3 dX12_answer_3 rfl rfl ?_
  refine g_istore (ls2 := [(5, .int x2), (4, .int (0 : Int32)), (0, .ref a0), (1, .int x1), (2, .int x2), (3, .int x3)]) dX12_answer_4 (by decide) rfl ?_
  exact g_ls [2, 3, 5, 1, 0] rfl h1
theorem bX12_answer_6 {X : pX} {Q : Option Value → pMem → Prop} {m : pMem} {a0 : Nat} {x1 : Int32} {x3 : Int32} {x4 : Int32} {x5 : Int32} (hW : Wf m) (c0 : SH[a0]? = some (.inl 12))
    (h1 : x3 ≤ x5 → Q (some (.long (mL m (a0 + 28) 0))) m)
    (h2 : ¬ (x3 ≤ x5) → vp_in (((300 : Int32) * x1) + x5) 1800)
    (h3 : ¬ (x3 ≤ x5) → vp_in (((300 : Int32) * x1) + x5) 1800)
    (h4 : ¬ (x3 ≤ x5) → (mI m (a0 + 20) ((((300 : Int32) * x1) + x5).toNatClampNeg)) = 0 → Go X 2 mX12_answer Q 53 [(0, .ref a0), (1, .int x1), (3, .int x3), (4, .int x4), (5, .int x5), (6, .int (mI m (a0 + 20) ((((300 : Int32) * x1) + x5).toNatClampNeg))), (7, .int (mI m (a0 + 21) ((((300 : Int32) * x1) + x5).toNatClampNeg)))] [] m)
    (h5 : ¬ (x3 ≤ x5) → ¬ ((mI m (a0 + 20) ((((300 : Int32) * x1) + x5).toNatClampNeg)) = 0) → ¬ (mI m (a0 + 20) ((((300 : Int32) * x1) + x5).toNatClampNeg)) = (1 : Int32) → ¬ (mI m (a0 + 20) ((((300 : Int32) * x1) + x5).toNatClampNeg)) = (9 : Int32) → vp_in ((x4 + (-1 : Int32)) - (1 : Int32)) 300)
    (h6 : ¬ (x3 ≤ x5) → ¬ ((mI m (a0 + 20) ((((300 : Int32) * x1) + x5).toNatClampNeg)) = 0) → ¬ (mI m (a0 + 20) ((((300 : Int32) * x1) + x5).toNatClampNeg)) = (1 : Int32) → ¬ (mI m (a0 + 20) ((((300 : Int32) * x1) + x5).toNatClampNeg)) = (9 : Int32) → vp_in (x4 + (-1 : Int32)) 300)
    (h7 : ¬ (x3 ≤ x5) → ¬ ((mI m (a0 + 20) ((((300 : Int32) * x1) + x5).toNatClampNeg)) = 0) → ¬ (mI m (a0 + 20) ((((300 : Int32) * x1) + x5).toNatClampNeg)) = (1 : Int32) → ¬ (mI m (a0 + 20) ((((300 : Int32) * x1) + x5).toNatClampNeg)) = (9 : Int32) → Cl X 1 mX12_both [.int (mI m (a0 + 20) ((((300 : Int32) * x1) + x5).toNatClampNeg)), .long (mL m (a0 + 28) (((x4 + (-1 : Int32)) - (1 : Int32)).toNatClampNeg)), .long (mL m (a0 + 28) ((x4 + (-1 : Int32)).toNatClampNeg))] m (fun v m2 => Go X 2 mX12_answer Q 146 [(0, .ref a0), (1, .int x1), (3, .int x3), (4, .int (x4 + (-1 : Int32))), (5, .int x5), (6, .int (mI m (a0 + 20) ((((300 : Int32) * x1) + x5).toNatClampNeg))), (7, .int (mI m (a0 + 21) ((((300 : Int32) * x1) + x5).toNatClampNeg)))] (v.toList ++ [.int ((x4 + (-1 : Int32)) - (1 : Int32)), .ref (a0 + 28)]) m2))
    (h8 : ¬ (x3 ≤ x5) → ¬ ((mI m (a0 + 20) ((((300 : Int32) * x1) + x5).toNatClampNeg)) = 0) → ¬ (mI m (a0 + 20) ((((300 : Int32) * x1) + x5).toNatClampNeg)) = (1 : Int32) → (mI m (a0 + 20) ((((300 : Int32) * x1) + x5).toNatClampNeg)) = (9 : Int32) → vp_in (x4 - (1 : Int32)) 300)
    (h9 : ¬ (x3 ≤ x5) → ¬ ((mI m (a0 + 20) ((((300 : Int32) * x1) + x5).toNatClampNeg)) = 0) → ¬ (mI m (a0 + 20) ((((300 : Int32) * x1) + x5).toNatClampNeg)) = (1 : Int32) → (mI m (a0 + 20) ((((300 : Int32) * x1) + x5).toNatClampNeg)) = (9 : Int32) → vp_in (x4 - (1 : Int32)) 300)
    (h10 : ¬ (x3 ≤ x5) → ¬ ((mI m (a0 + 20) ((((300 : Int32) * x1) + x5).toNatClampNeg)) = 0) → ¬ (mI m (a0 + 20) ((((300 : Int32) * x1) + x5).toNatClampNeg)) = (1 : Int32) → (mI m (a0 + 20) ((((300 : Int32) * x1) + x5).toNatClampNeg)) = (9 : Int32) → Go X 2 mX12_answer Q 6 [(0, .ref a0), (1, .int x1), (3, .int x3), (4, .int x4), (5, .int (x5 + (1 : Int32)))] [] (uL m (a0 + 28) ((x4 - (1 : Int32)).toNatClampNeg) ((1 : Int64) - (mL m (a0 + 28) ((x4 - (1 : Int32)).toNatClampNeg)))))
    (h11 : ¬ (x3 ≤ x5) → ¬ ((mI m (a0 + 20) ((((300 : Int32) * x1) + x5).toNatClampNeg)) = 0) → (mI m (a0 + 20) ((((300 : Int32) * x1) + x5).toNatClampNeg)) = (1 : Int32) → Go X 2 mX12_answer Q 53 [(0, .ref a0), (1, .int x1), (3, .int x3), (4, .int x4), (5, .int x5), (6, .int (mI m (a0 + 20) ((((300 : Int32) * x1) + x5).toNatClampNeg))), (7, .int (mI m (a0 + 21) ((((300 : Int32) * x1) + x5).toNatClampNeg)))] [] m) :
    Go X 2 mX12_answer Q 6 [(0, .ref a0), (1, .int x1), (3, .int x3), (4, .int x4), (5, .int x5)] [] m := by
  refine g_iload 4 dX12_answer_6 rfl ?_
  refine g_iload_n 2 dX12_answer_8 rfl rfl ?_
  refine g_icmp_ge 153 dX12_answer_9 (by decide) (fun q1 => ?_) (fun q1 => ?_)
  · refine g_aload_n 0 dX12_answer_153 rfl rfl ?_
    refine g_getR dX12_answer_154 fl12_97 rfl c0 (w12_38 hW c0) ?_
    refine g_iconst (v := 0) dX12_answer_157 (by decide) ?_
    refine g_lald (j := 0) dX12_answer_158 (s12_38 c0) (by unfold vp_in; decide) (by decide) ?_
    exact g_lret dX12_answer_159 rfl enSH (h1 q1)
  · refine g_aload_n 0 dX12_answer_12 rfl rfl ?_
    refine g_getR dX12_answer_13 fl12_72 rfl c0 (w12_30 hW c0) ?_
    refine g_sipush (v := 300) dX12_answer_16 (by decide) ?_
    refine g_iload_n 1 dX12_answer_19 rfl rfl ?_
    refine g_imul dX12_answer_20 ?_
    refine g_iload 4 dX12_answer_21 rfl ?_
    refine g_iadd dX12_answer_23 ?_
    refine g_iald (j := (((300 : Int32) * x1) + x5).toNatClampNeg) dX12_answer_24 (s12_30 c0) (h2 q1) rfl ?_
    refine g_istore (ls2 := [(6, .int (mI m (a0 + 20) ((((300 : Int32) * x1) + x5).toNatClampNeg))), (0, .ref a0), (1, .int x1), (3, .int x3), (4, .int x4), (5, .int x5)]) dX12_answer_25 (by decide) rfl ?_
    refine g_aload_n 1 dX12_answer_27 rfl rfl ?_
    refine g_getR dX12_answer_28 fl12_75 rfl c0 (w12_31 hW c0) ?_
    refine g_sipush (v := 300) dX12_answer_31 (by decide) ?_
    refine g_iload_n 2 dX12_answer_34 rfl rfl ?_
    refine g_imul dX12_answer_35 ?_
    refine g_iload 5 dX12_answer_36 rfl ?_
    refine g_iadd dX12_answer_38 ?_
    refine g_iald (j := (((300 : Int32) * x1) + x5).toNatClampNeg) dX12_answer_39 (s12_31 c0) (h3 q1) rfl ?_
    refine g_istore (ls2 := [(7, .int (mI m (a0 + 21) ((((300 : Int32) * x1) + x5).toNatClampNeg))), (6, .int (mI m (a0 + 20) ((((300 : Int32) * x1) + x5).toNatClampNeg))), (0, .ref a0), (1, .int x1), (3, .int x3), (4, .int x4), (5, .int x5)]) dX12_answer_40 (by decide) rfl ?_
    refine g_iload 1 dX12_answer_42 rfl ?_
    refine g_if_eq 53 dX12_answer_44 (by decide) (fun q2 => ?_) (fun q2 => ?_)
    · exact g_ls [2, 3, 4, 5, 6, 1, 0] rfl (h4 q1 q2)
    · refine g_iload 1 dX12_answer_47 rfl ?_
      refine g_iconst (v := 1) dX12_answer_49 (by decide) ?_
      refine g_icmp_ne 84 dX12_answer_50 (by decide) (fun q3 => ?_) (fun q3 => ?_)
      · refine g_iload 1 dX12_answer_84 rfl ?_
        refine g_bipush (v := 9) dX12_answer_86 (by decide) ?_
        refine g_icmp_ne 114 dX12_answer_88 (by decide) (fun q4 => ?_) (fun q4 => ?_)
        · refine g_iinc (v := x4 + (-1 : Int32)) (ls2 := [(4, .int (x4 + (-1 : Int32))), (7, .int (mI m (a0 + 21) ((((300 : Int32) * x1) + x5).toNatClampNeg))), (6, .int (mI m (a0 + 20) ((((300 : Int32) * x1) + x5).toNatClampNeg))), (0, .ref a0), (1, .int x1), (3, .int x3), (5, .int x5)]) 5 dX12_answer_114 rfl rfl (by decide) rfl ?_
          refine g_aload_n 3 dX12_answer_117 rfl rfl ?_
          refine g_getR dX12_answer_118 fl12_97 rfl c0 (w12_38 hW c0) ?_
          refine g_iload 0 dX12_answer_121 rfl ?_
          refine g_iconst (v := 1) dX12_answer_123 (by decide) ?_
          refine g_isub dX12_answer_124 ?_
          refine g_iload 2 dX12_answer_125 rfl ?_
          refine g_aload_n 3 dX12_answer_127 rfl rfl ?_
          refine g_getR dX12_answer_128 fl12_97 rfl c0 (w12_38 hW c0) ?_
          refine g_iload 0 dX12_answer_131 rfl ?_
          refine g_iconst (v := 1) dX12_answer_133 (by decide) ?_
          refine g_isub dX12_answer_134 ?_
          refine g_lald (j := ((x4 + (-1 : Int32)) - (1 : Int32)).toNatClampNeg) dX12_answer_135 (s12_38 c0) (h5 q1 q2 q3 q4) rfl ?_
          refine g_aload_n 3 dX12_answer_136 rfl rfl ?_
          refine g_getR dX12_answer_137 fl12_97 rfl c0 (w12_38 hW c0) ?_
          refine g_iload 0 dX12_answer_140 rfl ?_
          refine g_lald (j := (x4 + (-1 : Int32)).toNatClampNeg) dX12_answer_142 (s12_38 c0) (h6 q1 q2 q3 q4) rfl ?_
          refine g_ls [3, 4, 5, 0, 6, 2, 1] (ls2 := [(0, .ref a0), (1, .int x1), (3, .int x3), (4, .int (x4 + (-1 : Int32))), (5, .int x5), (6, .int (mI m (a0 + 20) ((((300 : Int32) * x1) + x5).toNatClampNeg))), (7, .int (mI m (a0 + 21) ((((300 : Int32) * x1) + x5).toNatClampNeg)))]) rfl ?_
          exact g_callS (As := [.int (mI m (a0 + 20) ((((300 : Int32) * x1) + x5).toNatClampNeg)), .long (mL m (a0 + 28) (((x4 + (-1 : Int32)) - (1 : Int32)).toNatClampNeg)), .long (mL m (a0 + 28) ((x4 + (-1 : Int32)).toNatClampNeg))]) (st := [.int ((x4 + (-1 : Int32)) - (1 : Int32)), .ref (a0 + 28)]) dX12_answer_143 clX12_328 rfl rfl (Nat.le_of_ble_eq_true rfl) (rmSH (by decide) (by decide)) (h7 q1 q2 q3 q4)
        · refine g_aload_n 2 dX12_answer_91 rfl rfl ?_
          refine g_getR dX12_answer_92 fl12_97 rfl c0 (w12_38 hW c0) ?_
          refine g_iload 5 dX12_answer_95 rfl ?_
          refine g_iconst (v := 1) dX12_answer_97 (by decide) ?_
          refine g_isub dX12_answer_98 ?_
          refine g_lconst (v := 1) dX12_answer_99 (by decide) ?_
          refine g_aload_n 2 dX12_answer_100 rfl rfl ?_
          refine g_getR dX12_answer_101 fl12_97 rfl c0 (w12_38 hW c0) ?_
          refine g_iload 5 dX12_answer_104 rfl ?_
          refine g_iconst (v := 1) dX12_answer_106 (by decide) ?_
          refine g_isub dX12_answer_107 ?_
          refine g_lald (j := (x4 - (1 : Int32)).toNatClampNeg) dX12_answer_108 (s12_38 c0) (h8 q1 q2 q3 q4) rfl ?_
          refine g_lsub dX12_answer_109 ?_
          refine g_last (j := (x4 - (1 : Int32)).toNatClampNeg) dX12_answer_110 (s12_38 c0) (h9 q1 q2 q3 q4) rfl ?_
          refine g_goto 147 dX12_answer_111 (by decide) ?_
          refine g_iinc (v := x5 + (1 : Int32)) (ls2 := [(5, .int (x5 + (1 : Int32))), (7, .int (mI m (a0 + 21) ((((300 : Int32) * x1) + x5).toNatClampNeg))), (6, .int (mI m (a0 + 20) ((((300 : Int32) * x1) + x5).toNatClampNeg))), (0, .ref a0), (1, .int x1), (3, .int x3), (4, .int x4)]) 6 dX12_answer_147 rfl rfl (by decide) rfl ?_
          refine g_goto 6 dX12_answer_150 (by decide) ?_
          exact g_ls [3, 4, 5, 6, 0] rfl (h10 q1 q2 q3 q4)
      · exact g_ls [2, 3, 4, 5, 6, 1, 0] rfl (h11 q1 q2 q3)
theorem bX12_answer_53 {X : pX} {Q : Option Value → pMem → Prop} {m : pMem} {a0 : Nat} {x1 : Int32} {x3 : Int32} {x4 : Int32} {x5 : Int32} {x6 : Int32} {x7 : Int32} (hW : Wf m) (c0 : SH[a0]? = some (.inl 12))
    (h1 : ¬ x6 = 0 → vp_in x7 12)
    (h2 : ¬ x6 = 0 → vp_in x4 300)
    (h3 : ¬ x6 = 0 → Go X 2 mX12_answer Q 6 [(0, .ref a0), (1, .int x1), (3, .int x3), (4, .int (x4 + (1 : Int32))), (5, .int (x5 + (1 : Int32)))] [] (uL m (a0 + 28) x4.toNatClampNeg (mL m (a0 + 27) x7.toNatClampNeg)))
    (h4 : x6 = 0 → vp_in x4 300)
    (h5 : x6 = 0 → Go X 2 mX12_answer Q 6 [(0, .ref a0), (1, .int x1), (3, .int x3), (4, .int (x4 + (1 : Int32))), (5, .int (x5 + (1 : Int32)))] [] (uL m (a0 + 28) x4.toNatClampNeg x7.toInt64)) :
    Go X 2 mX12_answer Q 53 [(0, .ref a0), (1, .int x1), (3, .int x3), (4, .int x4), (5, .int x5), (6, .int x6), (7, .int x7)] [] m := by
  refine g_aload_n 0 dX12_answer_53 rfl rfl ?_
  refine g_getR dX12_answer_54 fl12_97 rfl c0 (w12_38 hW c0) ?_
  refine g_iload 3 dX12_answer_57 rfl ?_
  refine g_iload 5 dX12_answer_59 rfl ?_
  refine g_if_ne 70 dX12_answer_61 (by decide) (fun q1 => ?_) (fun q1 => ?_)
  · refine g_aload_n 0 dX12_answer_70 rfl rfl ?_
    refine g_getR dX12_answer_71 fl12_93 rfl c0 (w12_37 hW c0) ?_
    refine g_iload 6 dX12_answer_74 rfl ?_
    refine g_lald (j := x7.toNatClampNeg) dX12_answer_76 (s12_37 c0) (h1 q1) rfl ?_
    refine g_last (j := x4.toNatClampNeg) dX12_answer_77 (s12_38 c0) (h2 q1) rfl ?_
    refine g_iinc (v := x4 + (1 : Int32)) (ls2 := [(4, .int (x4 + (1 : Int32))), (0, .ref a0), (1, .int x1), (3, .int x3), (5, .int x5), (6, .int x6), (7, .int x7)]) 3 dX12_answer_78 rfl rfl (by decide) rfl ?_
    refine g_goto 147 dX12_answer_81 (by decide) ?_
    refine g_iinc (v := x5 + (1 : Int32)) (ls2 := [(5, .int (x5 + (1 : Int32))), (4, .int (x4 + (1 : Int32))), (0, .ref a0), (1, .int x1), (3, .int x3), (6, .int x6), (7, .int x7)]) 4 dX12_answer_147 rfl rfl (by decide) rfl ?_
    refine g_goto 6 dX12_answer_150 (by decide) ?_
    exact g_ls [2, 3, 4, 1, 0] rfl (h3 q1)
  · refine g_iload 6 dX12_answer_64 rfl ?_
    refine g_i2l dX12_answer_66 ?_
    refine g_goto 77 dX12_answer_67 (by decide) ?_
    refine g_last (j := x4.toNatClampNeg) dX12_answer_77 (s12_38 c0) (h4 q1) rfl ?_
    refine g_iinc (v := x4 + (1 : Int32)) (ls2 := [(4, .int (x4 + (1 : Int32))), (0, .ref a0), (1, .int x1), (3, .int x3), (5, .int x5), (6, .int x6), (7, .int x7)]) 3 dX12_answer_78 rfl rfl (by decide) rfl ?_
    refine g_goto 147 dX12_answer_81 (by decide) ?_
    refine g_iinc (v := x5 + (1 : Int32)) (ls2 := [(5, .int (x5 + (1 : Int32))), (4, .int (x4 + (1 : Int32))), (0, .ref a0), (1, .int x1), (3, .int x3), (6, .int x6), (7, .int x7)]) 4 dX12_answer_147 rfl rfl (by decide) rfl ?_
    refine g_goto 6 dX12_answer_150 (by decide) ?_
    exact g_ls [2, 3, 4, 1, 0] rfl (h5 q1)
theorem bX12_answer_146 {X : pX} {Q : Option Value → pMem → Prop} {m : pMem} {a0 : Nat} {x1 : Int32} {x3 : Int32} {x4 : Int32} {x5 : Int32} {x6 : Int32} {x7 : Int32} {ys0 : Int64} {xs1 : Int32} {as2 : Nat} (hW : Wf m) (c0 : SH[a0]? = some (.inl 12)) (cs2 : SH[as2]? = some (.inr (.long, 300)))
    (h1 : vp_in xs1 300)
    (h2 : Go X 2 mX12_answer Q 6 [(0, .ref a0), (1, .int x1), (3, .int x3), (4, .int x4), (5, .int (x5 + (1 : Int32)))] [] (uL m as2 xs1.toNatClampNeg ys0)) :
    Go X 2 mX12_answer Q 146 [(0, .ref a0), (1, .int x1), (3, .int x3), (4, .int x4), (5, .int x5), (6, .int x6), (7, .int x7)] [.long ys0, .int xs1, .ref as2] m := by
  refine g_last (j := xs1.toNatClampNeg) dX12_answer_146 cs2 h1 rfl ?_
  refine g_iinc (v := x5 + (1 : Int32)) (ls2 := [(5, .int (x5 + (1 : Int32))), (0, .ref a0), (1, .int x1), (3, .int x3), (4, .int x4), (6, .int x6), (7, .int x7)]) 4 dX12_answer_147 rfl rfl (by decide) rfl ?_
  refine g_goto 6 dX12_answer_150 (by decide) ?_
  exact g_ls [1, 2, 3, 4, 0] rfl h2
theorem bX12_thingsOf_0 {X : pX} {Q : Option Value → pMem → Prop} {m : pMem} {a0 : Nat} {x1 : Int32} (hW : Wf m) (c0 : SH[a0]? = some (.inl 12))
    (h1 : Go X 0 mX12_thingsOf Q 4 [(0, .ref a0), (1, .int x1), (2, .int (0 : Int32)), (3, .int (0 : Int32))] [] m) :
    Go X 0 mX12_thingsOf Q 0 [(0, .ref a0), (1, .int x1)] [] m := by
  refine g_iconst (v := 0) dX12_thingsOf_0 (by decide) ?_
  refine g_istore_n (ls2 := [(2, .int (0 : Int32)), (0, .ref a0), (1, .int x1)]) dX12_thingsOf_1 rfl (by decide) rfl ?_
  refine g_iconst (v := 0) dX12_thingsOf_2 (by decide) ?_
  refine g_istore_n (ls2 := [(3, .int (0 : Int32)), (2, .int (0 : Int32)), (0, .ref a0), (1, .int x1)]) dX12_thingsOf_3 rfl (by decide) rfl ?_
  exact g_ls [2, 3, 1, 0] rfl h1
theorem bX12_thingsOf_4 {X : pX} {Q : Option Value → pMem → Prop} {m : pMem} {a0 : Nat} {x1 : Int32} {x2 : Int32} {x3 : Int32} (hW : Wf m) (c0 : SH[a0]? = some (.inl 12))
    (h1 : (mI m (a0 + 1) 4) ≤ x3 → Q (some (.int x2)) m)
    (h2 : ¬ ((mI m (a0 + 1) 4) ≤ x3) → vp_in x3 6)
    (h3 : ¬ ((mI m (a0 + 1) 4) ≤ x3) → ¬ (mI m (a0 + 4) x3.toNatClampNeg) = x1 → Go X 0 mX12_thingsOf Q 4 [(0, .ref a0), (1, .int x1), (2, .int (x2 ||| (0 : Int32))), (3, .int (x3 + (1 : Int32)))] [] m)
    (h4 : ¬ ((mI m (a0 + 1) 4) ≤ x3) → (mI m (a0 + 4) x3.toNatClampNeg) = x1 → Go X 0 mX12_thingsOf Q 4 [(0, .ref a0), (1, .int x1), (2, .int (x2 ||| ((1 : Int32) <<< (x3 &&& 31)))), (3, .int (x3 + (1 : Int32)))] [] m) :
    Go X 0 mX12_thingsOf Q 4 [(0, .ref a0), (1, .int x1), (2, .int x2), (3, .int x3)] [] m := by
  refine g_iload_n 3 dX12_thingsOf_4 rfl rfl ?_
  refine g_aload_n 0 dX12_thingsOf_5 rfl rfl ?_
  refine g_getR dX12_thingsOf_6 fl12_9 rfl c0 (w12_1 hW c0) ?_
  refine g_iconst (v := 4) dX12_thingsOf_9 (by decide) ?_
  refine g_iald (j := 4) dX12_thingsOf_10 (s12_1 c0) (by unfold vp_in; decide) (by decide) ?_
  refine g_icmp_ge 40 dX12_thingsOf_11 (by decide) (fun q1 => ?_) (fun q1 => ?_)
  · refine g_iload_n 2 dX12_thingsOf_40 rfl rfl ?_
    exact g_iret dX12_thingsOf_41 rfl enSH (h1 q1)
  · refine g_iload_n 2 dX12_thingsOf_14 rfl rfl ?_
    refine g_aload_n 0 dX12_thingsOf_15 rfl rfl ?_
    refine g_getR dX12_thingsOf_16 fl12_19 rfl c0 (w12_4 hW c0) ?_
    refine g_iload_n 3 dX12_thingsOf_19 rfl rfl ?_
    refine g_iald (j := x3.toNatClampNeg) dX12_thingsOf_20 (s12_4 c0) (h2 q1) rfl ?_
    refine g_iload_n 1 dX12_thingsOf_21 rfl rfl ?_
    refine g_icmp_ne 31 dX12_thingsOf_22 (by decide) (fun q2 => ?_) (fun q2 => ?_)
    · refine g_iconst (v := 0) dX12_thingsOf_31 (by decide) ?_
      refine g_ior dX12_thingsOf_32 ?_
      refine g_istore_n (ls2 := [(2, .int (x2 ||| (0 : Int32))), (0, .ref a0), (1, .int x1), (3, .int x3)]) dX12_thingsOf_33 rfl (by decide) rfl ?_
      refine g_iinc (v := x3 + (1 : Int32)) (ls2 := [(3, .int (x3 + (1 : Int32))), (2, .int (x2 ||| (0 : Int32))), (0, .ref a0), (1, .int x1)]) 3 dX12_thingsOf_34 rfl rfl (by decide) rfl ?_
      refine g_goto 4 dX12_thingsOf_37 (by decide) ?_
      exact g_ls [2, 3, 1, 0] rfl (h3 q1 q2)
    · refine g_iconst (v := 1) dX12_thingsOf_25 (by decide) ?_
      refine g_iload_n 3 dX12_thingsOf_26 rfl rfl ?_
      refine g_ishl dX12_thingsOf_27 ?_
      refine g_goto 32 dX12_thingsOf_28 (by decide) ?_
      refine g_ior dX12_thingsOf_32 ?_
      refine g_istore_n (ls2 := [(2, .int (x2 ||| ((1 : Int32) <<< (x3 &&& 31)))), (0, .ref a0), (1, .int x1), (3, .int x3)]) dX12_thingsOf_33 rfl (by decide) rfl ?_
      refine g_iinc (v := x3 + (1 : Int32)) (ls2 := [(3, .int (x3 + (1 : Int32))), (2, .int (x2 ||| ((1 : Int32) <<< (x3 &&& 31)))), (0, .ref a0), (1, .int x1)]) 3 dX12_thingsOf_34 rfl rfl (by decide) rfl ?_
      refine g_goto 4 dX12_thingsOf_37 (by decide) ?_
      exact g_ls [2, 3, 1, 0] rfl (h4 q1 q2)
theorem bX12_weightOf_0 {X : pX} {Q : Option Value → pMem → Prop} {m : pMem} {a0 : Nat} {x1 : Int32} (hW : Wf m) (c0 : SH[a0]? = some (.inl 12))
    (h1 : Go X 1 mX12_weightOf Q 4 [(0, .ref a0), (1, .int x1), (2, .int (0 : Int32)), (3, .int (0 : Int32))] [] m) :
    Go X 1 mX12_weightOf Q 0 [(0, .ref a0), (1, .int x1)] [] m := by
  refine g_iconst (v := 0) dX12_weightOf_0 (by decide) ?_
  refine g_istore_n (ls2 := [(2, .int (0 : Int32)), (0, .ref a0), (1, .int x1)]) dX12_weightOf_1 rfl (by decide) rfl ?_
  refine g_iconst (v := 0) dX12_weightOf_2 (by decide) ?_
  refine g_istore_n (ls2 := [(3, .int (0 : Int32)), (2, .int (0 : Int32)), (0, .ref a0), (1, .int x1)]) dX12_weightOf_3 rfl (by decide) rfl ?_
  exact g_ls [2, 3, 1, 0] rfl h1
theorem bX12_weightOf_4 {X : pX} {Q : Option Value → pMem → Prop} {m : pMem} {a0 : Nat} {x1 : Int32} {x2 : Int32} {x3 : Int32} (hW : Wf m) (c0 : SH[a0]? = some (.inl 12))
    (h1 : (mI m (a0 + 1) 4) ≤ x3 → Q (some (.int x2)) m)
    (h2 : ¬ ((mI m (a0 + 1) 4) ≤ x3) → Cl X 0 mX12_has [.int x1, .int x3] m (fun v m2 => Go X 1 mX12_weightOf Q 20 [(0, .ref a0), (1, .int x1), (2, .int x2), (3, .int x3)] (v.toList ++ [.int x2]) m2)) :
    Go X 1 mX12_weightOf Q 4 [(0, .ref a0), (1, .int x1), (2, .int x2), (3, .int x3)] [] m := by
  refine g_iload_n 3 dX12_weightOf_4 rfl rfl ?_
  refine g_aload_n 0 dX12_weightOf_5 rfl rfl ?_
  refine g_getR dX12_weightOf_6 fl12_9 rfl c0 (w12_1 hW c0) ?_
  refine g_iconst (v := 4) dX12_weightOf_9 (by decide) ?_
  refine g_iald (j := 4) dX12_weightOf_10 (s12_1 c0) (by unfold vp_in; decide) (by decide) ?_
  refine g_icmp_ge 41 dX12_weightOf_11 (by decide) (fun q1 => ?_) (fun q1 => ?_)
  · refine g_iload_n 2 dX12_weightOf_41 rfl rfl ?_
    exact g_iret dX12_weightOf_42 rfl enSH (h1 q1)
  · refine g_iload_n 2 dX12_weightOf_14 rfl rfl ?_
    refine g_iload_n 1 dX12_weightOf_15 rfl rfl ?_
    refine g_iload_n 3 dX12_weightOf_16 rfl rfl ?_
    exact g_callS (As := [.int x1, .int x3]) (st := [.int x2]) dX12_weightOf_17 clX12_332 rfl rfl (Nat.le_of_ble_eq_true rfl) (rmSH (by decide) (by decide)) (h2 q1)
theorem bX12_weightOf_20 {X : pX} {Q : Option Value → pMem → Prop} {m : pMem} {a0 : Nat} {x1 : Int32} {x2 : Int32} {x3 : Int32} {xs0 : Int32} {xs1 : Int32} (hW : Wf m) (c0 : SH[a0]? = some (.inl 12))
    (h1 : xs0 = 0 → Go X 1 mX12_weightOf Q 4 [(0, .ref a0), (1, .int x1), (2, .int (xs1 + (0 : Int32))), (3, .int (x3 + (1 : Int32)))] [] m)
    (h2 : ¬ (xs0 = 0) → vp_in x3 6)
    (h3 : ¬ (xs0 = 0) → Go X 1 mX12_weightOf Q 4 [(0, .ref a0), (1, .int x1), (2, .int (xs1 + (mI m (a0 + 7) x3.toNatClampNeg))), (3, .int (x3 + (1 : Int32)))] [] m) :
    Go X 1 mX12_weightOf Q 20 [(0, .ref a0), (1, .int x1), (2, .int x2), (3, .int x3)] [.int xs0, .int xs1] m := by
  refine g_if_eq 32 dX12_weightOf_20 (by decide) (fun q1 => ?_) (fun q1 => ?_)
  · refine g_iconst (v := 0) dX12_weightOf_32 (by decide) ?_
    refine g_iadd dX12_weightOf_33 ?_
    refine g_istore_n (ls2 := [(2, .int (xs1 + (0 : Int32))), (0, .ref a0), (1, .int x1), (3, .int x3)]) dX12_weightOf_34 rfl (by decide) rfl ?_
    refine g_iinc (v := x3 + (1 : Int32)) (ls2 := [(3, .int (x3 + (1 : Int32))), (2, .int (xs1 + (0 : Int32))), (0, .ref a0), (1, .int x1)]) 3 dX12_weightOf_35 rfl rfl (by decide) rfl ?_
    refine g_goto 4 dX12_weightOf_38 (by decide) ?_
    exact g_ls [2, 3, 1, 0] rfl (h1 q1)
  · refine g_aload_n 0 dX12_weightOf_23 rfl rfl ?_
    refine g_getR dX12_weightOf_24 fl12_28 rfl c0 (w12_7 hW c0) ?_
    refine g_iload_n 3 dX12_weightOf_27 rfl rfl ?_
    refine g_iald (j := x3.toNatClampNeg) dX12_weightOf_28 (s12_7 c0) (h2 q1) rfl ?_
    refine g_goto 33 dX12_weightOf_29 (by decide) ?_
    refine g_iadd dX12_weightOf_33 ?_
    refine g_istore_n (ls2 := [(2, .int (xs1 + (mI m (a0 + 7) x3.toNatClampNeg))), (0, .ref a0), (1, .int x1), (3, .int x3)]) dX12_weightOf_34 rfl (by decide) rfl ?_
    refine g_iinc (v := x3 + (1 : Int32)) (ls2 := [(3, .int (x3 + (1 : Int32))), (2, .int (xs1 + (mI m (a0 + 7) x3.toNatClampNeg))), (0, .ref a0), (1, .int x1)]) 3 dX12_weightOf_35 rfl rfl (by decide) rfl ?_
    refine g_goto 4 dX12_weightOf_38 (by decide) ?_
    exact g_ls [2, 3, 1, 0] rfl (h3 q1)
theorem bX12_worthOf_0 {X : pX} {Q : Option Value → pMem → Prop} {m : pMem} {a0 : Nat} {x1 : Int32} (hW : Wf m) (c0 : SH[a0]? = some (.inl 12))
    (h1 : Go X 1 mX12_worthOf Q 4 [(0, .ref a0), (1, .int x1), (2, .int (0 : Int32)), (3, .int (0 : Int32))] [] m) :
    Go X 1 mX12_worthOf Q 0 [(0, .ref a0), (1, .int x1)] [] m := by
  refine g_iconst (v := 0) dX12_worthOf_0 (by decide) ?_
  refine g_istore_n (ls2 := [(2, .int (0 : Int32)), (0, .ref a0), (1, .int x1)]) dX12_worthOf_1 rfl (by decide) rfl ?_
  refine g_iconst (v := 0) dX12_worthOf_2 (by decide) ?_
  refine g_istore_n (ls2 := [(3, .int (0 : Int32)), (2, .int (0 : Int32)), (0, .ref a0), (1, .int x1)]) dX12_worthOf_3 rfl (by decide) rfl ?_
  exact g_ls [2, 3, 1, 0] rfl h1
theorem bX12_worthOf_4 {X : pX} {Q : Option Value → pMem → Prop} {m : pMem} {a0 : Nat} {x1 : Int32} {x2 : Int32} {x3 : Int32} (hW : Wf m) (c0 : SH[a0]? = some (.inl 12))
    (h1 : (mI m (a0 + 1) 4) ≤ x3 → Q (some (.int x2)) m)
    (h2 : ¬ ((mI m (a0 + 1) 4) ≤ x3) → Cl X 0 mX12_has [.int x1, .int x3] m (fun v m2 => Go X 1 mX12_worthOf Q 20 [(0, .ref a0), (1, .int x1), (2, .int x2), (3, .int x3)] (v.toList ++ [.int x2]) m2)) :
    Go X 1 mX12_worthOf Q 4 [(0, .ref a0), (1, .int x1), (2, .int x2), (3, .int x3)] [] m := by
  refine g_iload_n 3 dX12_worthOf_4 rfl rfl ?_
  refine g_aload_n 0 dX12_worthOf_5 rfl rfl ?_
  refine g_getR dX12_worthOf_6 fl12_9 rfl c0 (w12_1 hW c0) ?_
  refine g_iconst (v := 4) dX12_worthOf_9 (by decide) ?_
  refine g_iald (j := 4) dX12_worthOf_10 (s12_1 c0) (by unfold vp_in; decide) (by decide) ?_
  refine g_icmp_ge 41 dX12_worthOf_11 (by decide) (fun q1 => ?_) (fun q1 => ?_)
  · refine g_iload_n 2 dX12_worthOf_41 rfl rfl ?_
    exact g_iret dX12_worthOf_42 rfl enSH (h1 q1)
  · refine g_iload_n 2 dX12_worthOf_14 rfl rfl ?_
    refine g_iload_n 1 dX12_worthOf_15 rfl rfl ?_
    refine g_iload_n 3 dX12_worthOf_16 rfl rfl ?_
    exact g_callS (As := [.int x1, .int x3]) (st := [.int x2]) dX12_worthOf_17 clX12_332 rfl rfl (Nat.le_of_ble_eq_true rfl) (rmSH (by decide) (by decide)) (h2 q1)
theorem bX12_worthOf_20 {X : pX} {Q : Option Value → pMem → Prop} {m : pMem} {a0 : Nat} {x1 : Int32} {x2 : Int32} {x3 : Int32} {xs0 : Int32} {xs1 : Int32} (hW : Wf m) (c0 : SH[a0]? = some (.inl 12))
    (h1 : xs0 = 0 → Go X 1 mX12_worthOf Q 4 [(0, .ref a0), (1, .int x1), (2, .int (xs1 + (0 : Int32))), (3, .int (x3 + (1 : Int32)))] [] m)
    (h2 : ¬ (xs0 = 0) → vp_in x3 6)
    (h3 : ¬ (xs0 = 0) → Go X 1 mX12_worthOf Q 4 [(0, .ref a0), (1, .int x1), (2, .int (xs1 + (mI m (a0 + 8) x3.toNatClampNeg))), (3, .int (x3 + (1 : Int32)))] [] m) :
    Go X 1 mX12_worthOf Q 20 [(0, .ref a0), (1, .int x1), (2, .int x2), (3, .int x3)] [.int xs0, .int xs1] m := by
  refine g_if_eq 32 dX12_worthOf_20 (by decide) (fun q1 => ?_) (fun q1 => ?_)
  · refine g_iconst (v := 0) dX12_worthOf_32 (by decide) ?_
    refine g_iadd dX12_worthOf_33 ?_
    refine g_istore_n (ls2 := [(2, .int (xs1 + (0 : Int32))), (0, .ref a0), (1, .int x1), (3, .int x3)]) dX12_worthOf_34 rfl (by decide) rfl ?_
    refine g_iinc (v := x3 + (1 : Int32)) (ls2 := [(3, .int (x3 + (1 : Int32))), (2, .int (xs1 + (0 : Int32))), (0, .ref a0), (1, .int x1)]) 3 dX12_worthOf_35 rfl rfl (by decide) rfl ?_
    refine g_goto 4 dX12_worthOf_38 (by decide) ?_
    exact g_ls [2, 3, 1, 0] rfl (h1 q1)
  · refine g_aload_n 0 dX12_worthOf_23 rfl rfl ?_
    refine g_getR dX12_worthOf_24 fl12_31 rfl c0 (w12_8 hW c0) ?_
    refine g_iload_n 3 dX12_worthOf_27 rfl rfl ?_
    refine g_iald (j := x3.toNatClampNeg) dX12_worthOf_28 (s12_8 c0) (h2 q1) rfl ?_
    refine g_goto 33 dX12_worthOf_29 (by decide) ?_
    refine g_iadd dX12_worthOf_33 ?_
    refine g_istore_n (ls2 := [(2, .int (xs1 + (mI m (a0 + 8) x3.toNatClampNeg))), (0, .ref a0), (1, .int x1), (3, .int x3)]) dX12_worthOf_34 rfl (by decide) rfl ?_
    refine g_iinc (v := x3 + (1 : Int32)) (ls2 := [(3, .int (x3 + (1 : Int32))), (2, .int (xs1 + (mI m (a0 + 8) x3.toNatClampNeg))), (0, .ref a0), (1, .int x1)]) 3 dX12_worthOf_35 rfl rfl (by decide) rfl ?_
    refine g_goto 4 dX12_worthOf_38 (by decide) ?_
    exact g_ls [2, 3, 1, 0] rfl (h3 q1)
theorem bX12_person_0 {X : pX} {Q : Option Value → pMem → Prop} {m : pMem} {a0 : Nat} {x1 : Int32} {x2 : Int32} (hW : Wf m) (c0 : SH[a0]? = some (.inl 12))
    (h1 : Cl X 1 mX12_isPerson [.ref a0, .int x1] m (fun v m2 => Go X 2 mX12_person Q 5 [(0, .ref a0), (1, .int x1), (2, .int x2)] (v.toList ++ []) m2)) :
    Go X 2 mX12_person Q 0 [(0, .ref a0), (1, .int x1), (2, .int x2)] [] m := by
  refine g_aload_n 0 dX12_person_0 rfl rfl ?_
  refine g_iload_n 1 dX12_person_1 rfl rfl ?_
  exact g_callV (As := [.int x1]) (st := []) dX12_person_2 clX12_334 c0 rfl rfl (Nat.le_of_ble_eq_true rfl) (rmSH (by decide) (by decide)) h1
theorem bX12_person_5 {X : pX} {Q : Option Value → pMem → Prop} {m : pMem} {a0 : Nat} {x1 : Int32} {x2 : Int32} {xs0 : Int32} (hW : Wf m) (c0 : SH[a0]? = some (.inl 12))
    (h1 : ¬ xs0 = 0 → x2 = 0 → vp_in x1 4)
    (h2 : ¬ xs0 = 0 → x2 = 0 → Q (some (.int (mI m (a0 + 6) x1.toNatClampNeg))) m)
    (h3 : ¬ xs0 = 0 → ¬ x2 = 0 → x2 = 1 → vp_in x1 4)
    (h4 : ¬ xs0 = 0 → ¬ x2 = 0 → x2 = 1 → Q (some (.int (mI m (a0 + 2) x1.toNatClampNeg))) m)
    (h5 : ¬ xs0 = 0 → ¬ x2 = 0 → ¬ x2 = 1 → x2 = 2 → vp_in x1 4)
    (h6 : ¬ xs0 = 0 → ¬ x2 = 0 → ¬ x2 = 1 → x2 = 2 → Q (some (.int (mI m (a0 + 3) x1.toNatClampNeg))) m)
    (h7 : ¬ xs0 = 0 → ¬ x2 = 0 → ¬ x2 = 1 → ¬ x2 = 2 → x2 = 3 → Cl X 0 mX12_thingsOf [.ref a0, .int x1] m (fun v m2 => Go X 2 mX12_person Q 74 [(0, .ref a0), (1, .int x1), (2, .int x2)] (v.toList ++ []) m2))
    (h8 : ¬ xs0 = 0 → ¬ x2 = 0 → ¬ x2 = 1 → ¬ x2 = 2 → ¬ x2 = 3 → x2 = 4 → Cl X 0 mX12_thingsOf [.ref a0, .int x1] m (fun v m2 => Go X 2 mX12_person Q 81 [(0, .ref a0), (1, .int x1), (2, .int x2)] (v.toList ++ [.ref a0]) m2))
    (h9 : ¬ xs0 = 0 → ¬ x2 = 0 → ¬ x2 = 1 → ¬ x2 = 2 → ¬ x2 = 3 → ¬ x2 = 4 → x2 = 5 → Cl X 0 mX12_thingsOf [.ref a0, .int x1] m (fun v m2 => Go X 2 mX12_person Q 91 [(0, .ref a0), (1, .int x1), (2, .int x2)] (v.toList ++ [.ref a0]) m2))
    (h10 : ¬ xs0 = 0 → ¬ x2 = 0 → ¬ x2 = 1 → ¬ x2 = 2 → ¬ x2 = 3 → ¬ x2 = 4 → ¬ x2 = 5 → Q (some (.int (-1 : Int32))) m)
    (h11 : xs0 = 0 → Q (some (.int (-1 : Int32))) m) :
    Go X 2 mX12_person Q 5 [(0, .ref a0), (1, .int x1), (2, .int x2)] [.int xs0] m := by
  refine g_if_ne 10 dX12_person_5 (by decide) (fun q1 => ?_) (fun q1 => ?_)
  · refine g_iload_n 2 dX12_person_10 rfl rfl ?_
    by_cases q2 : x2 = 0
    · refine g_tabIn 48 dX12_person_11 (by rw [q2]; decide) (by rw [q2]; decide) (by rw [q2]; rfl) (by decide) ?_
      refine g_aload_n 0 dX12_person_48 rfl rfl ?_
      refine g_getR dX12_person_49 fl12_25 rfl c0 (w12_6 hW c0) ?_
      refine g_iload_n 1 dX12_person_52 rfl rfl ?_
      refine g_iald (j := x1.toNatClampNeg) dX12_person_53 (s12_6 c0) (h1 q1 q2) rfl ?_
      exact g_iret dX12_person_54 rfl enSH (h2 q1 q2)
    by_cases q3 : x2 = 1
    · refine g_tabIn 55 dX12_person_11 (by rw [q3]; decide) (by rw [q3]; decide) (by rw [q3]; rfl) (by decide) ?_
      refine g_aload_n 0 dX12_person_55 rfl rfl ?_
      refine g_getR dX12_person_56 fl12_13 rfl c0 (w12_2 hW c0) ?_
      refine g_iload_n 1 dX12_person_59 rfl rfl ?_
      refine g_iald (j := x1.toNatClampNeg) dX12_person_60 (s12_2 c0) (h3 q1 q2 q3) rfl ?_
      exact g_iret dX12_person_61 rfl enSH (h4 q1 q2 q3)
    by_cases q4 : x2 = 2
    · refine g_tabIn 62 dX12_person_11 (by rw [q4]; decide) (by rw [q4]; decide) (by rw [q4]; rfl) (by decide) ?_
      refine g_aload_n 0 dX12_person_62 rfl rfl ?_
      refine g_getR dX12_person_63 fl12_16 rfl c0 (w12_3 hW c0) ?_
      refine g_iload_n 1 dX12_person_66 rfl rfl ?_
      refine g_iald (j := x1.toNatClampNeg) dX12_person_67 (s12_3 c0) (h5 q1 q2 q3 q4) rfl ?_
      exact g_iret dX12_person_68 rfl enSH (h6 q1 q2 q3 q4)
    by_cases q5 : x2 = 3
    · refine g_tabIn 69 dX12_person_11 (by rw [q5]; decide) (by rw [q5]; decide) (by rw [q5]; rfl) (by decide) ?_
      refine g_aload_n 0 dX12_person_69 rfl rfl ?_
      refine g_iload_n 1 dX12_person_70 rfl rfl ?_
      exact g_callV (As := [.int x1]) (st := []) dX12_person_71 clX12_338 c0 rfl rfl (Nat.le_of_ble_eq_true rfl) (rmSH (by decide) (by decide)) (h7 q1 q2 q3 q4 q5)
    by_cases q6 : x2 = 4
    · refine g_tabIn 75 dX12_person_11 (by rw [q6]; decide) (by rw [q6]; decide) (by rw [q6]; rfl) (by decide) ?_
      refine g_aload_n 0 dX12_person_75 rfl rfl ?_
      refine g_aload_n 0 dX12_person_76 rfl rfl ?_
      refine g_iload_n 1 dX12_person_77 rfl rfl ?_
      exact g_callV (As := [.int x1]) (st := [.ref a0]) dX12_person_78 clX12_338 c0 rfl rfl (Nat.le_of_ble_eq_true rfl) (rmSH (by decide) (by decide)) (h8 q1 q2 q3 q4 q5 q6)
    by_cases q7 : x2 = 5
    · refine g_tabIn 85 dX12_person_11 (by rw [q7]; decide) (by rw [q7]; decide) (by rw [q7]; rfl) (by decide) ?_
      refine g_aload_n 0 dX12_person_85 rfl rfl ?_
      refine g_aload_n 0 dX12_person_86 rfl rfl ?_
      refine g_iload_n 1 dX12_person_87 rfl rfl ?_
      exact g_callV (As := [.int x1]) (st := [.ref a0]) dX12_person_88 clX12_338 c0 rfl rfl (Nat.le_of_ble_eq_true rfl) (rmSH (by decide) (by decide)) (h9 q1 q2 q3 q4 q5 q6 q7)
    refine g_tabOut 95 dX12_person_11 (p_tabD (fun k hk1 hk2 => ?_)) (by decide) ?_
    · have hk : k = 0 ∨ k = 1 ∨ k = 2 ∨ k = 3 ∨ k = 4 ∨ k = 5 := by omega
      rcases hk with rfl | rfl | rfl | rfl | rfl | rfl
      · exact q2
      · exact q3
      · exact q4
      · exact q5
      · exact q6
      · exact q7
    refine g_iconst (v := -1) dX12_person_95 (by decide) ?_
    exact g_iret dX12_person_96 rfl enSH (h10 q1 q2 q3 q4 q5 q6 q7)
  · refine g_iconst (v := -1) dX12_person_8 (by decide) ?_
    exact g_iret dX12_person_9 rfl enSH (h11 q1)
theorem bX12_person_74 {X : pX} {Q : Option Value → pMem → Prop} {m : pMem} {a0 : Nat} {x1 : Int32} {x2 : Int32} {xs0 : Int32} (hW : Wf m) (c0 : SH[a0]? = some (.inl 12))
    (h1 : Q (some (.int xs0)) m) :
    Go X 2 mX12_person Q 74 [(0, .ref a0), (1, .int x1), (2, .int x2)] [.int xs0] m := by
  exact g_iret dX12_person_74 rfl enSH h1
theorem bX12_person_81 {X : pX} {Q : Option Value → pMem → Prop} {m : pMem} {a0 : Nat} {x1 : Int32} {x2 : Int32} {xs0 : Int32} {as1 : Nat} (hW : Wf m) (c0 : SH[a0]? = some (.inl 12)) (cs1 : SH[as1]? = some (.inl 12))
    (h1 : Cl X 1 mX12_weightOf [.ref as1, .int xs0] m (fun v m2 => Go X 2 mX12_person Q 84 [(0, .ref a0), (1, .int x1), (2, .int x2)] (v.toList ++ []) m2)) :
    Go X 2 mX12_person Q 81 [(0, .ref a0), (1, .int x1), (2, .int x2)] [.int xs0, .ref as1] m := by
  exact g_callV (As := [.int xs0]) (st := []) dX12_person_81 clX12_341 cs1 rfl rfl (Nat.le_of_ble_eq_true rfl) (rmSH (by decide) (by decide)) h1
theorem bX12_person_91 {X : pX} {Q : Option Value → pMem → Prop} {m : pMem} {a0 : Nat} {x1 : Int32} {x2 : Int32} {xs0 : Int32} {as1 : Nat} (hW : Wf m) (c0 : SH[a0]? = some (.inl 12)) (cs1 : SH[as1]? = some (.inl 12))
    (h1 : Cl X 1 mX12_worthOf [.ref as1, .int xs0] m (fun v m2 => Go X 2 mX12_person Q 94 [(0, .ref a0), (1, .int x1), (2, .int x2)] (v.toList ++ []) m2)) :
    Go X 2 mX12_person Q 91 [(0, .ref a0), (1, .int x1), (2, .int x2)] [.int xs0, .ref as1] m := by
  exact g_callV (As := [.int xs0]) (st := []) dX12_person_91 clX12_344 cs1 rfl rfl (Nat.le_of_ble_eq_true rfl) (rmSH (by decide) (by decide)) h1
theorem bX12_person_84 {X : pX} {Q : Option Value → pMem → Prop} {m : pMem} {a0 : Nat} {x1 : Int32} {x2 : Int32} {xs0 : Int32} (hW : Wf m) (c0 : SH[a0]? = some (.inl 12))
    (h1 : Q (some (.int xs0)) m) :
    Go X 2 mX12_person Q 84 [(0, .ref a0), (1, .int x1), (2, .int x2)] [.int xs0] m := by
  exact g_iret dX12_person_84 rfl enSH h1
theorem bX12_person_94 {X : pX} {Q : Option Value → pMem → Prop} {m : pMem} {a0 : Nat} {x1 : Int32} {x2 : Int32} {xs0 : Int32} (hW : Wf m) (c0 : SH[a0]? = some (.inl 12))
    (h1 : Q (some (.int xs0)) m) :
    Go X 2 mX12_person Q 94 [(0, .ref a0), (1, .int x1), (2, .int x2)] [.int xs0] m := by
  exact g_iret dX12_person_94 rfl enSH h1
theorem bX12_thing_0 {X : pX} {Q : Option Value → pMem → Prop} {m : pMem} {a0 : Nat} {x1 : Int32} {x2 : Int32} (hW : Wf m) (c0 : SH[a0]? = some (.inl 12))
    (h1 : Cl X 1 mX12_isThing [.ref a0, .int x1] m (fun v m2 => Go X 2 mX12_thing Q 5 [(0, .ref a0), (1, .int x1), (2, .int x2)] (v.toList ++ []) m2)) :
    Go X 2 mX12_thing Q 0 [(0, .ref a0), (1, .int x1), (2, .int x2)] [] m := by
  refine g_aload_n 0 dX12_thing_0 rfl rfl ?_
  refine g_iload_n 1 dX12_thing_1 rfl rfl ?_
  exact g_callV (As := [.int x1]) (st := []) dX12_thing_2 clX12_347 c0 rfl rfl (Nat.le_of_ble_eq_true rfl) (rmSH (by decide) (by decide)) h1
theorem bX12_thing_5 {X : pX} {Q : Option Value → pMem → Prop} {m : pMem} {a0 : Nat} {x1 : Int32} {x2 : Int32} {xs0 : Int32} (hW : Wf m) (c0 : SH[a0]? = some (.inl 12))
    (h1 : xs0 = 0 → Q (some (.int (-2 : Int32))) m)
    (h2 : ¬ (xs0 = 0) → Cl X 0 mX12_in [.long x2.toInt64, .long (0 : Int64), .long (2 : Int64)] m (fun v m2 => Go X 2 mX12_thing Q 17 [(0, .ref a0), (1, .int x1), (2, .int x2)] (v.toList ++ []) m2)) :
    Go X 2 mX12_thing Q 5 [(0, .ref a0), (1, .int x1), (2, .int x2)] [.int xs0] m := by
  refine g_if_eq 20 dX12_thing_5 (by decide) (fun q1 => ?_) (fun q1 => ?_)
  · refine g_bipush (v := -2) dX12_thing_20 (by decide) ?_
    exact g_iret dX12_thing_22 rfl enSH (h1 q1)
  · refine g_iload_n 2 dX12_thing_8 rfl rfl ?_
    refine g_i2l dX12_thing_9 ?_
    refine g_lconst (v := 0) dX12_thing_10 (by decide) ?_
    refine g_ldc2 (v := 2) dX12_thing_11 cjX12_350 ?_
    exact g_callS (As := [.long x2.toInt64, .long (0 : Int64), .long (2 : Int64)]) (st := []) dX12_thing_14 clX12_128 rfl rfl (Nat.le_of_ble_eq_true rfl) (rmSH (by decide) (by decide)) (h2 q1)
theorem bX12_thing_17 {X : pX} {Q : Option Value → pMem → Prop} {m : pMem} {a0 : Nat} {x1 : Int32} {x2 : Int32} {xs0 : Int32} (hW : Wf m) (c0 : SH[a0]? = some (.inl 12))
    (h1 : ¬ xs0 = 0 → ¬ x2 = 0 → ¬ x2 = (1 : Int32) → vp_in x1 6)
    (h2 : ¬ xs0 = 0 → ¬ x2 = 0 → ¬ x2 = (1 : Int32) → Q (some (.int (mI m (a0 + 4) x1.toNatClampNeg))) m)
    (h3 : ¬ xs0 = 0 → ¬ x2 = 0 → x2 = (1 : Int32) → vp_in x1 6)
    (h4 : ¬ xs0 = 0 → ¬ x2 = 0 → x2 = (1 : Int32) → Q (some (.int (mI m (a0 + 8) x1.toNatClampNeg))) m)
    (h5 : ¬ xs0 = 0 → x2 = 0 → vp_in x1 6)
    (h6 : ¬ xs0 = 0 → x2 = 0 → Q (some (.int (mI m (a0 + 7) x1.toNatClampNeg))) m)
    (h7 : xs0 = 0 → Q (some (.int (-2 : Int32))) m) :
    Go X 2 mX12_thing Q 17 [(0, .ref a0), (1, .int x1), (2, .int x2)] [.int xs0] m := by
  refine g_if_ne 23 dX12_thing_17 (by decide) (fun q1 => ?_) (fun q1 => ?_)
  · refine g_iload_n 2 dX12_thing_23 rfl rfl ?_
    refine g_if_ne 36 dX12_thing_24 (by decide) (fun q2 => ?_) (fun q2 => ?_)
    · refine g_iload_n 2 dX12_thing_36 rfl rfl ?_
      refine g_iconst (v := 1) dX12_thing_37 (by decide) ?_
      refine g_icmp_ne 50 dX12_thing_38 (by decide) (fun q3 => ?_) (fun q3 => ?_)
      · refine g_aload_n 0 dX12_thing_50 rfl rfl ?_
        refine g_getR dX12_thing_51 fl12_19 rfl c0 (w12_4 hW c0) ?_
        refine g_iload_n 1 dX12_thing_54 rfl rfl ?_
        refine g_iald (j := x1.toNatClampNeg) dX12_thing_55 (s12_4 c0) (h1 q1 q2 q3) rfl ?_
        exact g_iret dX12_thing_56 rfl enSH (h2 q1 q2 q3)
      · refine g_aload_n 0 dX12_thing_41 rfl rfl ?_
        refine g_getR dX12_thing_42 fl12_31 rfl c0 (w12_8 hW c0) ?_
        refine g_iload_n 1 dX12_thing_45 rfl rfl ?_
        refine g_iald (j := x1.toNatClampNeg) dX12_thing_46 (s12_8 c0) (h3 q1 q2 q3) rfl ?_
        refine g_goto 56 dX12_thing_47 (by decide) ?_
        exact g_iret dX12_thing_56 rfl enSH (h4 q1 q2 q3)
    · refine g_aload_n 0 dX12_thing_27 rfl rfl ?_
      refine g_getR dX12_thing_28 fl12_28 rfl c0 (w12_7 hW c0) ?_
      refine g_iload_n 1 dX12_thing_31 rfl rfl ?_
      refine g_iald (j := x1.toNatClampNeg) dX12_thing_32 (s12_7 c0) (h5 q1 q2) rfl ?_
      refine g_goto 56 dX12_thing_33 (by decide) ?_
      exact g_iret dX12_thing_56 rfl enSH (h6 q1 q2)
  · refine g_bipush (v := -2) dX12_thing_20 (by decide) ?_
    exact g_iret dX12_thing_22 rfl enSH (h7 q1)
theorem bX12_stage_0 {X : pX} {Q : Option Value → pMem → Prop} {m : pMem} {a0 : Nat} {x1 : Int32} (hW : Wf m) (c0 : SH[a0]? = some (.inl 12))
    (h1 : Cl X 0 mX12_in [.long x1.toInt64, .long (0 : Int64), .long (((mI m (a0 + 1) 2) - (1 : Int32)).toInt64)] m (fun v m2 => Go X 1 mX12_stage Q 15 [(0, .ref a0), (1, .int x1)] (v.toList ++ []) m2)) :
    Go X 1 mX12_stage Q 0 [(0, .ref a0), (1, .int x1)] [] m := by
  refine g_iload_n 1 dX12_stage_0 rfl rfl ?_
  refine g_i2l dX12_stage_1 ?_
  refine g_lconst (v := 0) dX12_stage_2 (by decide) ?_
  refine g_aload_n 0 dX12_stage_3 rfl rfl ?_
  refine g_getR dX12_stage_4 fl12_9 rfl c0 (w12_1 hW c0) ?_
  refine g_iconst (v := 2) dX12_stage_7 (by decide) ?_
  refine g_iald (j := 2) dX12_stage_8 (s12_1 c0) (by unfold vp_in; decide) (by decide) ?_
  refine g_iconst (v := 1) dX12_stage_9 (by decide) ?_
  refine g_isub dX12_stage_10 ?_
  refine g_i2l dX12_stage_11 ?_
  exact g_callS (As := [.long x1.toInt64, .long (0 : Int64), .long (((mI m (a0 + 1) 2) - (1 : Int32)).toInt64)]) (st := []) dX12_stage_12 clX12_128 rfl rfl (Nat.le_of_ble_eq_true rfl) (rmSH (by decide) (by decide)) h1
theorem bX12_stage_15 {X : pX} {Q : Option Value → pMem → Prop} {m : pMem} {a0 : Nat} {x1 : Int32} {xs0 : Int32} (hW : Wf m) (c0 : SH[a0]? = some (.inl 12))
    (h1 : xs0 = 0 → Q (some (.int (-1 : Int32))) m)
    (h2 : ¬ (xs0 = 0) → vp_in x1 8)
    (h3 : ¬ (xs0 = 0) → Q (some (.int (mI m (a0 + 5) x1.toNatClampNeg))) m) :
    Go X 1 mX12_stage Q 15 [(0, .ref a0), (1, .int x1)] [.int xs0] m := by
  refine g_if_eq 27 dX12_stage_15 (by decide) (fun q1 => ?_) (fun q1 => ?_)
  · refine g_iconst (v := -1) dX12_stage_27 (by decide) ?_
    exact g_iret dX12_stage_28 rfl enSH (h1 q1)
  · refine g_aload_n 0 dX12_stage_18 rfl rfl ?_
    refine g_getR dX12_stage_19 fl12_22 rfl c0 (w12_5 hW c0) ?_
    refine g_iload_n 1 dX12_stage_22 rfl rfl ?_
    refine g_iald (j := x1.toNatClampNeg) dX12_stage_23 (s12_5 c0) (h2 q1) rfl ?_
    refine g_goto 28 dX12_stage_24 (by decide) ?_
    exact g_iret dX12_stage_28 rfl enSH (h3 q1)
theorem bX12_inTown_0 {X : pX} {Q : Option Value → pMem → Prop} {m : pMem} {a0 : Nat} (hW : Wf m) (c0 : SH[a0]? = some (.inl 12))
    (h1 : Go X 1 mX12_inTown Q 4 [(0, .ref a0), (1, .int (0 : Int32)), (2, .int (0 : Int32))] [] m) :
    Go X 1 mX12_inTown Q 0 [(0, .ref a0)] [] m := by
  refine g_iconst (v := 0) dX12_inTown_0 (by decide) ?_
  refine g_istore_n (ls2 := [(1, .int (0 : Int32)), (0, .ref a0)]) dX12_inTown_1 rfl (by decide) rfl ?_
  refine g_iconst (v := 0) dX12_inTown_2 (by decide) ?_
  refine g_istore_n (ls2 := [(2, .int (0 : Int32)), (1, .int (0 : Int32)), (0, .ref a0)]) dX12_inTown_3 rfl (by decide) rfl ?_
  exact g_ls [2, 1, 0] rfl h1
theorem bX12_inTown_4 {X : pX} {Q : Option Value → pMem → Prop} {m : pMem} {a0 : Nat} {x1 : Int32} {x2 : Int32} (hW : Wf m) (c0 : SH[a0]? = some (.inl 12))
    (h1 : (mI m (a0 + 1) 3) ≤ x2 → Q (some (.int x1)) m)
    (h2 : ¬ ((mI m (a0 + 1) 3) ≤ x2) → vp_in x2 4)
    (h3 : ¬ ((mI m (a0 + 1) 3) ≤ x2) → Cl X 0 mX12_town [.ref a0] m (fun v m2 => Go X 1 mX12_inTown Q 25 [(0, .ref a0), (1, .int x1), (2, .int x2)] (v.toList ++ [.int (mI m (a0 + 2) x2.toNatClampNeg), .int x1]) m2)) :
    Go X 1 mX12_inTown Q 4 [(0, .ref a0), (1, .int x1), (2, .int x2)] [] m := by
  refine g_iload_n 2 dX12_inTown_4 rfl rfl ?_
  refine g_aload_n 0 dX12_inTown_5 rfl rfl ?_
  refine g_getR dX12_inTown_6 fl12_9 rfl c0 (w12_1 hW c0) ?_
  refine g_iconst (v := 3) dX12_inTown_9 (by decide) ?_
  refine g_iald (j := 3) dX12_inTown_10 (s12_1 c0) (by unfold vp_in; decide) (by decide) ?_
  refine g_icmp_ge 43 dX12_inTown_11 (by decide) (fun q1 => ?_) (fun q1 => ?_)
  · refine g_iload_n 1 dX12_inTown_43 rfl rfl ?_
    exact g_iret dX12_inTown_44 rfl enSH (h1 q1)
  · refine g_iload_n 1 dX12_inTown_14 rfl rfl ?_
    refine g_aload_n 0 dX12_inTown_15 rfl rfl ?_
    refine g_getR dX12_inTown_16 fl12_13 rfl c0 (w12_2 hW c0) ?_
    refine g_iload_n 2 dX12_inTown_19 rfl rfl ?_
    refine g_iald (j := x2.toNatClampNeg) dX12_inTown_20 (s12_2 c0) (h2 q1) rfl ?_
    refine g_aload_n 0 dX12_inTown_21 rfl rfl ?_
    exact g_callV (As := []) (st := [.int (mI m (a0 + 2) x2.toNatClampNeg), .int x1]) dX12_inTown_22 clX12_352 c0 rfl rfl (Nat.le_of_ble_eq_true rfl) (rmSH (by decide) (by decide)) (h3 q1)
theorem bX12_inTown_25 {X : pX} {Q : Option Value → pMem → Prop} {m : pMem} {a0 : Nat} {x1 : Int32} {x2 : Int32} {xs0 : Int32} {xs1 : Int32} {xs2 : Int32} (hW : Wf m) (c0 : SH[a0]? = some (.inl 12))
    (h1 : ¬ xs1 = xs0 → Go X 1 mX12_inTown Q 4 [(0, .ref a0), (1, .int (xs2 ||| (0 : Int32))), (2, .int (x2 + (1 : Int32)))] [] m)
    (h2 : xs1 = xs0 → Go X 1 mX12_inTown Q 4 [(0, .ref a0), (1, .int (xs2 ||| ((1 : Int32) <<< (x2 &&& 31)))), (2, .int (x2 + (1 : Int32)))] [] m) :
    Go X 1 mX12_inTown Q 25 [(0, .ref a0), (1, .int x1), (2, .int x2)] [.int xs0, .int xs1, .int xs2] m := by
  refine g_icmp_ne 34 dX12_inTown_25 (by decide) (fun q1 => ?_) (fun q1 => ?_)
  · refine g_iconst (v := 0) dX12_inTown_34 (by decide) ?_
    refine g_ior dX12_inTown_35 ?_
    refine g_istore_n (ls2 := [(1, .int (xs2 ||| (0 : Int32))), (0, .ref a0), (2, .int x2)]) dX12_inTown_36 rfl (by decide) rfl ?_
    refine g_iinc (v := x2 + (1 : Int32)) (ls2 := [(2, .int (x2 + (1 : Int32))), (1, .int (xs2 ||| (0 : Int32))), (0, .ref a0)]) 2 dX12_inTown_37 rfl rfl (by decide) rfl ?_
    refine g_goto 4 dX12_inTown_40 (by decide) ?_
    exact g_ls [2, 1, 0] rfl (h1 q1)
  · refine g_iconst (v := 1) dX12_inTown_28 (by decide) ?_
    refine g_iload_n 2 dX12_inTown_29 rfl rfl ?_
    refine g_ishl dX12_inTown_30 ?_
    refine g_goto 35 dX12_inTown_31 (by decide) ?_
    refine g_ior dX12_inTown_35 ?_
    refine g_istore_n (ls2 := [(1, .int (xs2 ||| ((1 : Int32) <<< (x2 &&& 31)))), (0, .ref a0), (2, .int x2)]) dX12_inTown_36 rfl (by decide) rfl ?_
    refine g_iinc (v := x2 + (1 : Int32)) (ls2 := [(2, .int (x2 + (1 : Int32))), (1, .int (xs2 ||| ((1 : Int32) <<< (x2 &&& 31)))), (0, .ref a0)]) 2 dX12_inTown_37 rfl rfl (by decide) rfl ?_
    refine g_goto 4 dX12_inTown_40 (by decide) ?_
    exact g_ls [2, 1, 0] rfl (h2 q1)
theorem bX12_wealthNow_0 {X : pX} {Q : Option Value → pMem → Prop} {m : pMem} {a0 : Nat} (hW : Wf m) (c0 : SH[a0]? = some (.inl 12))
    (h1 : Cl X 0 mX12_town [.ref a0] m (fun v m2 => Go X 2 mX12_wealthNow Q 8 [(0, .ref a0)] (v.toList ++ [.int (10 : Int32), .ref a0, .ref a0]) m2)) :
    Go X 2 mX12_wealthNow Q 0 [(0, .ref a0)] [] m := by
  refine g_aload_n 0 dX12_wealthNow_0 rfl rfl ?_
  refine g_aload_n 0 dX12_wealthNow_1 rfl rfl ?_
  refine g_bipush (v := 10) dX12_wealthNow_2 (by decide) ?_
  refine g_aload_n 0 dX12_wealthNow_4 rfl rfl ?_
  exact g_callV (As := []) (st := [.int (10 : Int32), .ref a0, .ref a0]) dX12_wealthNow_5 clX12_352 c0 rfl rfl (Nat.le_of_ble_eq_true rfl) (rmSH (by decide) (by decide)) h1
theorem bX12_wealthNow_8 {X : pX} {Q : Option Value → pMem → Prop} {m : pMem} {a0 : Nat} {xs0 : Int32} {as2 : Nat} {as3 : Nat} (hW : Wf m) (c0 : SH[a0]? = some (.inl 12)) (cs2 : SH[as2]? = some (.inl 12)) (cs3 : SH[as3]? = some (.inl 12))
    (h1 : Cl X 0 mX12_thingsOf [.ref as2, .int ((10 : Int32) + xs0)] m (fun v m2 => Go X 2 mX12_wealthNow Q 12 [(0, .ref a0)] (v.toList ++ [.ref as3]) m2)) :
    Go X 2 mX12_wealthNow Q 8 [(0, .ref a0)] [.int xs0, .int (10 : Int32), .ref as2, .ref as3] m := by
  refine g_iadd dX12_wealthNow_8 ?_
  exact g_callV (As := [.int ((10 : Int32) + xs0)]) (st := [.ref as3]) dX12_wealthNow_9 clX12_338 cs2 rfl rfl (Nat.le_of_ble_eq_true rfl) (rmSH (by decide) (by decide)) h1
theorem bX12_wealthNow_12 {X : pX} {Q : Option Value → pMem → Prop} {m : pMem} {a0 : Nat} {xs0 : Int32} {as1 : Nat} (hW : Wf m) (c0 : SH[a0]? = some (.inl 12)) (cs1 : SH[as1]? = some (.inl 12))
    (h1 : Cl X 1 mX12_worthOf [.ref as1, .int xs0] m (fun v m2 => Go X 2 mX12_wealthNow Q 15 [(0, .ref a0)] (v.toList ++ []) m2)) :
    Go X 2 mX12_wealthNow Q 12 [(0, .ref a0)] [.int xs0, .ref as1] m := by
  exact g_callV (As := [.int xs0]) (st := []) dX12_wealthNow_12 clX12_344 cs1 rfl rfl (Nat.le_of_ble_eq_true rfl) (rmSH (by decide) (by decide)) h1
theorem bX12_wealthNow_15 {X : pX} {Q : Option Value → pMem → Prop} {m : pMem} {a0 : Nat} {xs0 : Int32} (hW : Wf m) (c0 : SH[a0]? = some (.inl 12))
    (h1 : Go X 2 mX12_wealthNow Q 18 [(0, .ref a0), (1, .int xs0), (2, .int (0 : Int32))] [] m) :
    Go X 2 mX12_wealthNow Q 15 [(0, .ref a0)] [.int xs0] m := by
  refine g_istore_n (ls2 := [(1, .int xs0), (0, .ref a0)]) dX12_wealthNow_15 rfl (by decide) rfl ?_
  refine g_iconst (v := 0) dX12_wealthNow_16 (by decide) ?_
  refine g_istore_n (ls2 := [(2, .int (0 : Int32)), (1, .int xs0), (0, .ref a0)]) dX12_wealthNow_17 rfl (by decide) rfl ?_
  exact g_ls [2, 1, 0] rfl h1
theorem bX12_wealthNow_18 {X : pX} {Q : Option Value → pMem → Prop} {m : pMem} {a0 : Nat} {x1 : Int32} {x2 : Int32} (hW : Wf m) (c0 : SH[a0]? = some (.inl 12))
    (h1 : (mI m (a0 + 1) 3) ≤ x2 → Q (some (.int x1)) m)
    (h2 : ¬ ((mI m (a0 + 1) 3) ≤ x2) → vp_in x2 4)
    (h3 : ¬ ((mI m (a0 + 1) 3) ≤ x2) → Cl X 0 mX12_town [.ref a0] m (fun v m2 => Go X 2 mX12_wealthNow Q 39 [(0, .ref a0), (1, .int x1), (2, .int x2)] (v.toList ++ [.int (mI m (a0 + 2) x2.toNatClampNeg), .int x1]) m2)) :
    Go X 2 mX12_wealthNow Q 18 [(0, .ref a0), (1, .int x1), (2, .int x2)] [] m := by
  refine g_iload_n 2 dX12_wealthNow_18 rfl rfl ?_
  refine g_aload_n 0 dX12_wealthNow_19 rfl rfl ?_
  refine g_getR dX12_wealthNow_20 fl12_9 rfl c0 (w12_1 hW c0) ?_
  refine g_iconst (v := 3) dX12_wealthNow_23 (by decide) ?_
  refine g_iald (j := 3) dX12_wealthNow_24 (s12_1 c0) (by unfold vp_in; decide) (by decide) ?_
  refine g_icmp_ge 63 dX12_wealthNow_25 (by decide) (fun q1 => ?_) (fun q1 => ?_)
  · refine g_iload_n 1 dX12_wealthNow_63 rfl rfl ?_
    exact g_iret dX12_wealthNow_64 rfl enSH (h1 q1)
  · refine g_iload_n 1 dX12_wealthNow_28 rfl rfl ?_
    refine g_aload_n 0 dX12_wealthNow_29 rfl rfl ?_
    refine g_getR dX12_wealthNow_30 fl12_13 rfl c0 (w12_2 hW c0) ?_
    refine g_iload_n 2 dX12_wealthNow_33 rfl rfl ?_
    refine g_iald (j := x2.toNatClampNeg) dX12_wealthNow_34 (s12_2 c0) (h2 q1) rfl ?_
    refine g_aload_n 0 dX12_wealthNow_35 rfl rfl ?_
    exact g_callV (As := []) (st := [.int (mI m (a0 + 2) x2.toNatClampNeg), .int x1]) dX12_wealthNow_36 clX12_352 c0 rfl rfl (Nat.le_of_ble_eq_true rfl) (rmSH (by decide) (by decide)) (h3 q1)
theorem bX12_wealthNow_39 {X : pX} {Q : Option Value → pMem → Prop} {m : pMem} {a0 : Nat} {x1 : Int32} {x2 : Int32} {xs0 : Int32} {xs1 : Int32} {xs2 : Int32} (hW : Wf m) (c0 : SH[a0]? = some (.inl 12))
    (h1 : ¬ xs1 = xs0 → Go X 2 mX12_wealthNow Q 18 [(0, .ref a0), (1, .int (xs2 + (0 : Int32))), (2, .int (x2 + (1 : Int32)))] [] m)
    (h2 : xs1 = xs0 → Cl X 0 mX12_thingsOf [.ref a0, .int x2] m (fun v m2 => Go X 2 mX12_wealthNow Q 48 [(0, .ref a0), (1, .int x1), (2, .int x2)] (v.toList ++ [.ref a0, .int xs2]) m2)) :
    Go X 2 mX12_wealthNow Q 39 [(0, .ref a0), (1, .int x1), (2, .int x2)] [.int xs0, .int xs1, .int xs2] m := by
  refine g_icmp_ne 54 dX12_wealthNow_39 (by decide) (fun q1 => ?_) (fun q1 => ?_)
  · refine g_iconst (v := 0) dX12_wealthNow_54 (by decide) ?_
    refine g_iadd dX12_wealthNow_55 ?_
    refine g_istore_n (ls2 := [(1, .int (xs2 + (0 : Int32))), (0, .ref a0), (2, .int x2)]) dX12_wealthNow_56 rfl (by decide) rfl ?_
    refine g_iinc (v := x2 + (1 : Int32)) (ls2 := [(2, .int (x2 + (1 : Int32))), (1, .int (xs2 + (0 : Int32))), (0, .ref a0)]) 2 dX12_wealthNow_57 rfl rfl (by decide) rfl ?_
    refine g_goto 18 dX12_wealthNow_60 (by decide) ?_
    exact g_ls [2, 1, 0] rfl (h1 q1)
  · refine g_aload_n 0 dX12_wealthNow_42 rfl rfl ?_
    refine g_aload_n 0 dX12_wealthNow_43 rfl rfl ?_
    refine g_iload_n 2 dX12_wealthNow_44 rfl rfl ?_
    exact g_callV (As := [.int x2]) (st := [.ref a0, .int xs2]) dX12_wealthNow_45 clX12_338 c0 rfl rfl (Nat.le_of_ble_eq_true rfl) (rmSH (by decide) (by decide)) (h2 q1)
theorem bX12_wealthNow_48 {X : pX} {Q : Option Value → pMem → Prop} {m : pMem} {a0 : Nat} {x1 : Int32} {x2 : Int32} {xs0 : Int32} {as1 : Nat} {xs2 : Int32} (hW : Wf m) (c0 : SH[a0]? = some (.inl 12)) (cs1 : SH[as1]? = some (.inl 12))
    (h1 : Cl X 1 mX12_worthOf [.ref as1, .int xs0] m (fun v m2 => Go X 2 mX12_wealthNow Q 51 [(0, .ref a0), (1, .int x1), (2, .int x2)] (v.toList ++ [.int xs2]) m2)) :
    Go X 2 mX12_wealthNow Q 48 [(0, .ref a0), (1, .int x1), (2, .int x2)] [.int xs0, .ref as1, .int xs2] m := by
  exact g_callV (As := [.int xs0]) (st := [.int xs2]) dX12_wealthNow_48 clX12_344 cs1 rfl rfl (Nat.le_of_ble_eq_true rfl) (rmSH (by decide) (by decide)) h1
theorem bX12_wealthNow_51 {X : pX} {Q : Option Value → pMem → Prop} {m : pMem} {a0 : Nat} {x1 : Int32} {x2 : Int32} {xs0 : Int32} {xs1 : Int32} (hW : Wf m) (c0 : SH[a0]? = some (.inl 12))
    (h1 : Go X 2 mX12_wealthNow Q 18 [(0, .ref a0), (1, .int (xs1 + xs0)), (2, .int (x2 + (1 : Int32)))] [] m) :
    Go X 2 mX12_wealthNow Q 51 [(0, .ref a0), (1, .int x1), (2, .int x2)] [.int xs0, .int xs1] m := by
  refine g_goto 55 dX12_wealthNow_51 (by decide) ?_
  refine g_iadd dX12_wealthNow_55 ?_
  refine g_istore_n (ls2 := [(1, .int (xs1 + xs0)), (0, .ref a0), (2, .int x2)]) dX12_wealthNow_56 rfl (by decide) rfl ?_
  refine g_iinc (v := x2 + (1 : Int32)) (ls2 := [(2, .int (x2 + (1 : Int32))), (1, .int (xs1 + xs0)), (0, .ref a0)]) 2 dX12_wealthNow_57 rfl rfl (by decide) rfl ?_
  refine g_goto 18 dX12_wealthNow_60 (by decide) ?_
  exact g_ls [2, 1, 0] rfl h1
theorem bX12_wants_0 {X : pX} {Q : Option Value → pMem → Prop} {m : pMem} {a0 : Nat} {x1 : Int32} {x2 : Int32} (hW : Wf m) (c0 : SH[a0]? = some (.inl 12))
    (h1 : vp_in x2 6)
    (h2 : vp_in x2 6)
    (h3 : vp_in x2 6)
    (h4 : ¬ (mI (uL (uL (uL (uL m (a0 + 27) 0 x1.toInt64) (a0 + 27) 1 x2.toInt64) (a0 + 27) 2 ((mI (uL (uL m (a0 + 27) 0 x1.toInt64) (a0 + 27) 1 x2.toInt64) (a0 + 7) x2.toNatClampNeg).toInt64)) (a0 + 27) 3 ((mI (uL (uL (uL m (a0 + 27) 0 x1.toInt64) (a0 + 27) 1 x2.toInt64) (a0 + 27) 2 ((mI (uL (uL m (a0 + 27) 0 x1.toInt64) (a0 + 27) 1 x2.toInt64) (a0 + 7) x2.toNatClampNeg).toInt64)) (a0 + 8) x2.toNatClampNeg).toInt64)) (a0 + 4) x2.toNatClampNeg) = x1 → Cl X 0 mX12_thingsOf [.ref a0, .int x1] (uL (uL (uL (uL (uL m (a0 + 27) 0 x1.toInt64) (a0 + 27) 1 x2.toInt64) (a0 + 27) 2 ((mI (uL (uL m (a0 + 27) 0 x1.toInt64) (a0 + 27) 1 x2.toInt64) (a0 + 7) x2.toNatClampNeg).toInt64)) (a0 + 27) 3 ((mI (uL (uL (uL m (a0 + 27) 0 x1.toInt64) (a0 + 27) 1 x2.toInt64) (a0 + 27) 2 ((mI (uL (uL m (a0 + 27) 0 x1.toInt64) (a0 + 27) 1 x2.toInt64) (a0 + 7) x2.toNatClampNeg).toInt64)) (a0 + 8) x2.toNatClampNeg).toInt64)) (a0 + 27) 4 (0 : Int64)) (fun v m2 => Go X 4 mX12_wants Q 73 [(0, .ref a0), (1, .int x1), (2, .int x2)] (v.toList ++ [.int (5 : Int32), .ref (a0 + 27)]) m2))
    (h5 : (mI (uL (uL (uL (uL m (a0 + 27) 0 x1.toInt64) (a0 + 27) 1 x2.toInt64) (a0 + 27) 2 ((mI (uL (uL m (a0 + 27) 0 x1.toInt64) (a0 + 27) 1 x2.toInt64) (a0 + 7) x2.toNatClampNeg).toInt64)) (a0 + 27) 3 ((mI (uL (uL (uL m (a0 + 27) 0 x1.toInt64) (a0 + 27) 1 x2.toInt64) (a0 + 27) 2 ((mI (uL (uL m (a0 + 27) 0 x1.toInt64) (a0 + 27) 1 x2.toInt64) (a0 + 7) x2.toNatClampNeg).toInt64)) (a0 + 8) x2.toNatClampNeg).toInt64)) (a0 + 4) x2.toNatClampNeg) = x1 → Cl X 0 mX12_thingsOf [.ref a0, .int x1] (uL (uL (uL (uL (uL m (a0 + 27) 0 x1.toInt64) (a0 + 27) 1 x2.toInt64) (a0 + 27) 2 ((mI (uL (uL m (a0 + 27) 0 x1.toInt64) (a0 + 27) 1 x2.toInt64) (a0 + 7) x2.toNatClampNeg).toInt64)) (a0 + 27) 3 ((mI (uL (uL (uL m (a0 + 27) 0 x1.toInt64) (a0 + 27) 1 x2.toInt64) (a0 + 27) 2 ((mI (uL (uL m (a0 + 27) 0 x1.toInt64) (a0 + 27) 1 x2.toInt64) (a0 + 7) x2.toNatClampNeg).toInt64)) (a0 + 8) x2.toNatClampNeg).toInt64)) (a0 + 27) 4 (1 : Int64)) (fun v m2 => Go X 4 mX12_wants Q 73 [(0, .ref a0), (1, .int x1), (2, .int x2)] (v.toList ++ [.int (5 : Int32), .ref (a0 + 27)]) m2)) :
    Go X 4 mX12_wants Q 0 [(0, .ref a0), (1, .int x1), (2, .int x2)] [] m := by
  refine g_aload_n 0 dX12_wants_0 rfl rfl ?_
  refine g_getR dX12_wants_1 fl12_93 rfl c0 (w12_37 hW c0) ?_
  refine g_iconst (v := 0) dX12_wants_4 (by decide) ?_
  refine g_iload_n 1 dX12_wants_5 rfl rfl ?_
  refine g_i2l dX12_wants_6 ?_
  refine g_last (j := 0) dX12_wants_7 (s12_37 c0) (by unfold vp_in; decide) (by decide) ?_
  refine g_aload_n 0 dX12_wants_8 rfl rfl ?_
  refine g_getR dX12_wants_9 fl12_93 rfl c0 (w12_37 hW c0) ?_
  refine g_iconst (v := 1) dX12_wants_12 (by decide) ?_
  refine g_iload_n 2 dX12_wants_13 rfl rfl ?_
  refine g_i2l dX12_wants_14 ?_
  refine g_last (j := 1) dX12_wants_15 (s12_37 c0) (by unfold vp_in; decide) (by decide) ?_
  refine g_aload_n 0 dX12_wants_16 rfl rfl ?_
  refine g_getR dX12_wants_17 fl12_93 rfl c0 (w12_37 hW c0) ?_
  refine g_iconst (v := 2) dX12_wants_20 (by decide) ?_
  refine g_aload_n 0 dX12_wants_21 rfl rfl ?_
  refine g_getR dX12_wants_22 fl12_28 rfl c0 (w12_7 hW c0) ?_
  refine g_iload_n 2 dX12_wants_25 rfl rfl ?_
  refine g_iald (j := x2.toNatClampNeg) dX12_wants_26 (s12_7 c0) h1 rfl ?_
  refine g_i2l dX12_wants_27 ?_
  refine g_last (j := 2) dX12_wants_28 (s12_37 c0) (by unfold vp_in; decide) (by decide) ?_
  refine g_aload_n 0 dX12_wants_29 rfl rfl ?_
  refine g_getR dX12_wants_30 fl12_93 rfl c0 (w12_37 hW c0) ?_
  refine g_iconst (v := 3) dX12_wants_33 (by decide) ?_
  refine g_aload_n 0 dX12_wants_34 rfl rfl ?_
  refine g_getR dX12_wants_35 fl12_31 rfl c0 (w12_8 hW c0) ?_
  refine g_iload_n 2 dX12_wants_38 rfl rfl ?_
  refine g_iald (j := x2.toNatClampNeg) dX12_wants_39 (s12_8 c0) h2 rfl ?_
  refine g_i2l dX12_wants_40 ?_
  refine g_last (j := 3) dX12_wants_41 (s12_37 c0) (by unfold vp_in; decide) (by decide) ?_
  refine g_aload_n 0 dX12_wants_42 rfl rfl ?_
  refine g_getR dX12_wants_43 fl12_93 rfl c0 (w12_37 hW c0) ?_
  refine g_iconst (v := 4) dX12_wants_46 (by decide) ?_
  refine g_aload_n 0 dX12_wants_47 rfl rfl ?_
  refine g_getR dX12_wants_48 fl12_19 rfl c0 (w12_4 hW c0) ?_
  refine g_iload_n 2 dX12_wants_51 rfl rfl ?_
  refine g_iald (j := x2.toNatClampNeg) dX12_wants_52 (s12_4 c0) h3 rfl ?_
  refine g_iload_n 1 dX12_wants_53 rfl rfl ?_
  refine g_icmp_ne 61 dX12_wants_54 (by decide) (fun q1 => ?_) (fun q1 => ?_)
  · refine g_lconst (v := 0) dX12_wants_61 (by decide) ?_
    refine g_last (j := 4) dX12_wants_62 (s12_37 c0) (by unfold vp_in; decide) (by decide) ?_
    refine g_aload_n 0 dX12_wants_63 rfl rfl ?_
    refine g_getR dX12_wants_64 fl12_93 rfl c0 (w12_37 hW c0) ?_
    refine g_iconst (v := 5) dX12_wants_67 (by decide) ?_
    refine g_aload_n 0 dX12_wants_68 rfl rfl ?_
    refine g_iload_n 1 dX12_wants_69 rfl rfl ?_
    exact g_callV (As := [.int x1]) (st := [.int (5 : Int32), .ref (a0 + 27)]) dX12_wants_70 clX12_338 c0 rfl rfl (Nat.le_of_ble_eq_true rfl) (rmSH (by decide) (by decide)) (h4 q1)
  · refine g_lconst (v := 1) dX12_wants_57 (by decide) ?_
    refine g_goto 62 dX12_wants_58 (by decide) ?_
    refine g_last (j := 4) dX12_wants_62 (s12_37 c0) (by unfold vp_in; decide) (by decide) ?_
    refine g_aload_n 0 dX12_wants_63 rfl rfl ?_
    refine g_getR dX12_wants_64 fl12_93 rfl c0 (w12_37 hW c0) ?_
    refine g_iconst (v := 5) dX12_wants_67 (by decide) ?_
    refine g_aload_n 0 dX12_wants_68 rfl rfl ?_
    refine g_iload_n 1 dX12_wants_69 rfl rfl ?_
    exact g_callV (As := [.int x1]) (st := [.int (5 : Int32), .ref (a0 + 27)]) dX12_wants_70 clX12_338 c0 rfl rfl (Nat.le_of_ble_eq_true rfl) (rmSH (by decide) (by decide)) (h5 q1)
theorem bX12_wants_73 {X : pX} {Q : Option Value → pMem → Prop} {m : pMem} {a0 : Nat} {x1 : Int32} {x2 : Int32} {xs0 : Int32} {as2 : Nat} (hW : Wf m) (c0 : SH[a0]? = some (.inl 12)) (cs2 : SH[as2]? = some (.inr (.long, 12)))
    (h1 : Cl X 0 mX12_bits [.int xs0] m (fun v m2 => Go X 4 mX12_wants Q 76 [(0, .ref a0), (1, .int x1), (2, .int x2)] (v.toList ++ [.int (5 : Int32), .ref as2]) m2)) :
    Go X 4 mX12_wants Q 73 [(0, .ref a0), (1, .int x1), (2, .int x2)] [.int xs0, .int (5 : Int32), .ref as2] m := by
  exact g_callS (As := [.int xs0]) (st := [.int (5 : Int32), .ref as2]) dX12_wants_73 clX12_355 rfl rfl (Nat.le_of_ble_eq_true rfl) (rmSH (by decide) (by decide)) h1
theorem bX12_wants_76 {X : pX} {Q : Option Value → pMem → Prop} {m : pMem} {a0 : Nat} {x1 : Int32} {x2 : Int32} {xs0 : Int32} {as2 : Nat} (hW : Wf m) (c0 : SH[a0]? = some (.inl 12)) (cs2 : SH[as2]? = some (.inr (.long, 12)))
    (h1 : Cl X 0 mX12_thingsOf [.ref a0, .int x1] (uL m as2 5 xs0.toInt64) (fun v m2 => Go X 4 mX12_wants Q 90 [(0, .ref a0), (1, .int x1), (2, .int x2)] (v.toList ++ [.ref a0, .int (6 : Int32), .ref (a0 + 27)]) m2)) :
    Go X 4 mX12_wants Q 76 [(0, .ref a0), (1, .int x1), (2, .int x2)] [.int xs0, .int (5 : Int32), .ref as2] m := by
  refine g_i2l dX12_wants_76 ?_
  refine g_last (j := 5) dX12_wants_77 cs2 (by unfold vp_in; decide) (by decide) ?_
  refine g_aload_n 0 dX12_wants_78 rfl rfl ?_
  refine g_getR dX12_wants_79 fl12_93 rfl c0 (w12_37 hW c0) ?_
  refine g_bipush (v := 6) dX12_wants_82 (by decide) ?_
  refine g_aload_n 0 dX12_wants_84 rfl rfl ?_
  refine g_aload_n 0 dX12_wants_85 rfl rfl ?_
  refine g_iload_n 1 dX12_wants_86 rfl rfl ?_
  exact g_callV (As := [.int x1]) (st := [.ref a0, .int (6 : Int32), .ref (a0 + 27)]) dX12_wants_87 clX12_338 c0 rfl rfl (Nat.le_of_ble_eq_true rfl) (rmSH (by decide) (by decide)) h1
theorem bX12_wants_90 {X : pX} {Q : Option Value → pMem → Prop} {m : pMem} {a0 : Nat} {x1 : Int32} {x2 : Int32} {xs0 : Int32} {as1 : Nat} {as3 : Nat} (hW : Wf m) (c0 : SH[a0]? = some (.inl 12)) (cs1 : SH[as1]? = some (.inl 12)) (cs3 : SH[as3]? = some (.inr (.long, 12)))
    (h1 : Cl X 1 mX12_weightOf [.ref as1, .int xs0] m (fun v m2 => Go X 4 mX12_wants Q 93 [(0, .ref a0), (1, .int x1), (2, .int x2)] (v.toList ++ [.int (6 : Int32), .ref as3]) m2)) :
    Go X 4 mX12_wants Q 90 [(0, .ref a0), (1, .int x1), (2, .int x2)] [.int xs0, .ref as1, .int (6 : Int32), .ref as3] m := by
  exact g_callV (As := [.int xs0]) (st := [.int (6 : Int32), .ref as3]) dX12_wants_90 clX12_341 cs1 rfl rfl (Nat.le_of_ble_eq_true rfl) (rmSH (by decide) (by decide)) h1
theorem bX12_wants_93 {X : pX} {Q : Option Value → pMem → Prop} {m : pMem} {a0 : Nat} {x1 : Int32} {x2 : Int32} {xs0 : Int32} {as2 : Nat} (hW : Wf m) (c0 : SH[a0]? = some (.inl 12)) (cs2 : SH[as2]? = some (.inr (.long, 12)))
    (h1 : vp_in x1 4)
    (h2 : Cl X 0 mX12_town [.ref a0] (uL (uL m as2 6 xs0.toInt64) (a0 + 27) 7 ((mI (uL m as2 6 xs0.toInt64) (a0 + 2) x1.toNatClampNeg).toInt64)) (fun v m2 => Go X 4 mX12_wants Q 119 [(0, .ref a0), (1, .int x1), (2, .int x2)] (v.toList ++ [.int (8 : Int32), .ref (a0 + 27)]) m2)) :
    Go X 4 mX12_wants Q 93 [(0, .ref a0), (1, .int x1), (2, .int x2)] [.int xs0, .int (6 : Int32), .ref as2] m := by
  refine g_i2l dX12_wants_93 ?_
  refine g_last (j := 6) dX12_wants_94 cs2 (by unfold vp_in; decide) (by decide) ?_
  refine g_aload_n 0 dX12_wants_95 rfl rfl ?_
  refine g_getR dX12_wants_96 fl12_93 rfl c0 (w12_37 hW c0) ?_
  refine g_bipush (v := 7) dX12_wants_99 (by decide) ?_
  refine g_aload_n 0 dX12_wants_101 rfl rfl ?_
  refine g_getR dX12_wants_102 fl12_13 rfl c0 (w12_2 hW c0) ?_
  refine g_iload_n 1 dX12_wants_105 rfl rfl ?_
  refine g_iald (j := x1.toNatClampNeg) dX12_wants_106 (s12_2 c0) h1 rfl ?_
  refine g_i2l dX12_wants_107 ?_
  refine g_last (j := 7) dX12_wants_108 (s12_37 c0) (by unfold vp_in; decide) (by decide) ?_
  refine g_aload_n 0 dX12_wants_109 rfl rfl ?_
  refine g_getR dX12_wants_110 fl12_93 rfl c0 (w12_37 hW c0) ?_
  refine g_bipush (v := 8) dX12_wants_113 (by decide) ?_
  refine g_aload_n 0 dX12_wants_115 rfl rfl ?_
  exact g_callV (As := []) (st := [.int (8 : Int32), .ref (a0 + 27)]) dX12_wants_116 clX12_352 c0 rfl rfl (Nat.le_of_ble_eq_true rfl) (rmSH (by decide) (by decide)) h2
theorem bX12_wants_119 {X : pX} {Q : Option Value → pMem → Prop} {m : pMem} {a0 : Nat} {x1 : Int32} {x2 : Int32} {xs0 : Int32} {as2 : Nat} (hW : Wf m) (c0 : SH[a0]? = some (.inl 12)) (cs2 : SH[as2]? = some (.inr (.long, 12)))
    (h1 : vp_in x1 4)
    (h2 : vp_in x1 4)
    (h3 : vp_in x1 4)
    (h4 : vp_in (mI (uL (uL m as2 8 ((xs0 - (mI m (a0 + 2) x1.toNatClampNeg)).toInt64)) (a0 + 27) 9 ((mI (uL m as2 8 ((xs0 - (mI m (a0 + 2) x1.toNatClampNeg)).toInt64)) (a0 + 6) x1.toNatClampNeg).toInt64)) (a0 + 2) x1.toNatClampNeg) 8)
    (h5 : Cl X 3 mX12_wanted [.ref a0] (uL (uL (uL (uL m as2 8 ((xs0 - (mI m (a0 + 2) x1.toNatClampNeg)).toInt64)) (a0 + 27) 9 ((mI (uL m as2 8 ((xs0 - (mI m (a0 + 2) x1.toNatClampNeg)).toInt64)) (a0 + 6) x1.toNatClampNeg).toInt64)) (a0 + 27) 10 ((mI (uL (uL m as2 8 ((xs0 - (mI m (a0 + 2) x1.toNatClampNeg)).toInt64)) (a0 + 27) 9 ((mI (uL m as2 8 ((xs0 - (mI m (a0 + 2) x1.toNatClampNeg)).toInt64)) (a0 + 6) x1.toNatClampNeg).toInt64)) (a0 + 5) ((mI (uL (uL m as2 8 ((xs0 - (mI m (a0 + 2) x1.toNatClampNeg)).toInt64)) (a0 + 27) 9 ((mI (uL m as2 8 ((xs0 - (mI m (a0 + 2) x1.toNatClampNeg)).toInt64)) (a0 + 6) x1.toNatClampNeg).toInt64)) (a0 + 2) x1.toNatClampNeg).toNatClampNeg)).toInt64)) (a0 + 27) 11 ((mI (uL (uL (uL m as2 8 ((xs0 - (mI m (a0 + 2) x1.toNatClampNeg)).toInt64)) (a0 + 27) 9 ((mI (uL m as2 8 ((xs0 - (mI m (a0 + 2) x1.toNatClampNeg)).toInt64)) (a0 + 6) x1.toNatClampNeg).toInt64)) (a0 + 27) 10 ((mI (uL (uL m as2 8 ((xs0 - (mI m (a0 + 2) x1.toNatClampNeg)).toInt64)) (a0 + 27) 9 ((mI (uL m as2 8 ((xs0 - (mI m (a0 + 2) x1.toNatClampNeg)).toInt64)) (a0 + 6) x1.toNatClampNeg).toInt64)) (a0 + 5) ((mI (uL (uL m as2 8 ((xs0 - (mI m (a0 + 2) x1.toNatClampNeg)).toInt64)) (a0 + 27) 9 ((mI (uL m as2 8 ((xs0 - (mI m (a0 + 2) x1.toNatClampNeg)).toInt64)) (a0 + 6) x1.toNatClampNeg).toInt64)) (a0 + 2) x1.toNatClampNeg).toNatClampNeg)).toInt64)) (a0 + 1) 5).toInt64)) (fun v m2 => Go X 4 mX12_wants Q 179 [(0, .ref a0), (1, .int x1), (2, .int x2)] (v.toList ++ []) m2)) :
    Go X 4 mX12_wants Q 119 [(0, .ref a0), (1, .int x1), (2, .int x2)] [.int xs0, .int (8 : Int32), .ref as2] m := by
  refine g_aload_n 0 dX12_wants_119 rfl rfl ?_
  refine g_getR dX12_wants_120 fl12_13 rfl c0 (w12_2 hW c0) ?_
  refine g_iload_n 1 dX12_wants_123 rfl rfl ?_
  refine g_iald (j := x1.toNatClampNeg) dX12_wants_124 (s12_2 c0) h1 rfl ?_
  refine g_isub dX12_wants_125 ?_
  refine g_i2l dX12_wants_126 ?_
  refine g_last (j := 8) dX12_wants_127 cs2 (by unfold vp_in; decide) (by decide) ?_
  refine g_aload_n 0 dX12_wants_128 rfl rfl ?_
  refine g_getR dX12_wants_129 fl12_93 rfl c0 (w12_37 hW c0) ?_
  refine g_bipush (v := 9) dX12_wants_132 (by decide) ?_
  refine g_aload_n 0 dX12_wants_134 rfl rfl ?_
  refine g_getR dX12_wants_135 fl12_25 rfl c0 (w12_6 hW c0) ?_
  refine g_iload_n 1 dX12_wants_138 rfl rfl ?_
  refine g_iald (j := x1.toNatClampNeg) dX12_wants_139 (s12_6 c0) h2 rfl ?_
  refine g_i2l dX12_wants_140 ?_
  refine g_last (j := 9) dX12_wants_141 (s12_37 c0) (by unfold vp_in; decide) (by decide) ?_
  refine g_aload_n 0 dX12_wants_142 rfl rfl ?_
  refine g_getR dX12_wants_143 fl12_93 rfl c0 (w12_37 hW c0) ?_
  refine g_bipush (v := 10) dX12_wants_146 (by decide) ?_
  refine g_aload_n 0 dX12_wants_148 rfl rfl ?_
  refine g_getR dX12_wants_149 fl12_22 rfl c0 (w12_5 hW c0) ?_
  refine g_aload_n 0 dX12_wants_152 rfl rfl ?_
  refine g_getR dX12_wants_153 fl12_13 rfl c0 (w12_2 hW c0) ?_
  refine g_iload_n 1 dX12_wants_156 rfl rfl ?_
  refine g_iald (j := x1.toNatClampNeg) dX12_wants_157 (s12_2 c0) h3 rfl ?_
  refine g_iald (j := (mI (uL (uL m as2 8 ((xs0 - (mI m (a0 + 2) x1.toNatClampNeg)).toInt64)) (a0 + 27) 9 ((mI (uL m as2 8 ((xs0 - (mI m (a0 + 2) x1.toNatClampNeg)).toInt64)) (a0 + 6) x1.toNatClampNeg).toInt64)) (a0 + 2) x1.toNatClampNeg).toNatClampNeg) dX12_wants_158 (s12_5 c0) h4 rfl ?_
  refine g_i2l dX12_wants_159 ?_
  refine g_last (j := 10) dX12_wants_160 (s12_37 c0) (by unfold vp_in; decide) (by decide) ?_
  refine g_aload_n 0 dX12_wants_161 rfl rfl ?_
  refine g_getR dX12_wants_162 fl12_93 rfl c0 (w12_37 hW c0) ?_
  refine g_bipush (v := 11) dX12_wants_165 (by decide) ?_
  refine g_aload_n 0 dX12_wants_167 rfl rfl ?_
  refine g_getR dX12_wants_168 fl12_9 rfl c0 (w12_1 hW c0) ?_
  refine g_iconst (v := 5) dX12_wants_171 (by decide) ?_
  refine g_iald (j := 5) dX12_wants_172 (s12_1 c0) (by unfold vp_in; decide) (by decide) ?_
  refine g_i2l dX12_wants_173 ?_
  refine g_last (j := 11) dX12_wants_174 (s12_37 c0) (by unfold vp_in; decide) (by decide) ?_
  refine g_aload_n 0 dX12_wants_175 rfl rfl ?_
  exact g_callV (As := []) (st := []) dX12_wants_176 clX12_358 c0 rfl rfl (Nat.le_of_ble_eq_true rfl) (rmSH (by decide) (by decide)) h5
theorem bX12_wants_179 {X : pX} {Q : Option Value → pMem → Prop} {m : pMem} {a0 : Nat} {x1 : Int32} {x2 : Int32} {ys0 : Int64} (hW : Wf m) (c0 : SH[a0]? = some (.inl 12))
    (h1 : (lg_cmp ys0 (0 : Int64)) ≤ 0 → Q (some (.int (0 : Int32))) m)
    (h2 : ¬ ((lg_cmp ys0 (0 : Int64)) ≤ 0) → Q (some (.int (1 : Int32))) m) :
    Go X 4 mX12_wants Q 179 [(0, .ref a0), (1, .int x1), (2, .int x2)] [.long ys0] m := by
  refine g_lconst (v := 0) dX12_wants_179 (by decide) ?_
  refine g_lcmp dX12_wants_180 ?_
  refine g_if_le 188 dX12_wants_181 (by decide) (fun q1 => ?_) (fun q1 => ?_)
  · refine g_iconst (v := 0) dX12_wants_188 (by decide) ?_
    exact g_bret dX12_wants_189 rfl (Or.inl rfl) enSH (h1 q1)
  · refine g_iconst (v := 1) dX12_wants_184 (by decide) ?_
    refine g_goto 189 dX12_wants_185 (by decide) ?_
    exact g_bret dX12_wants_189 rfl (Or.inr rfl) enSH (h2 q1)
theorem bX12_packs_0 {X : pX} {Q : Option Value → pMem → Prop} {m : pMem} {a0 : Nat} {x1 : Int32} (hW : Wf m) (c0 : SH[a0]? = some (.inl 12))
    (h1 : Go X 5 mX12_packs Q 2 [(0, .ref a0), (1, .int x1), (2, .int (0 : Int32))] [] m) :
    Go X 5 mX12_packs Q 0 [(0, .ref a0), (1, .int x1)] [] m := by
  refine g_iconst (v := 0) dX12_packs_0 (by decide) ?_
  refine g_istore_n (ls2 := [(2, .int (0 : Int32)), (0, .ref a0), (1, .int x1)]) dX12_packs_1 rfl (by decide) rfl ?_
  exact g_ls [1, 2, 0] rfl h1
theorem bX12_packs_2 {X : pX} {Q : Option Value → pMem → Prop} {m : pMem} {a0 : Nat} {x1 : Int32} {x2 : Int32} (hW : Wf m) (c0 : SH[a0]? = some (.inl 12))
    (h1 : (mI m (a0 + 1) 4) ≤ x2 → Q none m)
    (h2 : ¬ ((mI m (a0 + 1) 4) ≤ x2) → vp_in x2 6)
    (h3 : ¬ ((mI m (a0 + 1) 4) ≤ x2) → (mI m (a0 + 4) x2.toNatClampNeg) = x1 → Cl X 4 mX12_wants [.ref a0, .int x1, .int x2] m (fun v m2 => Go X 5 mX12_packs Q 46 [(0, .ref a0), (1, .int x1), (2, .int x2)] (v.toList ++ []) m2))
    (h4 : ¬ ((mI m (a0 + 1) 4) ≤ x2) → ¬ ((mI m (a0 + 4) x2.toNatClampNeg) = x1) → vp_in x2 6)
    (h5 : ¬ ((mI m (a0 + 1) 4) ≤ x2) → ¬ ((mI m (a0 + 4) x2.toNatClampNeg) = x1) → vp_in x1 4)
    (h6 : ¬ ((mI m (a0 + 1) 4) ≤ x2) → ¬ ((mI m (a0 + 4) x2.toNatClampNeg) = x1) → ¬ (mI m (a0 + 4) x2.toNatClampNeg) = ((10 : Int32) + (mI m (a0 + 2) x1.toNatClampNeg)) → Go X 5 mX12_packs Q 2 [(0, .ref a0), (1, .int x1), (2, .int (x2 + (1 : Int32)))] [] m)
    (h7 : ¬ ((mI m (a0 + 1) 4) ≤ x2) → ¬ ((mI m (a0 + 4) x2.toNatClampNeg) = x1) → (mI m (a0 + 4) x2.toNatClampNeg) = ((10 : Int32) + (mI m (a0 + 2) x1.toNatClampNeg)) → Cl X 4 mX12_wants [.ref a0, .int x1, .int x2] m (fun v m2 => Go X 5 mX12_packs Q 46 [(0, .ref a0), (1, .int x1), (2, .int x2)] (v.toList ++ []) m2)) :
    Go X 5 mX12_packs Q 2 [(0, .ref a0), (1, .int x1), (2, .int x2)] [] m := by
  refine g_iload_n 2 dX12_packs_2 rfl rfl ?_
  refine g_aload_n 0 dX12_packs_3 rfl rfl ?_
  refine g_getR dX12_packs_4 fl12_9 rfl c0 (w12_1 hW c0) ?_
  refine g_iconst (v := 4) dX12_packs_7 (by decide) ?_
  refine g_iald (j := 4) dX12_packs_8 (s12_1 c0) (by unfold vp_in; decide) (by decide) ?_
  refine g_icmp_ge 97 dX12_packs_9 (by decide) (fun q1 => ?_) (fun q1 => ?_)
  · exact g_vret dX12_packs_97 rfl enSH (h1 q1)
  · refine g_aload_n 0 dX12_packs_12 rfl rfl ?_
    refine g_getR dX12_packs_13 fl12_19 rfl c0 (w12_4 hW c0) ?_
    refine g_iload_n 2 dX12_packs_16 rfl rfl ?_
    refine g_iald (j := x2.toNatClampNeg) dX12_packs_17 (s12_4 c0) (h2 q1) rfl ?_
    refine g_iload_n 1 dX12_packs_18 rfl rfl ?_
    refine g_icmp_eq 40 dX12_packs_19 (by decide) (fun q2 => ?_) (fun q2 => ?_)
    · refine g_aload_n 0 dX12_packs_40 rfl rfl ?_
      refine g_iload_n 1 dX12_packs_41 rfl rfl ?_
      refine g_iload_n 2 dX12_packs_42 rfl rfl ?_
      exact g_callV (As := [.int x1, .int x2]) (st := []) dX12_packs_43 clX12_362 c0 rfl rfl (Nat.le_of_ble_eq_true rfl) (rmSH (by decide) (by decide)) (h3 q1 q2)
    · refine g_aload_n 0 dX12_packs_22 rfl rfl ?_
      refine g_getR dX12_packs_23 fl12_19 rfl c0 (w12_4 hW c0) ?_
      refine g_iload_n 2 dX12_packs_26 rfl rfl ?_
      refine g_iald (j := x2.toNatClampNeg) dX12_packs_27 (s12_4 c0) (h4 q1 q2) rfl ?_
      refine g_bipush (v := 10) dX12_packs_28 (by decide) ?_
      refine g_aload_n 0 dX12_packs_30 rfl rfl ?_
      refine g_getR dX12_packs_31 fl12_13 rfl c0 (w12_2 hW c0) ?_
      refine g_iload_n 1 dX12_packs_34 rfl rfl ?_
      refine g_iald (j := x1.toNatClampNeg) dX12_packs_35 (s12_2 c0) (h5 q1 q2) rfl ?_
      refine g_iadd dX12_packs_36 ?_
      refine g_icmp_ne 91 dX12_packs_37 (by decide) (fun q3 => ?_) (fun q3 => ?_)
      · refine g_iinc (v := x2 + (1 : Int32)) (ls2 := [(2, .int (x2 + (1 : Int32))), (0, .ref a0), (1, .int x1)]) 2 dX12_packs_91 rfl rfl (by decide) rfl ?_
        refine g_goto 2 dX12_packs_94 (by decide) ?_
        exact g_ls [1, 2, 0] rfl (h6 q1 q2 q3)
      · refine g_aload_n 0 dX12_packs_40 rfl rfl ?_
        refine g_iload_n 1 dX12_packs_41 rfl rfl ?_
        refine g_iload_n 2 dX12_packs_42 rfl rfl ?_
        exact g_callV (As := [.int x1, .int x2]) (st := []) dX12_packs_43 clX12_362 c0 rfl rfl (Nat.le_of_ble_eq_true rfl) (rmSH (by decide) (by decide)) (h7 q1 q2 q3)
theorem bX12_packs_46 {X : pX} {Q : Option Value → pMem → Prop} {m : pMem} {a0 : Nat} {x1 : Int32} {x2 : Int32} {xs0 : Int32} (hW : Wf m) (c0 : SH[a0]? = some (.inl 12))
    (h1 : ¬ xs0 = 0 → Cl X 0 mX12_thingsOf [.ref a0, .int x1] m (fun v m2 => Go X 5 mX12_packs Q 72 [(0, .ref a0), (1, .int x1), (2, .int x2)] (v.toList ++ []) m2))
    (h2 : xs0 = 0 → vp_in x1 4)
    (h3 : xs0 = 0 → vp_in x2 6)
    (h4 : xs0 = 0 → Go X 5 mX12_packs Q 2 [(0, .ref a0), (1, .int x1), (2, .int (x2 + (1 : Int32)))] [] (uI m (a0 + 4) x2.toNatClampNeg ((10 : Int32) + (mI m (a0 + 2) x1.toNatClampNeg)))) :
    Go X 5 mX12_packs Q 46 [(0, .ref a0), (1, .int x1), (2, .int x2)] [.int xs0] m := by
  refine g_if_ne 67 dX12_packs_46 (by decide) (fun q1 => ?_) (fun q1 => ?_)
  · refine g_aload_n 0 dX12_packs_67 rfl rfl ?_
    refine g_iload_n 1 dX12_packs_68 rfl rfl ?_
    exact g_callV (As := [.int x1]) (st := []) dX12_packs_69 clX12_338 c0 rfl rfl (Nat.le_of_ble_eq_true rfl) (rmSH (by decide) (by decide)) (h1 q1)
  · refine g_aload_n 0 dX12_packs_49 rfl rfl ?_
    refine g_getR dX12_packs_50 fl12_19 rfl c0 (w12_4 hW c0) ?_
    refine g_iload_n 2 dX12_packs_53 rfl rfl ?_
    refine g_bipush (v := 10) dX12_packs_54 (by decide) ?_
    refine g_aload_n 0 dX12_packs_56 rfl rfl ?_
    refine g_getR dX12_packs_57 fl12_13 rfl c0 (w12_2 hW c0) ?_
    refine g_iload_n 1 dX12_packs_60 rfl rfl ?_
    refine g_iald (j := x1.toNatClampNeg) dX12_packs_61 (s12_2 c0) (h2 q1) rfl ?_
    refine g_iadd dX12_packs_62 ?_
    refine g_iast (j := x2.toNatClampNeg) dX12_packs_63 (s12_4 c0) (h3 q1) rfl ?_
    refine g_goto 91 dX12_packs_64 (by decide) ?_
    refine g_iinc (v := x2 + (1 : Int32)) (ls2 := [(2, .int (x2 + (1 : Int32))), (0, .ref a0), (1, .int x1)]) 2 dX12_packs_91 rfl rfl (by decide) rfl ?_
    refine g_goto 2 dX12_packs_94 (by decide) ?_
    exact g_ls [1, 2, 0] rfl (h4 q1)
theorem bX12_packs_72 {X : pX} {Q : Option Value → pMem → Prop} {m : pMem} {a0 : Nat} {x1 : Int32} {x2 : Int32} {xs0 : Int32} (hW : Wf m) (c0 : SH[a0]? = some (.inl 12))
    (h1 : Cl X 0 mX12_bits [.int xs0] m (fun v m2 => Go X 5 mX12_packs Q 75 [(0, .ref a0), (1, .int x1), (2, .int x2)] (v.toList ++ []) m2)) :
    Go X 5 mX12_packs Q 72 [(0, .ref a0), (1, .int x1), (2, .int x2)] [.int xs0] m := by
  exact g_callS (As := [.int xs0]) (st := []) dX12_packs_72 clX12_355 rfl rfl (Nat.le_of_ble_eq_true rfl) (rmSH (by decide) (by decide)) h1
theorem bX12_packs_75 {X : pX} {Q : Option Value → pMem → Prop} {m : pMem} {a0 : Nat} {x1 : Int32} {x2 : Int32} {xs0 : Int32} (hW : Wf m) (c0 : SH[a0]? = some (.inl 12))
    (h1 : (mI m (a0 + 1) 1) ≤ xs0 → Go X 5 mX12_packs Q 2 [(0, .ref a0), (1, .int x1), (2, .int (x2 + (1 : Int32)))] [] m)
    (h2 : ¬ ((mI m (a0 + 1) 1) ≤ xs0) → vp_in x2 6)
    (h3 : ¬ ((mI m (a0 + 1) 1) ≤ xs0) → Go X 5 mX12_packs Q 2 [(0, .ref a0), (1, .int x1), (2, .int (x2 + (1 : Int32)))] [] (uI m (a0 + 4) x2.toNatClampNeg x1)) :
    Go X 5 mX12_packs Q 75 [(0, .ref a0), (1, .int x1), (2, .int x2)] [.int xs0] m := by
  refine g_aload_n 0 dX12_packs_75 rfl rfl ?_
  refine g_getR dX12_packs_76 fl12_9 rfl c0 (w12_1 hW c0) ?_
  refine g_iconst (v := 1) dX12_packs_79 (by decide) ?_
  refine g_iald (j := 1) dX12_packs_80 (s12_1 c0) (by unfold vp_in; decide) (by decide) ?_
  refine g_icmp_ge 91 dX12_packs_81 (by decide) (fun q1 => ?_) (fun q1 => ?_)
  · refine g_iinc (v := x2 + (1 : Int32)) (ls2 := [(2, .int (x2 + (1 : Int32))), (0, .ref a0), (1, .int x1)]) 2 dX12_packs_91 rfl rfl (by decide) rfl ?_
    refine g_goto 2 dX12_packs_94 (by decide) ?_
    exact g_ls [1, 2, 0] rfl (h1 q1)
  · refine g_aload_n 0 dX12_packs_84 rfl rfl ?_
    refine g_getR dX12_packs_85 fl12_19 rfl c0 (w12_4 hW c0) ?_
    refine g_iload_n 2 dX12_packs_88 rfl rfl ?_
    refine g_iload_n 1 dX12_packs_89 rfl rfl ?_
    refine g_iast (j := x2.toNatClampNeg) dX12_packs_90 (s12_4 c0) (h2 q1) rfl ?_
    refine g_iinc (v := x2 + (1 : Int32)) (ls2 := [(2, .int (x2 + (1 : Int32))), (0, .ref a0), (1, .int x1)]) 2 dX12_packs_91 rfl rfl (by decide) rfl ?_
    refine g_goto 2 dX12_packs_94 (by decide) ?_
    exact g_ls [1, 2, 0] rfl (h3 q1)
