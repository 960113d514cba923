theorem bX2_keep_0 {X : pX} {Q : Option Value → pMem → Prop} {m : pMem} {a0 : Nat} {a1 : Nat} (hW : Wf m) (c0 : SH[a0]? = some (.inl 2)) (c1 : SH[a1]? = some (.inl 8))
    (h1 : vp_in (((mI m a0 1) + (mI m a0 2)) - ((mI m a0 1) + (mI m a0 2)) / (20 : Int32) * (20 : Int32)) 20)
    (h2 : (20 : Int32) ≤ (mI (cpS m (a0 + 2 + 4 * ((((mI m a0 1) + (mI m a0 2)) - ((mI m a0 1) + (mI m a0 2)) / (20 : Int32) * (20 : Int32)).toNatClampNeg)) a1) a0 2) → Q none (uI (cpS m (a0 + 2 + 4 * ((((mI m a0 1) + (mI m a0 2)) - ((mI m a0 1) + (mI m a0 2)) / (20 : Int32) * (20 : Int32)).toNatClampNeg)) a1) a0 1 (((mI (cpS m (a0 + 2 + 4 * ((((mI m a0 1) + (mI m a0 2)) - ((mI m a0 1) + (mI m a0 2)) / (20 : Int32) * (20 : Int32)).toNatClampNeg)) a1) a0 1) + (1 : Int32)) - ((mI (cpS m (a0 + 2 + 4 * ((((mI m a0 1) + (mI m a0 2)) - ((mI m a0 1) + (mI m a0 2)) / (20 : Int32) * (20 : Int32)).toNatClampNeg)) a1) a0 1) + (1 : Int32)) / (20 : Int32) * (20 : Int32))))
    (h3 : ¬ ((20 : Int32) ≤ (mI (cpS m (a0 + 2 + 4 * ((((mI m a0 1) + (mI m a0 2)) - ((mI m a0 1) + (mI m a0 2)) / (20 : Int32) * (20 : Int32)).toNatClampNeg)) a1) a0 2)) → Q none (uI (cpS m (a0 + 2 + 4 * ((((mI m a0 1) + (mI m a0 2)) - ((mI m a0 1) + (mI m a0 2)) / (20 : Int32) * (20 : Int32)).toNatClampNeg)) a1) a0 2 ((mI (cpS m (a0 + 2 + 4 * ((((mI m a0 1) + (mI m a0 2)) - ((mI m a0 1) + (mI m a0 2)) / (20 : Int32) * (20 : Int32)).toNatClampNeg)) a1) a0 2) + (1 : Int32)))) :
    Go X 2 mX2_keep Q 0 [(0, .ref a0), (1, .ref a1)] [] m := by
  refine g_aload_n 0 dX2_keep_0 rfl rfl ?_
  refine g_getR dX2_keep_1 fl2_11 rfl c0 (w2_0 hW c0) ?_
  refine g_aload_n 0 dX2_keep_4 rfl rfl ?_
  refine g_getI dX2_keep_5 fl2_16 c0 ?_
  refine g_aload_n 0 dX2_keep_8 rfl rfl ?_
  refine g_getI dX2_keep_9 fl2_20 c0 ?_
  refine g_iadd dX2_keep_12 ?_
  refine g_bipush (v := 20) dX2_keep_13 (by decide) ?_
  refine g_irem dX2_keep_15 (by decide) ?_
  refine g_aald dX2_keep_16 (s2_0 c0) (by decide) h1 rfl (wRows hW c0 (inN h1)) ?_
  refine g_aload_n 1 dX2_keep_17 rfl rfl ?_
  refine g_callV (As := [.ref a1]) (st := []) dX2_keep_18 clX2_23 (shRows c0 (inN h1)) rfl rfl (Nat.le_of_ble_eq_true rfl) (rmSH (by decide) (by decide)) (s_copyS hW (shRows c0 (inN h1)) c1 ?_)
  show Go X 2 mX2_keep Q 21 [(0, .ref a0), (1, .ref a1)] [] (cpS m (a0 + 2 + 4 * ((((mI m a0 1) + (mI m a0 2)) - ((mI m a0 1) + (mI m a0 2)) / (20 : Int32) * (20 : Int32)).toNatClampNeg)) a1)
  refine g_aload_n 0 dX2_keep_21 rfl rfl ?_
  refine g_getI dX2_keep_22 fl2_20 c0 ?_
  refine g_bipush (v := 20) dX2_keep_25 (by decide) ?_
  refine g_icmp_ge 43 dX2_keep_27 (by decide) (fun q1 => ?_) (fun q1 => ?_)
  · refine g_aload_n 0 dX2_keep_43 rfl rfl ?_
    refine g_aload_n 0 dX2_keep_44 rfl rfl ?_
    refine g_getI dX2_keep_45 fl2_16 c0 ?_
    refine g_iconst (v := 1) dX2_keep_48 (by decide) ?_
    refine g_iadd dX2_keep_49 ?_
    refine g_bipush (v := 20) dX2_keep_50 (by decide) ?_
    refine g_irem dX2_keep_52 (by decide) ?_
    refine g_putI dX2_keep_53 fl2_16 (fun h => by cases h) c0 ?_
    exact g_vret dX2_keep_56 rfl enSH (h2 q1)
  · refine g_aload_n 0 dX2_keep_30 rfl rfl ?_
    refine g_dup dX2_keep_31 rfl ?_
    refine g_getI dX2_keep_32 fl2_20 c0 ?_
    refine g_iconst (v := 1) dX2_keep_35 (by decide) ?_
    refine g_iadd dX2_keep_36 ?_
    refine g_putI dX2_keep_37 fl2_20 (fun h => by cases h) c0 ?_
    refine g_goto 56 dX2_keep_40 (by decide) ?_
    exact g_vret dX2_keep_56 rfl enSH (h3 q1)
theorem bX2_bringBack_0 {X : pX} {Q : Option Value → pMem → Prop} {m : pMem} {a0 : Nat} {a1 : Nat} (hW : Wf m) (c0 : SH[a0]? = some (.inl 2)) (c1 : SH[a1]? = some (.inl 8))
    (h1 : (mI m a0 2) ≤ 0 → Q none m)
    (h2 : ¬ ((mI m a0 2) ≤ 0) → vp_in (((mI (uI m a0 2 ((mI m a0 2) - (1 : Int32))) a0 1) + (mI (uI m a0 2 ((mI m a0 2) - (1 : Int32))) a0 2)) - ((mI (uI m a0 2 ((mI m a0 2) - (1 : Int32))) a0 1) + (mI (uI m a0 2 ((mI m a0 2) - (1 : Int32))) a0 2)) / (20 : Int32) * (20 : Int32)) 20)
    (h3 : ¬ ((mI m a0 2) ≤ 0) → Q none (cpS (uI m a0 2 ((mI m a0 2) - (1 : Int32))) a1 (a0 + 2 + 4 * ((((mI (uI m a0 2 ((mI m a0 2) - (1 : Int32))) a0 1) + (mI (uI m a0 2 ((mI m a0 2) - (1 : Int32))) a0 2)) - ((mI (uI m a0 2 ((mI m a0 2) - (1 : Int32))) a0 1) + (mI (uI m a0 2 ((mI m a0 2) - (1 : Int32))) a0 2)) / (20 : Int32) * (20 : Int32)).toNatClampNeg)))) :
    Go X 2 mX2_bringBack Q 0 [(0, .ref a0), (1, .ref a1)] [] m := by
  refine g_aload_n 0 dX2_bringBack_0 rfl rfl ?_
  refine g_getI dX2_bringBack_1 fl2_20 c0 ?_
  refine g_if_le 38 dX2_bringBack_4 (by decide) (fun q1 => ?_) (fun q1 => ?_)
  · exact g_vret dX2_bringBack_38 rfl enSH (h1 q1)
  · refine g_aload_n 0 dX2_bringBack_7 rfl rfl ?_
    refine g_dup dX2_bringBack_8 rfl ?_
    refine g_getI dX2_bringBack_9 fl2_20 c0 ?_
    refine g_iconst (v := 1) dX2_bringBack_12 (by decide) ?_
    refine g_isub dX2_bringBack_13 ?_
    refine g_putI dX2_bringBack_14 fl2_20 (fun h => by cases h) c0 ?_
    refine g_aload_n 1 dX2_bringBack_17 rfl rfl ?_
    refine g_aload_n 0 dX2_bringBack_18 rfl rfl ?_
    refine g_getR dX2_bringBack_19 fl2_11 rfl c0 (w2_0 hW c0) ?_
    refine g_aload_n 0 dX2_bringBack_22 rfl rfl ?_
    refine g_getI dX2_bringBack_23 fl2_16 c0 ?_
    refine g_aload_n 0 dX2_bringBack_26 rfl rfl ?_
    refine g_getI dX2_bringBack_27 fl2_20 c0 ?_
    refine g_iadd dX2_bringBack_30 ?_
    refine g_bipush (v := 20) dX2_bringBack_31 (by decide) ?_
    refine g_irem dX2_bringBack_33 (by decide) ?_
    refine g_aald dX2_bringBack_34 (s2_0 c0) (by decide) (h2 q1) rfl (wRows hW c0 (inN (h2 q1))) ?_
    refine g_callV (As := [.ref (a0 + 2 + 4 * ((((mI (uI m a0 2 ((mI m a0 2) - (1 : Int32))) a0 1) + (mI (uI m a0 2 ((mI m a0 2) - (1 : Int32))) a0 2)) - ((mI (uI m a0 2 ((mI m a0 2) - (1 : Int32))) a0 1) + (mI (uI m a0 2 ((mI m a0 2) - (1 : Int32))) a0 2)) / (20 : Int32) * (20 : Int32)).toNatClampNeg))]) (st := []) dX2_bringBack_35 clX2_23 c1 rfl rfl (Nat.le_of_ble_eq_true rfl) (rmSH (by decide) (by decide)) (s_copyS hW c1 (shRows c0 (inN (h2 q1))) ?_)
    show Go X 2 mX2_bringBack Q 38 [(0, .ref a0), (1, .ref a1)] [] (cpS (uI m a0 2 ((mI m a0 2) - (1 : Int32))) a1 (a0 + 2 + 4 * ((((mI (uI m a0 2 ((mI m a0 2) - (1 : Int32))) a0 1) + (mI (uI m a0 2 ((mI m a0 2) - (1 : Int32))) a0 2)) - ((mI (uI m a0 2 ((mI m a0 2) - (1 : Int32))) a0 1) + (mI (uI m a0 2 ((mI m a0 2) - (1 : Int32))) a0 2)) / (20 : Int32) * (20 : Int32)).toNatClampNeg)))
    exact g_vret dX2_bringBack_38 rfl enSH (h3 q1)
theorem bX2_copy_0 {X : pX} {Q : Option Value → pMem → Prop} {m : pMem} {a0 : Nat} {a1 : Nat} (hW : Wf m) (c0 : SH[a0]? = some (.inl 2)) (c1 : SH[a1]? = some (.inl 2))
    (h1 : Go X 2 mX2_copy Q 18 [(0, .ref a0), (1, .ref a1), (2, .int (0 : Int32))] [] (uI (uI m a0 1 (mI m a1 1)) a0 2 (mI (uI m a0 1 (mI m a1 1)) a1 2))) :
    Go X 2 mX2_copy Q 0 [(0, .ref a0), (1, .ref a1)] [] m := by
  refine g_aload_n 0 dX2_copy_0 rfl rfl ?_
  refine g_aload_n 1 dX2_copy_1 rfl rfl ?_
  refine g_getI dX2_copy_2 fl2_16 c1 ?_
  refine g_putI dX2_copy_5 fl2_16 (fun h => by cases h) c0 ?_
  refine g_aload_n 0 dX2_copy_8 rfl rfl ?_
  refine g_aload_n 1 dX2_copy_9 rfl rfl ?_
  refine g_getI dX2_copy_10 fl2_20 c1 ?_
  refine g_putI dX2_copy_13 fl2_20 (fun h => by cases h) c0 ?_
  refine g_iconst (v := 0) dX2_copy_16 (by decide) ?_
  refine g_istore_n (ls2 := [(2, .int (0 : Int32)), (0, .ref a0), (1, .ref a1)]) dX2_copy_17 rfl (by decide) rfl ?_
  exact g_ls [1, 2, 0] rfl h1
theorem bX2_copy_18 {X : pX} {Q : Option Value → pMem → Prop} {m : pMem} {a0 : Nat} {a1 : Nat} {x2 : Int32} (hW : Wf m) (c0 : SH[a0]? = some (.inl 2)) (c1 : SH[a1]? = some (.inl 2))
    (h1 : (20 : Int32) ≤ x2 → Q none m)
    (h2 : ¬ ((20 : Int32) ≤ x2) → vp_in x2 20)
    (h3 : ¬ ((20 : Int32) ≤ x2) → Go X 2 mX2_copy Q 18 [(0, .ref a0), (1, .ref a1), (2, .int (x2 + (1 : Int32)))] [] (cpS m (a0 + 2 + 4 * x2.toNatClampNeg) (a1 + 2 + 4 * x2.toNatClampNeg))) :
    Go X 2 mX2_copy Q 18 [(0, .ref a0), (1, .ref a1), (2, .int x2)] [] m := by
  refine g_iload_n 2 dX2_copy_18 rfl rfl ?_
  refine g_bipush (v := 20) dX2_copy_19 (by decide) ?_
  refine g_icmp_ge 45 dX2_copy_21 (by decide) (fun q1 => ?_) (fun q1 => ?_)
  · exact g_vret dX2_copy_45 rfl enSH (h1 q1)
  · refine g_aload_n 0 dX2_copy_24 rfl rfl ?_
    refine g_getR dX2_copy_25 fl2_11 rfl c0 (w2_0 hW c0) ?_
    refine g_iload_n 2 dX2_copy_28 rfl rfl ?_
    refine g_aald dX2_copy_29 (s2_0 c0) (by decide) (h2 q1) rfl (wRows hW c0 (inN (h2 q1))) ?_
    refine g_aload_n 1 dX2_copy_30 rfl rfl ?_
    refine g_getR dX2_copy_31 fl2_11 rfl c1 (w2_0 hW c1) ?_
    refine g_iload_n 2 dX2_copy_34 rfl rfl ?_
    refine g_aald dX2_copy_35 (s2_0 c1) (by decide) (h2 q1) rfl (wRows hW c1 (inN (h2 q1))) ?_
    refine g_callV (As := [.ref (a1 + 2 + 4 * x2.toNatClampNeg)]) (st := []) dX2_copy_36 clX2_23 (shRows c0 (inN (h2 q1))) rfl rfl (Nat.le_of_ble_eq_true rfl) (rmSH (by decide) (by decide)) (s_copyS hW (shRows c0 (inN (h2 q1))) (shRows c1 (inN (h2 q1))) ?_)
    show Go X 2 mX2_copy Q 39 [(0, .ref a0), (1, .ref a1), (2, .int x2)] [] (cpS m (a0 + 2 + 4 * x2.toNatClampNeg) (a1 + 2 + 4 * x2.toNatClampNeg))
    refine g_iinc (v := x2 + (1 : Int32)) (ls2 := [(2, .int (x2 + (1 : Int32))), (0, .ref a0), (1, .ref a1)]) 2 dX2_copy_39 rfl rfl (by decide) rfl ?_
    refine g_goto 18 dX2_copy_42 (by decide) ?_
    exact g_ls [1, 2, 0] rfl (h3 q1)
theorem bX11_inForce_0 {X : pX} {Q : Option Value → pMem → Prop} {m : pMem} (hW : Wf m)
    (h1 : Cl X 0 mX11_ruleOf [.ref 0, .int (mI m 30 3)] m (fun v m2 => Go X 1 mX11_inForce Q 11 [(0, .ref 0)] (v.toList ++ []) m2)) :
    Go X 1 mX11_inForce Q 0 [(0, .ref 0)] [] m := by
  refine g_aload_n 0 dX11_inForce_0 rfl rfl ?_
  refine g_aload_n 0 dX11_inForce_1 rfl rfl ?_
  refine g_getR dX11_inForce_2 fl11_42 rfl sh0 (w11_5 hW sh0) ?_
  refine g_getI dX11_inForce_5 fl11_132 sh30 ?_
  exact g_callV (As := [.int (mI m 30 3)]) (st := []) dX11_inForce_8 clX11_321 sh0 rfl rfl (Nat.le_of_ble_eq_true rfl) (rmSH (by decide) (by decide)) h1
theorem bX11_inForce_11 {X : pX} {Q : Option Value → pMem → Prop} {m : pMem} {as0 : Nat} (hW : Wf m) (cs0 : SH[as0]? = some (.inl 6))
    (h1 : Q (some (.ref as0)) m) :
    Go X 1 mX11_inForce Q 11 [(0, .ref 0)] [.ref as0] m := by
  exact g_aret dX11_inForce_11 rfl (Or.inl ⟨_, rfl⟩) (Or.inr (Or.inl ⟨_, rfl⟩)) enSH h1
theorem bX11_inForce_11v1 {X : pX} {Q : Option Value → pMem → Prop} {m : pMem} (hW : Wf m)
    (h1 : Q (some (.null)) m) :
    Go X 1 mX11_inForce Q 11 [(0, .ref 0)] [.null] m := by
  exact g_aret dX11_inForce_11 rfl (Or.inl ⟨_, rfl⟩) (Or.inl rfl) enSH h1
theorem bX11_isAtPlace_0 {X : pX} {Q : Option Value → pMem → Prop} {m : pMem} {x1 : Int32} (hW : Wf m)
    (h1 : ¬ x1 < 0 ∧ ¬ mI m 31 3 ≤ x1 ∧ ¬ (4 : Int32) ≤ x1 → vp_in x1 4)
    (h2 : ¬ x1 < 0 ∧ ¬ mI m 31 3 ≤ x1 ∧ ¬ (4 : Int32) ≤ x1 → ¬ (mI m 39 x1.toNatClampNeg) = 0 → Q (some (.int (0 : Int32))) m)
    (h3 : ¬ x1 < 0 ∧ ¬ mI m 31 3 ≤ x1 ∧ ¬ (4 : Int32) ≤ x1 → (mI m 39 x1.toNatClampNeg) = 0 → Q (some (.int (1 : Int32))) m)
    (h4 : ¬ (¬ x1 < 0 ∧ ¬ mI m 31 3 ≤ x1 ∧ ¬ (4 : Int32) ≤ x1) → Q (some (.int (0 : Int32))) m) :
    Go X 1 mX11_isAtPlace Q 0 [(0, .ref 0), (1, .int x1)] [] m := by
  refine g_aload_n 0 dX11_isAtPlace_0 rfl rfl ?_
  refine g_getR dX11_isAtPlace_1 fl11_42 rfl sh0 (w11_5 hW sh0) ?_
  refine g_getR dX11_isAtPlace_4 fl11_56 rfl sh30 (w10_0 hW sh30) ?_
  refine g_iload_n 1 dX11_isAtPlace_7 rfl rfl ?_
  refine g_callV (As := [.int x1]) (st := []) dX11_isAtPlace_8 clX11_135 (s10_0 sh30) rfl rfl (Nat.le_of_ble_eq_true rfl) (rmSH (by decide) (by decide)) (s_isPerson hW (s10_0 sh30) (fun q1 => ?_) (fun q1 => ?_))
  · refine g_if_eq 33 dX11_isAtPlace_11 (by decide) (fun q2 => absurd q2 (by decide)) (fun q2 => ?_)
    refine g_aload_n 0 dX11_isAtPlace_14 rfl rfl ?_
    refine g_getR dX11_isAtPlace_15 fl11_42 rfl sh0 (w11_5 hW sh0) ?_
    refine g_getR dX11_isAtPlace_18 fl11_69 rfl sh30 (w10_1 hW sh30) ?_
    refine g_getR dX11_isAtPlace_21 fl11_149 rfl (s10_1 sh30) (w8_2 hW (s10_1 sh30)) ?_
    refine g_iload_n 1 dX11_isAtPlace_24 rfl rfl ?_
    refine g_iald (j := x1.toNatClampNeg) dX11_isAtPlace_25 (s8_2 (s10_1 sh30)) (h1 q1) rfl ?_
    refine g_if_ne 33 dX11_isAtPlace_26 (by decide) (fun q3 => ?_) (fun q3 => ?_)
    · refine g_iconst (v := 0) dX11_isAtPlace_33 (by decide) ?_
      exact g_bret dX11_isAtPlace_34 rfl (Or.inl rfl) enSH (h2 q1 q3)
    · refine g_iconst (v := 1) dX11_isAtPlace_29 (by decide) ?_
      refine g_goto 34 dX11_isAtPlace_30 (by decide) ?_
      exact g_bret dX11_isAtPlace_34 rfl (Or.inr rfl) enSH (h3 q1 q3)
  · refine g_if_eq 33 dX11_isAtPlace_11 (by decide) (fun q4 => ?_) (fun q4 => absurd q4 (by decide))
    refine g_iconst (v := 0) dX11_isAtPlace_33 (by decide) ?_
    exact g_bret dX11_isAtPlace_34 rfl (Or.inl rfl) enSH (h4 q1)
theorem bX11_hasFreeHand_0 {X : pX} {Q : Option Value → pMem → Prop} {m : pMem} {x1 : Int32} (hW : Wf m)
    (h1 : (mI m 31 1) ≤ (nI (cnt (mI m 40) x1 6)) → Q (some (.int (0 : Int32))) m)
    (h2 : ¬ ((mI m 31 1) ≤ (nI (cnt (mI m 40) x1 6))) → Q (some (.int (1 : Int32))) m) :
    Go X 2 mX11_hasFreeHand Q 0 [(0, .ref 0), (1, .int x1)] [] m := by
  refine g_aload_n 0 dX11_hasFreeHand_0 rfl rfl ?_
  refine g_getR dX11_hasFreeHand_1 fl11_42 rfl sh0 (w11_5 hW sh0) ?_
  refine g_getR dX11_hasFreeHand_4 fl11_69 rfl sh30 (w10_1 hW sh30) ?_
  refine g_iload_n 1 dX11_hasFreeHand_7 rfl rfl ?_
  refine g_callV (As := [.int x1]) (st := []) dX11_hasFreeHand_8 clX11_236 (s10_1 sh30) rfl rfl (Nat.le_of_ble_eq_true rfl) (rmSH (by decide) (by decide)) (s_manyOf hW (s10_1 sh30) ?_)
  show Go X 2 mX11_hasFreeHand Q 11 [(0, .ref 0), (1, .int x1)] [.int (nI (cnt (mI m 40) x1 6))] m
  refine g_aload_n 0 dX11_hasFreeHand_11 rfl rfl ?_
  refine g_getR dX11_hasFreeHand_12 fl11_42 rfl sh0 (w11_5 hW sh0) ?_
  refine g_getR dX11_hasFreeHand_15 fl11_56 rfl sh30 (w10_0 hW sh30) ?_
  refine g_getI dX11_hasFreeHand_18 fl11_176 (s10_0 sh30) ?_
  refine g_icmp_ge 28 dX11_hasFreeHand_21 (by decide) (fun q1 => ?_) (fun q1 => ?_)
  · refine g_iconst (v := 0) dX11_hasFreeHand_28 (by decide) ?_
    exact g_bret dX11_hasFreeHand_29 rfl (Or.inl rfl) enSH (h1 q1)
  · refine g_iconst (v := 1) dX11_hasFreeHand_24 (by decide) ?_
    refine g_goto 29 dX11_hasFreeHand_25 (by decide) ?_
    exact g_bret dX11_hasFreeHand_29 rfl (Or.inr rfl) enSH (h2 q1)
