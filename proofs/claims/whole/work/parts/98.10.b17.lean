theorem bX3_canBeCarried_0 {X : pX} {Q : Option Value → pMem → Prop} {m : pMem} {x1 : Int32} (hW : Wf m)
    (h1 : x1 < 0 → Q (some (.int (0 : Int32))) m)
    (h2 : ¬ (x1 < 0) → (((1 : Int32) <<< (mI m 31 4 &&& 31)) - (1 : Int32)) < x1 → Q (some (.int (0 : Int32))) m)
    (h3 : ¬ (x1 < 0) → ¬ ((((1 : Int32) <<< (mI m 31 4 &&& 31)) - (1 : Int32)) < x1) → sm64 x1)
    (h4 : ¬ (x1 < 0) → ¬ ((((1 : Int32) <<< (mI m 31 4 &&& 31)) - (1 : Int32)) < x1) → (mI m 31 1) < (pcI x1) → Q (some (.int (0 : Int32))) m)
    (h5 : ¬ (x1 < 0) → ¬ ((((1 : Int32) <<< (mI m 31 4 &&& 31)) - (1 : Int32)) < x1) → ¬ ((mI m 31 1) < (pcI x1)) → Q (some (.int (1 : Int32))) m) :
    Go X 1 mX3_canBeCarried Q 0 [(0, .ref 514), (1, .int x1)] [] m := by
  refine g_iload_n 1 dX3_canBeCarried_0 rfl rfl ?_
  refine g_if_lt 33 dX3_canBeCarried_1 (by decide) (fun q1 => ?_) (fun q1 => ?_)
  · refine g_iconst (v := 0) dX3_canBeCarried_33 (by decide) ?_
    exact g_bret dX3_canBeCarried_34 rfl (Or.inl rfl) enSH (h1 q1)
  · refine g_iload_n 1 dX3_canBeCarried_4 rfl rfl ?_
    refine g_aload_n 0 dX3_canBeCarried_5 rfl rfl ?_
    refine g_getR dX3_canBeCarried_6 fl3_9 rfl sh514 (w3_0 hW sh514) ?_
    refine g_callV (As := []) (st := [.int x1]) dX3_canBeCarried_9 clX3_19 sh31 rfl rfl (Nat.le_of_ble_eq_true rfl) (rmSH (by decide) (by decide)) (s_allThings hW sh31 ?_)
    show Go X 1 mX3_canBeCarried Q 12 [(0, .ref 514), (1, .int x1)] [.int (((1 : Int32) <<< (mI m 31 4 &&& 31)) - (1 : Int32)), .int x1] m
    refine g_icmp_gt 33 dX3_canBeCarried_12 (by decide) (fun q2 => ?_) (fun q2 => ?_)
    · refine g_iconst (v := 0) dX3_canBeCarried_33 (by decide) ?_
      exact g_bret dX3_canBeCarried_34 rfl (Or.inl rfl) enSH (h2 q1 q2)
    · refine g_iload_n 1 dX3_canBeCarried_15 rfl rfl ?_
      refine g_callS (As := [.int x1]) (st := []) dX3_canBeCarried_16 clX3_25 rfl rfl (Nat.le_of_ble_eq_true rfl) (rmSH (by decide) (by decide)) (s_bitCount hW (h3 q1 q2) ?_)
      show Go X 1 mX3_canBeCarried Q 19 [(0, .ref 514), (1, .int x1)] [.int (pcI x1)] m
      refine g_aload_n 0 dX3_canBeCarried_19 rfl rfl ?_
      refine g_getR dX3_canBeCarried_20 fl3_9 rfl sh514 (w3_0 hW sh514) ?_
      refine g_getI dX3_canBeCarried_23 fl3_31 sh31 ?_
      refine g_icmp_gt 33 dX3_canBeCarried_26 (by decide) (fun q3 => ?_) (fun q3 => ?_)
      · refine g_iconst (v := 0) dX3_canBeCarried_33 (by decide) ?_
        exact g_bret dX3_canBeCarried_34 rfl (Or.inl rfl) enSH (h4 q1 q2 q3)
      · refine g_iconst (v := 1) dX3_canBeCarried_29 (by decide) ?_
        refine g_goto 34 dX3_canBeCarried_30 (by decide) ?_
        exact g_bret dX3_canBeCarried_34 rfl (Or.inr rfl) enSH (h5 q1 q2 q3)
theorem bX3_daysToTown_0 {X : pX} {Q : Option Value → pMem → Prop} {m : pMem} {x1 : Int32} {x2 : Int32} (hW : Wf m)
    (h1 : vp_in x1 4)
    (h2 : dyOk (mI m 31 3) (mI m 33) x1 (mI m 38 x1.toNatClampNeg) (mI m 31 2))
    (h3 : Q (some (.int (dyI (mI m 32) (mI m 33 x1.toNatClampNeg) (wSum (mI m 34) x2 6) (mI m 38 x1.toNatClampNeg) (mI m 31 2)))) m) :
    Go X 2 mX3_daysToTown Q 0 [(0, .ref 514), (1, .int x1), (2, .int x2)] [] m := by
  refine g_aload_n 0 dX3_daysToTown_0 rfl rfl ?_
  refine g_getR dX3_daysToTown_1 fl3_9 rfl sh514 (w3_0 hW sh514) ?_
  refine g_iload_n 1 dX3_daysToTown_4 rfl rfl ?_
  refine g_aload_n 0 dX3_daysToTown_5 rfl rfl ?_
  refine g_getR dX3_daysToTown_6 fl3_15 rfl sh514 (w3_1 hW sh514) ?_
  refine g_getR dX3_daysToTown_9 fl3_35 rfl sh37 (w8_1 hW sh37) ?_
  refine g_iload_n 1 dX3_daysToTown_12 rfl rfl ?_
  refine g_iald (j := x1.toNatClampNeg) dX3_daysToTown_13 (s8_1 sh37) h1 rfl ?_
  refine g_aload_n 0 dX3_daysToTown_14 rfl rfl ?_
  refine g_getR dX3_daysToTown_15 fl3_9 rfl sh514 (w3_0 hW sh514) ?_
  refine g_getI dX3_daysToTown_18 fl3_41 sh31 ?_
  refine g_iload_n 2 dX3_daysToTown_21 rfl rfl ?_
  refine g_callV (As := [.int x1, .int (mI m 38 x1.toNatClampNeg), .int (mI m 31 2), .int x2]) (st := []) dX3_daysToTown_22 clX3_44 sh31 rfl rfl (Nat.le_of_ble_eq_true rfl) (rmSH (by decide) (by decide)) (s_daysFor hW sh31 h2 ?_)
  show Go X 2 mX3_daysToTown Q 25 [(0, .ref 514), (1, .int x1), (2, .int x2)] [.int (dyI (mI m 32) (mI m 33 x1.toNatClampNeg) (wSum (mI m 34) x2 6) (mI m 38 x1.toNatClampNeg) (mI m 31 2))] m
  exact g_iret dX3_daysToTown_25 rfl enSH h3
theorem bX12_daysHome_0 {X : pX} {Q : Option Value → pMem → Prop} {m : pMem} {x1 : Int32} {x2 : Int32} (hW : Wf m)
    (h1 : vp_in x1 4)
    (h2 : vp_in (mI m 536 4) 7)
    (h3 : dyOkM (mI m 541) x1 (mI m 537 x1.toNatClampNeg) (mI m 536 2))
    (h4 : Q (some (.int (dyI (mI m 540) (mI m 541 x1.toNatClampNeg) (wSum (mI m 542) x2 (mI m 536 4).toNatClampNeg) (mI m 537 x1.toNatClampNeg) (mI m 536 2)))) m) :
    Go X 2 mX12_daysHome Q 0 [(0, .ref 535), (1, .int x1), (2, .int x2)] [] m := by
  refine g_aload_n 0 dX12_daysHome_0 rfl rfl ?_
  refine g_iload_n 1 dX12_daysHome_1 rfl rfl ?_
  refine g_aload_n 0 dX12_daysHome_2 rfl rfl ?_
  refine g_getR dX12_daysHome_3 fl12_13 rfl sh535 (w12_2 hW sh535) ?_
  refine g_iload_n 1 dX12_daysHome_6 rfl rfl ?_
  refine g_iald (j := x1.toNatClampNeg) dX12_daysHome_7 (s12_2 sh535) h1 rfl ?_
  refine g_aload_n 0 dX12_daysHome_8 rfl rfl ?_
  refine g_callV (As := []) (st := [.int (mI m 537 x1.toNatClampNeg), .int x1, .ref 535]) dX12_daysHome_9 clX12_352 sh535 rfl rfl (Nat.le_of_ble_eq_true rfl) (rmSH (by decide) (by decide)) (s_town hW ?_)
  show Go X 2 mX12_daysHome Q 12 [(0, .ref 535), (1, .int x1), (2, .int x2)] [.int (mI m 536 2), .int (mI m 537 x1.toNatClampNeg), .int x1, .ref 535] m
  refine g_aload_n 0 dX12_daysHome_12 rfl rfl ?_
  refine g_iload_n 2 dX12_daysHome_13 rfl rfl ?_
  refine g_callV (As := [.int x2]) (st := [.int (mI m 536 2), .int (mI m 537 x1.toNatClampNeg), .int x1, .ref 535]) dX12_daysHome_14 clX12_341 sh535 rfl rfl (Nat.le_of_ble_eq_true rfl) (rmSH (by decide) (by decide)) (s_mWeight hW h2 ?_)
  show Go X 2 mX12_daysHome Q 17 [(0, .ref 535), (1, .int x1), (2, .int x2)] [.int (wSum (mI m 542) x2 (mI m 536 4).toNatClampNeg), .int (mI m 536 2), .int (mI m 537 x1.toNatClampNeg), .int x1, .ref 535] m
  refine g_callV (As := [.int x1, .int (mI m 537 x1.toNatClampNeg), .int (mI m 536 2), .int (wSum (mI m 542) x2 (mI m 536 4).toNatClampNeg)]) (st := []) dX12_daysHome_17 clX12_424 sh535 rfl rfl (Nat.le_of_ble_eq_true rfl) (rmSH (by decide) (by decide)) (s_mDays hW h3 ?_)
  show Go X 2 mX12_daysHome Q 20 [(0, .ref 535), (1, .int x1), (2, .int x2)] [.int (dyI (mI m 540) (mI m 541 x1.toNatClampNeg) (wSum (mI m 542) x2 (mI m 536 4).toNatClampNeg) (mI m 537 x1.toNatClampNeg) (mI m 536 2))] m
  exact g_iret dX12_daysHome_20 rfl enSH h4
theorem bX10_copy_0 {X : pX} {Q : Option Value → pMem → Prop} {m : pMem} {a0 : Nat} {a1 : Nat} (hW : Wf m) (c0 : SH[a0]? = some (.inl 10)) (c1 : SH[a1]? = some (.inl 10))
    (h1 : mI m (a1 + 1) 0 = 0 ∨ mI m (a1 + 1) 0 = 1)
    (h2 : Cl X 2 mX2_copy [.ref (a0 + 11), .ref (a1 + 11)] (cpS (cpR m (a0 + 1) (a1 + 1)) (a0 + 7) (a1 + 7)) (fun v m2 => Go X 3 mX10_copy Q 33 [(0, .ref a0), (1, .ref a1)] (v.toList ++ []) m2)) :
    Go X 3 mX10_copy Q 0 [(0, .ref a0), (1, .ref a1)] [] m := by
  refine g_aload_n 0 dX10_copy_0 rfl rfl ?_
  refine g_getR dX10_copy_1 fl10_12 rfl c0 (w10_0 hW c0) ?_
  refine g_aload_n 1 dX10_copy_4 rfl rfl ?_
  refine g_getR dX10_copy_5 fl10_12 rfl c1 (w10_0 hW c1) ?_
  refine g_callV (As := [.ref (a1 + 1)]) (st := []) dX10_copy_8 clX10_53 (s10_0 c0) rfl rfl (Nat.le_of_ble_eq_true rfl) (rmSH (by decide) (by decide)) (s_copyR hW (s10_0 c0) (s10_0 c1) h1 ?_)
  show Go X 3 mX10_copy Q 11 [(0, .ref a0), (1, .ref a1)] [] (cpR m (a0 + 1) (a1 + 1))
  refine g_aload_n 0 dX10_copy_11 rfl rfl ?_
  refine g_getR dX10_copy_12 fl10_21 rfl c0 (w10_1 hW c0) ?_
  refine g_aload_n 1 dX10_copy_15 rfl rfl ?_
  refine g_getR dX10_copy_16 fl10_21 rfl c1 (w10_1 hW c1) ?_
  refine g_callV (As := [.ref (a1 + 7)]) (st := []) dX10_copy_19 clX10_61 (s10_1 c0) rfl rfl (Nat.le_of_ble_eq_true rfl) (rmSH (by decide) (by decide)) (s_copyS hW (s10_1 c0) (s10_1 c1) ?_)
  show Go X 3 mX10_copy Q 22 [(0, .ref a0), (1, .ref a1)] [] (cpS (cpR m (a0 + 1) (a1 + 1)) (a0 + 7) (a1 + 7))
  refine g_aload_n 0 dX10_copy_22 rfl rfl ?_
  refine g_getR dX10_copy_23 fl10_28 rfl c0 (w10_2 hW c0) ?_
  refine g_aload_n 1 dX10_copy_26 rfl rfl ?_
  refine g_getR dX10_copy_27 fl10_28 rfl c1 (w10_2 hW c1) ?_
  exact g_callV (As := [.ref (a1 + 11)]) (st := []) dX10_copy_30 clX10_63 (s10_2 c0) rfl rfl (Nat.le_of_ble_eq_true rfl) (rmSH (by decide) (by decide)) h2
theorem bX10_copy_33 {X : pX} {Q : Option Value → pMem → Prop} {m : pMem} {a0 : Nat} {a1 : Nat} (hW : Wf m) (c0 : SH[a0]? = some (.inl 10)) (c1 : SH[a1]? = some (.inl 10))
    (h1 : Q none (uC (uC (uC (uI (uI (uI m a0 3 (mI m a1 3)) a0 4 (mI (uI m a0 3 (mI m a1 3)) a1 4)) a0 5 (mI (uI (uI m a0 3 (mI m a1 3)) a0 4 (mI (uI m a0 3 (mI m a1 3)) a1 4)) a1 5)) (a1 + 93) 0 (a0 + 93) 0 10) (a1 + 94) 0 (a0 + 94) 0 10) (a1 + 95) 0 (a0 + 95) 0 10)) :
    Go X 3 mX10_copy Q 33 [(0, .ref a0), (1, .ref a1)] [] m := by
  refine g_aload_n 0 dX10_copy_33 rfl rfl ?_
  refine g_aload_n 1 dX10_copy_34 rfl rfl ?_
  refine g_getI dX10_copy_35 fl10_32 c1 ?_
  refine g_putI dX10_copy_38 fl10_32 (fun h => by cases h) c0 ?_
  refine g_aload_n 0 dX10_copy_41 rfl rfl ?_
  refine g_aload_n 1 dX10_copy_42 rfl rfl ?_
  refine g_getI dX10_copy_43 fl10_66 c1 ?_
  refine g_putI dX10_copy_46 fl10_66 (fun h => by cases h) c0 ?_
  refine g_aload_n 0 dX10_copy_49 rfl rfl ?_
  refine g_aload_n 1 dX10_copy_50 rfl rfl ?_
  refine g_getI dX10_copy_51 fl10_58 c1 ?_
  refine g_putI dX10_copy_54 fl10_58 (fun h => by cases h) c0 ?_
  refine g_aload_n 1 dX10_copy_57 rfl rfl ?_
  refine g_getR dX10_copy_58 fl10_36 rfl c1 (w10_6 hW c1) ?_
  refine g_iconst (v := 0) dX10_copy_61 (by decide) ?_
  refine g_aload_n 0 dX10_copy_62 rfl rfl ?_
  refine g_getR dX10_copy_63 fl10_36 rfl c0 (w10_6 hW c0) ?_
  refine g_iconst (v := 0) dX10_copy_66 (by decide) ?_
  refine g_bipush (v := 10) dX10_copy_67 (by decide) ?_
  refine g_copyN (s1 := 0) (d1 := 0) (n1 := 10) dX10_copy_69 acwX10_69 (s10_6 c1) (s10_6 c0) (by decide) (by decide) (by decide) (by decide) (by decide) (by decide) (Nat.le_of_ble_eq_true rfl) ⟨by decide, by decide⟩ ?_
  refine g_aload_n 1 dX10_copy_72 rfl rfl ?_
  refine g_getR dX10_copy_73 fl10_40 rfl c1 (w10_7 hW c1) ?_
  refine g_iconst (v := 0) dX10_copy_76 (by decide) ?_
  refine g_aload_n 0 dX10_copy_77 rfl rfl ?_
  refine g_getR dX10_copy_78 fl10_40 rfl c0 (w10_7 hW c0) ?_
  refine g_iconst (v := 0) dX10_copy_81 (by decide) ?_
  refine g_bipush (v := 10) dX10_copy_82 (by decide) ?_
  refine g_copyN (s1 := 0) (d1 := 0) (n1 := 10) dX10_copy_84 acwX10_69 (s10_7 c1) (s10_7 c0) (by decide) (by decide) (by decide) (by decide) (by decide) (by decide) (Nat.le_of_ble_eq_true rfl) ⟨by decide, by decide⟩ ?_
  refine g_aload_n 1 dX10_copy_87 rfl rfl ?_
  refine g_getR dX10_copy_88 fl10_43 rfl c1 (w10_8 hW c1) ?_
  refine g_iconst (v := 0) dX10_copy_91 (by decide) ?_
  refine g_aload_n 0 dX10_copy_92 rfl rfl ?_
  refine g_getR dX10_copy_93 fl10_43 rfl c0 (w10_8 hW c0) ?_
  refine g_iconst (v := 0) dX10_copy_96 (by decide) ?_
  refine g_bipush (v := 10) dX10_copy_97 (by decide) ?_
  refine g_copyN (s1 := 0) (d1 := 0) (n1 := 10) dX10_copy_99 acwX10_69 (s10_8 c1) (s10_8 c0) (by decide) (by decide) (by decide) (by decide) (by decide) (by decide) (Nat.le_of_ble_eq_true rfl) ⟨by decide, by decide⟩ ?_
  exact g_vret dX10_copy_102 rfl enSH h1
theorem bX10_begin_0 {X : pX} {Q : Option Value → pMem → Prop} {m : pMem} {a0 : Nat} {a1 : Nat} (hW : Wf m) (c0 : SH[a0]? = some (.inl 10)) (c1 : SH[a1]? = some (.inl 4))
    (h1 : mI m a1 0 = 0 ∨ mI m a1 0 = 1)
    (h2 : Cl X 0 mX2_clear [.ref (a0 + 11)] (beS (cpR m (a0 + 1) a1) (a0 + 1) (a0 + 7)) (fun v m2 => Go X 2 mX10_begin Q 26 [(0, .ref a0), (1, .ref a1)] (v.toList ++ []) m2)) :
    Go X 2 mX10_begin Q 0 [(0, .ref a0), (1, .ref a1)] [] m := by
  refine g_aload_n 0 dX10_begin_0 rfl rfl ?_
  refine g_getR dX10_begin_1 fl10_12 rfl c0 (w10_0 hW c0) ?_
  refine g_aload_n 1 dX10_begin_4 rfl rfl ?_
  refine g_callV (As := [.ref a1]) (st := []) dX10_begin_5 clX10_53 (s10_0 c0) rfl rfl (Nat.le_of_ble_eq_true rfl) (rmSH (by decide) (by decide)) (s_copyR hW (s10_0 c0) c1 h1 ?_)
  show Go X 2 mX10_begin Q 8 [(0, .ref a0), (1, .ref a1)] [] (cpR m (a0 + 1) a1)
  refine g_aload_n 0 dX10_begin_8 rfl rfl ?_
  refine g_getR dX10_begin_9 fl10_12 rfl c0 (w10_0 hW c0) ?_
  refine g_aload_n 0 dX10_begin_12 rfl rfl ?_
  refine g_getR dX10_begin_13 fl10_21 rfl c0 (w10_1 hW c0) ?_
  refine g_callV (As := [.ref (a0 + 7)]) (st := []) dX10_begin_16 clX10_49 (s10_0 c0) rfl rfl (Nat.le_of_ble_eq_true rfl) (rmSH (by decide) (by decide)) (s_beginS hW (s10_0 c0) (s10_1 c0) ?_)
  show Go X 2 mX10_begin Q 19 [(0, .ref a0), (1, .ref a1)] [] (beS (cpR m (a0 + 1) a1) (a0 + 1) (a0 + 7))
  refine g_aload_n 0 dX10_begin_19 rfl rfl ?_
  refine g_getR dX10_begin_20 fl10_28 rfl c0 (w10_2 hW c0) ?_
  exact g_callV (As := []) (st := []) dX10_begin_23 clX10_57 (s10_2 c0) rfl rfl (Nat.le_of_ble_eq_true rfl) (rmSH (by decide) (by decide)) h2
theorem bX10_begin_26 {X : pX} {Q : Option Value → pMem → Prop} {m : pMem} {a0 : Nat} {a1 : Nat} (hW : Wf m) (c0 : SH[a0]? = some (.inl 10)) (c1 : SH[a1]? = some (.inl 4))
    (h1 : Q none (uI m a0 5 (0 : Int32))) :
    Go X 2 mX10_begin Q 26 [(0, .ref a0), (1, .ref a1)] [] m := by
  refine g_aload_n 0 dX10_begin_26 rfl rfl ?_
  refine g_iconst (v := 0) dX10_begin_27 (by decide) ?_
  refine g_putI dX10_begin_28 fl10_58 (fun h => by cases h) c0 ?_
  exact g_vret dX10_begin_31 rfl enSH h1
theorem bX11_image_0 {X : pX} {Q : Option Value → pMem → Prop} {m : pMem} {x1 : Int32} (hW : Wf m)
    (h1 : x1 < 0 → Q (some (.int (-1 : Int32))) m)
    (h2 : ¬ (x1 < 0) → x1 < (4 : Int32) → vp_in x1 4)
    (h3 : ¬ (x1 < 0) → x1 < (4 : Int32) → Cl X 3 mX10_copy [.ref (127 + 96 * x1.toNatClampNeg), .ref 30] m (fun v m2 => Go X 4 mX11_image Q 24 [(0, .ref 0), (1, .int x1)] (v.toList ++ []) m2))
    (h4 : ¬ (x1 < 0) → ¬ (x1 < (4 : Int32)) → Q (some (.int (-1 : Int32))) m) :
    Go X 4 mX11_image Q 0 [(0, .ref 0), (1, .int x1)] [] m := by
  refine g_iload_n 1 dX11_image_0 rfl rfl ?_
  refine g_if_lt 9 dX11_image_1 (by decide) (fun q1 => ?_) (fun q1 => ?_)
  · refine g_iconst (v := -1) dX11_image_9 (by decide) ?_
    exact g_iret dX11_image_10 rfl enSH (h1 q1)
  · refine g_iload_n 1 dX11_image_4 rfl rfl ?_
    refine g_iconst (v := 4) dX11_image_5 (by decide) ?_
    refine g_icmp_lt 11 dX11_image_6 (by decide) (fun q2 => ?_) (fun q2 => ?_)
    · refine g_aload_n 0 dX11_image_11 rfl rfl ?_
      refine g_getR dX11_image_12 fl11_46 rfl sh0 (w11_6 hW sh0) ?_
      refine g_iload_n 1 dX11_image_15 rfl rfl ?_
      refine g_aald dX11_image_16 sh126 (by decide) (h2 q1 q2) rfl (wImages hW (inN (h2 q1 q2))) ?_
      refine g_aload_n 0 dX11_image_17 rfl rfl ?_
      refine g_getR dX11_image_18 fl11_42 rfl sh0 (w11_5 hW sh0) ?_
      exact g_callV (As := [.ref 30]) (st := []) dX11_image_21 clX11_354 (shImages _ (inN (h2 q1 q2))) rfl rfl (Nat.le_of_ble_eq_true rfl) (rmSH (by decide) (by decide)) (h3 q1 q2)
    · refine g_iconst (v := -1) dX11_image_9 (by decide) ?_
      exact g_iret dX11_image_10 rfl enSH (h4 q1 q2)
theorem bX11_image_24 {X : pX} {Q : Option Value → pMem → Prop} {m : pMem} {x1 : Int32} (hW : Wf m)
    (h1 : vp_in x1 4)
    (h2 : Q (some (.int (mI m 37 0))) (uI m 511 x1.toNatClampNeg (1 : Int32))) :
    Go X 4 mX11_image Q 24 [(0, .ref 0), (1, .int x1)] [] m := by
  refine g_aload_n 0 dX11_image_24 rfl rfl ?_
  refine g_getR dX11_image_25 fl11_50 rfl sh0 (w11_7 hW sh0) ?_
  refine g_iload_n 1 dX11_image_28 rfl rfl ?_
  refine g_iconst (v := 1) dX11_image_29 (by decide) ?_
  refine g_zast (j := x1.toNatClampNeg) dX11_image_30 sh511 h1 rfl (Or.inr rfl) ?_
  refine g_aload_n 0 dX11_image_31 rfl rfl ?_
  refine g_getR dX11_image_32 fl11_42 rfl sh0 (w11_5 hW sh0) ?_
  refine g_getR dX11_image_35 fl11_69 rfl sh30 (w10_1 hW sh30) ?_
  refine g_getI dX11_image_38 fl11_185 (s10_1 sh30) ?_
  exact g_iret dX11_image_41 rfl enSH h2
theorem bX11_back_0 {X : pX} {Q : Option Value → pMem → Prop} {m : pMem} {x1 : Int32} (hW : Wf m)
    (h1 : x1 < 0 → Q (some (.int (-1 : Int32))) m)
    (h2 : ¬ (x1 < 0) → (4 : Int32) ≤ x1 → Q (some (.int (-1 : Int32))) m)
    (h3 : ¬ (x1 < 0) → ¬ ((4 : Int32) ≤ x1) → vp_in x1 4)
    (h4 : ¬ (x1 < 0) → ¬ ((4 : Int32) ≤ x1) → ¬ (mI m 511 x1.toNatClampNeg) = 0 → vp_in x1 4)
    (h5 : ¬ (x1 < 0) → ¬ ((4 : Int32) ≤ x1) → ¬ (mI m 511 x1.toNatClampNeg) = 0 → Cl X 3 mX10_copy [.ref 30, .ref (127 + 96 * x1.toNatClampNeg)] m (fun v m2 => Go X 4 mX11_back Q 33 [(0, .ref 0), (1, .int x1)] (v.toList ++ []) m2))
    (h6 : ¬ (x1 < 0) → ¬ ((4 : Int32) ≤ x1) → (mI m 511 x1.toNatClampNeg) = 0 → Q (some (.int (-1 : Int32))) m) :
    Go X 4 mX11_back Q 0 [(0, .ref 0), (1, .int x1)] [] m := by
  refine g_iload_n 1 dX11_back_0 rfl rfl ?_
  refine g_if_lt 18 dX11_back_1 (by decide) (fun q1 => ?_) (fun q1 => ?_)
  · refine g_iconst (v := -1) dX11_back_18 (by decide) ?_
    exact g_iret dX11_back_19 rfl enSH (h1 q1)
  · refine g_iload_n 1 dX11_back_4 rfl rfl ?_
    refine g_iconst (v := 4) dX11_back_5 (by decide) ?_
    refine g_icmp_ge 18 dX11_back_6 (by decide) (fun q2 => ?_) (fun q2 => ?_)
    · refine g_iconst (v := -1) dX11_back_18 (by decide) ?_
      exact g_iret dX11_back_19 rfl enSH (h2 q1 q2)
    · refine g_aload_n 0 dX11_back_9 rfl rfl ?_
      refine g_getR dX11_back_10 fl11_50 rfl sh0 (w11_7 hW sh0) ?_
      refine g_iload_n 1 dX11_back_13 rfl rfl ?_
      refine g_zald (j := x1.toNatClampNeg) dX11_back_14 sh511 (h3 q1 q2) rfl ?_
      refine g_if_ne 20 dX11_back_15 (by decide) (fun q3 => ?_) (fun q3 => ?_)
      · refine g_aload_n 0 dX11_back_20 rfl rfl ?_
        refine g_getR dX11_back_21 fl11_42 rfl sh0 (w11_5 hW sh0) ?_
        refine g_aload_n 0 dX11_back_24 rfl rfl ?_
        refine g_getR dX11_back_25 fl11_46 rfl sh0 (w11_6 hW sh0) ?_
        refine g_iload_n 1 dX11_back_28 rfl rfl ?_
        refine g_aald dX11_back_29 sh126 (by decide) (h4 q1 q2 q3) rfl (wImages hW (inN (h4 q1 q2 q3))) ?_
        exact g_callV (As := [.ref (127 + 96 * x1.toNatClampNeg)]) (st := []) dX11_back_30 clX11_354 sh30 rfl rfl (Nat.le_of_ble_eq_true rfl) (rmSH (by decide) (by decide)) (h5 q1 q2 q3)
      · refine g_iconst (v := -1) dX11_back_18 (by decide) ?_
        exact g_iret dX11_back_19 rfl enSH (h6 q1 q2 q3)
theorem bX11_back_33 {X : pX} {Q : Option Value → pMem → Prop} {m : pMem} {x1 : Int32} (hW : Wf m)
    (h1 : Q (some (.int (mI m 37 0))) m) :
    Go X 4 mX11_back Q 33 [(0, .ref 0), (1, .int x1)] [] m := by
  refine g_aload_n 0 dX11_back_33 rfl rfl ?_
  refine g_getR dX11_back_34 fl11_42 rfl sh0 (w11_5 hW sh0) ?_
  refine g_getR dX11_back_37 fl11_69 rfl sh30 (w10_1 hW sh30) ?_
  refine g_getI dX11_back_40 fl11_185 (s10_1 sh30) ?_
  exact g_iret dX11_back_43 rfl enSH h1
theorem bX12_image_0 {X : pX} {Q : Option Value → pMem → Prop} {m : pMem} {x1 : Int32} (hW : Wf m)
    (h1 : ¬ x1 < (0 : Int32) ∧ ¬ (3 : Int32) < x1 → vp_in x1 4)
    (h2 : ¬ x1 < (0 : Int32) ∧ ¬ (3 : Int32) < x1 → Cl X 1 mX12_carriesAll [.ref 535, .int x1, .int (0 : Int32)] (uI m 571 x1.toNatClampNeg (1 : Int32)) (fun v m2 => Go X 2 mX12_image Q 27 [(0, .ref 535), (1, .int x1)] (v.toList ++ []) m2))
    (h3 : ¬ (¬ x1 < (0 : Int32) ∧ ¬ (3 : Int32) < x1) → Q (some (.int (-1 : Int32))) m) :
    Go X 2 mX12_image Q 0 [(0, .ref 535), (1, .int x1)] [] m := by
  refine g_iload_n 1 dX12_image_0 rfl rfl ?_
  refine g_i2l dX12_image_1 ?_
  refine g_lconst (v := 0) dX12_image_2 (by decide) ?_
  refine g_ldc2 (v := 3) dX12_image_3 cjX12_493 ?_
  refine g_callS (As := [.long x1.toInt64, .long (0 : Int64), .long (3 : Int64)]) (st := []) dX12_image_6 clX12_128 rfl rfl (Nat.le_of_ble_eq_true rfl) (rmSH (by decide) (by decide)) (s_in (x := x1) (lo := (0 : Int32)) (hi := (3 : Int32)) hW (by first | rfl | decide) (by first | rfl | decide) (by first | rfl | decide) (fun q1 => ?_) (fun q1 => ?_))
  · refine g_if_ne 14 dX12_image_9 (by decide) (fun q2 => ?_) (fun q2 => absurd q2 (by decide))
    refine g_aload_n 0 dX12_image_14 rfl rfl ?_
    refine g_getR dX12_image_15 fl12_121 rfl sh535 (w12_53 hW sh535) ?_
    refine g_iload_n 1 dX12_image_18 rfl rfl ?_
    refine g_iconst (v := 1) dX12_image_19 (by decide) ?_
    refine g_zast (j := x1.toNatClampNeg) dX12_image_20 (s12_53 sh535) (h1 q1) rfl (Or.inr rfl) ?_
    refine g_aload_n 0 dX12_image_21 rfl rfl ?_
    refine g_iload_n 1 dX12_image_22 rfl rfl ?_
    refine g_iconst (v := 0) dX12_image_23 (by decide) ?_
    exact g_callV (As := [.int x1, .int (0 : Int32)]) (st := []) dX12_image_24 clX12_404 sh535 rfl rfl (Nat.le_of_ble_eq_true rfl) (rmSH (by decide) (by decide)) (h2 q1)
  · refine g_if_ne 14 dX12_image_9 (by decide) (fun q3 => absurd q3 (by decide)) (fun q3 => ?_)
    refine g_iconst (v := -1) dX12_image_12 (by decide) ?_
    exact g_iret dX12_image_13 rfl enSH (h3 q1)
theorem bX12_image_27 {X : pX} {Q : Option Value → pMem → Prop} {m : pMem} {x1 : Int32} (hW : Wf m)
    (h1 : Q (some (.int (mI m 536 5))) m) :
    Go X 2 mX12_image Q 27 [(0, .ref 535), (1, .int x1)] [] m := by
  refine g_aload_n 0 dX12_image_27 rfl rfl ?_
  refine g_getR dX12_image_28 fl12_9 rfl sh535 (w12_1 hW sh535) ?_
  refine g_iconst (v := 5) dX12_image_31 (by decide) ?_
  refine g_iald (j := 5) dX12_image_32 (s12_1 sh535) (by unfold vp_in; decide) (by decide) ?_
  exact g_iret dX12_image_33 rfl enSH h1
theorem bX12_back_0 {X : pX} {Q : Option Value → pMem → Prop} {m : pMem} {x1 : Int32} (hW : Wf m)
    (h1 : ¬ x1 < (0 : Int32) ∧ ¬ (3 : Int32) < x1 → vp_in x1 4)
    (h2 : ¬ x1 < (0 : Int32) ∧ ¬ (3 : Int32) < x1 → ¬ (mI m 571 x1.toNatClampNeg) = 0 → Cl X 1 mX12_carriesAll [.ref 535, .int x1, .int (1 : Int32)] m (fun v m2 => Go X 2 mX12_back Q 29 [(0, .ref 535), (1, .int x1)] (v.toList ++ []) m2))
    (h3 : ¬ x1 < (0 : Int32) ∧ ¬ (3 : Int32) < x1 → (mI m 571 x1.toNatClampNeg) = 0 → Q (some (.int (-1 : Int32))) m)
    (h4 : ¬ (¬ x1 < (0 : Int32) ∧ ¬ (3 : Int32) < x1) → Q (some (.int (-1 : Int32))) m) :
    Go X 2 mX12_back Q 0 [(0, .ref 535), (1, .int x1)] [] m := by
  refine g_iload_n 1 dX12_back_0 rfl rfl ?_
  refine g_i2l dX12_back_1 ?_
  refine g_lconst (v := 0) dX12_back_2 (by decide) ?_
  refine g_ldc2 (v := 3) dX12_back_3 cjX12_493 ?_
  refine g_callS (As := [.long x1.toInt64, .long (0 : Int64), .long (3 : Int64)]) (st := []) dX12_back_6 clX12_128 rfl rfl (Nat.le_of_ble_eq_true rfl) (rmSH (by decide) (by decide)) (s_in (x := x1) (lo := (0 : Int32)) (hi := (3 : Int32)) hW (by first | rfl | decide) (by first | rfl | decide) (by first | rfl | decide) (fun q1 => ?_) (fun q1 => ?_))
  · refine g_if_eq 21 dX12_back_9 (by decide) (fun q2 => absurd q2 (by decide)) (fun q2 => ?_)
    refine g_aload_n 0 dX12_back_12 rfl rfl ?_
    refine g_getR dX12_back_13 fl12_121 rfl sh535 (w12_53 hW sh535) ?_
    refine g_iload_n 1 dX12_back_16 rfl rfl ?_
    refine g_zald (j := x1.toNatClampNeg) dX12_back_17 (s12_53 sh535) (h1 q1) rfl ?_
    refine g_if_ne 23 dX12_back_18 (by decide) (fun q3 => ?_) (fun q3 => ?_)
    · refine g_aload_n 0 dX12_back_23 rfl rfl ?_
      refine g_iload_n 1 dX12_back_24 rfl rfl ?_
      refine g_iconst (v := 1) dX12_back_25 (by decide) ?_
      exact g_callV (As := [.int x1, .int (1 : Int32)]) (st := []) dX12_back_26 clX12_404 sh535 rfl rfl (Nat.le_of_ble_eq_true rfl) (rmSH (by decide) (by decide)) (h2 q1 q3)
    · refine g_iconst (v := -1) dX12_back_21 (by decide) ?_
      exact g_iret dX12_back_22 rfl enSH (h3 q1 q3)
  · refine g_if_eq 21 dX12_back_9 (by decide) (fun q4 => ?_) (fun q4 => absurd q4 (by decide))
    refine g_iconst (v := -1) dX12_back_21 (by decide) ?_
    exact g_iret dX12_back_22 rfl enSH (h4 q1)
theorem bX12_back_29 {X : pX} {Q : Option Value → pMem → Prop} {m : pMem} {x1 : Int32} (hW : Wf m)
    (h1 : Q (some (.int (mI m 536 5))) m) :
    Go X 2 mX12_back Q 29 [(0, .ref 535), (1, .int x1)] [] m := by
  refine g_aload_n 0 dX12_back_29 rfl rfl ?_
  refine g_getR dX12_back_30 fl12_9 rfl sh535 (w12_1 hW sh535) ?_
  refine g_iconst (v := 5) dX12_back_33 (by decide) ?_
  refine g_iald (j := 5) dX12_back_34 (s12_1 sh535) (by unfold vp_in; decide) (by decide) ?_
  exact g_iret dX12_back_35 rfl enSH h1
theorem bX11_feed_0 {X : pX} {Q : Option Value → pMem → Prop} {m : pMem} {x1 : Int32} {x2 : Int32} {x3 : Int32} {x4 : Int32} {x5 : Int32} (hW : Wf m)
    (h1 : Cl X 0 mX9_hasRoom [.ref 1, .int (20 : Int32)] m (fun v m2 => Go X 1 mX11_feed Q 9 [(0, .ref 0), (1, .int x1), (2, .int x2), (3, .int x3), (4, .int x4), (5, .int x5)] (v.toList ++ []) m2)) :
    Go X 1 mX11_feed Q 0 [(0, .ref 0), (1, .int x1), (2, .int x2), (3, .int x3), (4, .int x4), (5, .int x5)] [] m := by
  refine g_aload_n 0 dX11_feed_0 rfl rfl ?_
  refine g_getR dX11_feed_1 fl11_10 rfl sh0 (w11_0 hW sh0) ?_
  refine g_bipush (v := 20) dX11_feed_4 (by decide) ?_
  exact g_callV (As := [.int (20 : Int32)]) (st := []) dX11_feed_6 clX11_98 sh1 rfl rfl (Nat.le_of_ble_eq_true rfl) (rmSH (by decide) (by decide)) h1
theorem bX11_feed_9 {X : pX} {Q : Option Value → pMem → Prop} {m : pMem} {x1 : Int32} {x2 : Int32} {x3 : Int32} {x4 : Int32} {x5 : Int32} {xs0 : Int32} (hW : Wf m)
    (h1 : ¬ xs0 = 0 → Cl X 0 mX9_add [.ref 1, .int x1] m (fun v m2 => Go X 1 mX11_feed Q 22 [(0, .ref 0), (1, .int x1), (2, .int x2), (3, .int x3), (4, .int x4), (5, .int x5)] (v.toList ++ []) m2))
    (h2 : xs0 = 0 → Q (some (.int (-1 : Int32))) m) :
    Go X 1 mX11_feed Q 9 [(0, .ref 0), (1, .int x1), (2, .int x2), (3, .int x3), (4, .int x4), (5, .int x5)] [.int xs0] m := by
  refine g_if_ne 14 dX11_feed_9 (by decide) (fun q1 => ?_) (fun q1 => ?_)
  · refine g_aload_n 0 dX11_feed_14 rfl rfl ?_
    refine g_getR dX11_feed_15 fl11_10 rfl sh0 (w11_0 hW sh0) ?_
    refine g_iload_n 1 dX11_feed_18 rfl rfl ?_
    exact g_callV (As := [.int x1]) (st := []) dX11_feed_19 clX11_102 sh1 rfl rfl (Nat.le_of_ble_eq_true rfl) (rmSH (by decide) (by decide)) (h1 q1)
  · refine g_iconst (v := -1) dX11_feed_12 (by decide) ?_
    exact g_iret dX11_feed_13 rfl enSH (h2 q1)
theorem bX11_feed_22 {X : pX} {Q : Option Value → pMem → Prop} {m : pMem} {x1 : Int32} {x2 : Int32} {x3 : Int32} {x4 : Int32} {x5 : Int32} (hW : Wf m)
    (h1 : Cl X 0 mX9_add [.ref 1, .int x2] m (fun v m2 => Go X 1 mX11_feed Q 30 [(0, .ref 0), (1, .int x1), (2, .int x2), (3, .int x3), (4, .int x4), (5, .int x5)] (v.toList ++ []) m2)) :
    Go X 1 mX11_feed Q 22 [(0, .ref 0), (1, .int x1), (2, .int x2), (3, .int x3), (4, .int x4), (5, .int x5)] [] m := by
  refine g_aload_n 0 dX11_feed_22 rfl rfl ?_
  refine g_getR dX11_feed_23 fl11_10 rfl sh0 (w11_0 hW sh0) ?_
  refine g_iload_n 2 dX11_feed_26 rfl rfl ?_
  exact g_callV (As := [.int x2]) (st := []) dX11_feed_27 clX11_102 sh1 rfl rfl (Nat.le_of_ble_eq_true rfl) (rmSH (by decide) (by decide)) h1
theorem bX11_feed_30 {X : pX} {Q : Option Value → pMem → Prop} {m : pMem} {x1 : Int32} {x2 : Int32} {x3 : Int32} {x4 : Int32} {x5 : Int32} (hW : Wf m)
    (h1 : Cl X 0 mX9_add [.ref 1, .int x3] m (fun v m2 => Go X 1 mX11_feed Q 38 [(0, .ref 0), (1, .int x1), (2, .int x2), (3, .int x3), (4, .int x4), (5, .int x5)] (v.toList ++ []) m2)) :
    Go X 1 mX11_feed Q 30 [(0, .ref 0), (1, .int x1), (2, .int x2), (3, .int x3), (4, .int x4), (5, .int x5)] [] m := by
  refine g_aload_n 0 dX11_feed_30 rfl rfl ?_
  refine g_getR dX11_feed_31 fl11_10 rfl sh0 (w11_0 hW sh0) ?_
  refine g_iload_n 3 dX11_feed_34 rfl rfl ?_
  exact g_callV (As := [.int x3]) (st := []) dX11_feed_35 clX11_102 sh1 rfl rfl (Nat.le_of_ble_eq_true rfl) (rmSH (by decide) (by decide)) h1
theorem bX11_feed_38 {X : pX} {Q : Option Value → pMem → Prop} {m : pMem} {x1 : Int32} {x2 : Int32} {x3 : Int32} {x4 : Int32} {x5 : Int32} (hW : Wf m)
    (h1 : Cl X 0 mX9_add [.ref 1, .int x4] m (fun v m2 => Go X 1 mX11_feed Q 47 [(0, .ref 0), (1, .int x1), (2, .int x2), (3, .int x3), (4, .int x4), (5, .int x5)] (v.toList ++ []) m2)) :
    Go X 1 mX11_feed Q 38 [(0, .ref 0), (1, .int x1), (2, .int x2), (3, .int x3), (4, .int x4), (5, .int x5)] [] m := by
  refine g_aload_n 0 dX11_feed_38 rfl rfl ?_
  refine g_getR dX11_feed_39 fl11_10 rfl sh0 (w11_0 hW sh0) ?_
  refine g_iload 4 dX11_feed_42 rfl ?_
  exact g_callV (As := [.int x4]) (st := []) dX11_feed_44 clX11_102 sh1 rfl rfl (Nat.le_of_ble_eq_true rfl) (rmSH (by decide) (by decide)) h1
theorem bX11_feed_47 {X : pX} {Q : Option Value → pMem → Prop} {m : pMem} {x1 : Int32} {x2 : Int32} {x3 : Int32} {x4 : Int32} {x5 : Int32} (hW : Wf m)
    (h1 : Cl X 0 mX9_add [.ref 1, .int x5] m (fun v m2 => Go X 1 mX11_feed Q 56 [(0, .ref 0), (1, .int x1), (2, .int x2), (3, .int x3), (4, .int x4), (5, .int x5)] (v.toList ++ []) m2)) :
    Go X 1 mX11_feed Q 47 [(0, .ref 0), (1, .int x1), (2, .int x2), (3, .int x3), (4, .int x4), (5, .int x5)] [] m := by
  refine g_aload_n 0 dX11_feed_47 rfl rfl ?_
  refine g_getR dX11_feed_48 fl11_10 rfl sh0 (w11_0 hW sh0) ?_
  refine g_iload 5 dX11_feed_51 rfl ?_
  exact g_callV (As := [.int x5]) (st := []) dX11_feed_53 clX11_102 sh1 rfl rfl (Nat.le_of_ble_eq_true rfl) (rmSH (by decide) (by decide)) h1
theorem bX11_feed_56 {X : pX} {Q : Option Value → pMem → Prop} {m : pMem} {x1 : Int32} {x2 : Int32} {x3 : Int32} {x4 : Int32} {x5 : Int32} (hW : Wf m)
    (h1 : Q (some (.int (mI m 1 1))) m) :
    Go X 1 mX11_feed Q 56 [(0, .ref 0), (1, .int x1), (2, .int x2), (3, .int x3), (4, .int x4), (5, .int x5)] [] m := by
  refine g_aload_n 0 dX11_feed_56 rfl rfl ?_
  refine g_getR dX11_feed_57 fl11_10 rfl sh0 (w11_0 hW sh0) ?_
  refine g_getI dX11_feed_60 fl11_106 sh1 ?_
  exact g_iret dX11_feed_63 rfl enSH h1
theorem bX12_feed_0 {X : pX} {Q : Option Value → pMem → Prop} {m : pMem} {x1 : Int32} {x2 : Int32} {x3 : Int32} {x4 : Int32} {x5 : Int32} (hW : Wf m)
    (h1 : ((mI m 535 19) + (20 : Int32)) ≤ (400 : Int32) → Cl X 0 mX12_put [.ref 535, .int x1] m (fun v m2 => Go X 1 mX12_feed Q 20 [(0, .ref 535), (1, .int x1), (2, .int x2), (3, .int x3), (4, .int x4), (5, .int x5)] (v.toList ++ []) m2))
    (h2 : ¬ (((mI m 535 19) + (20 : Int32)) ≤ (400 : Int32)) → Q (some (.int (-1 : Int32))) m) :
    Go X 1 mX12_feed Q 0 [(0, .ref 535), (1, .int x1), (2, .int x2), (3, .int x3), (4, .int x4), (5, .int x5)] [] m := by
  refine g_aload_n 0 dX12_feed_0 rfl rfl ?_
  refine g_getI dX12_feed_1 fl12_132 sh535 ?_
  refine g_bipush (v := 20) dX12_feed_4 (by decide) ?_
  refine g_iadd dX12_feed_6 ?_
  refine g_sipush (v := 400) dX12_feed_7 (by decide) ?_
  refine g_icmp_le 15 dX12_feed_10 (by decide) (fun q1 => ?_) (fun q1 => ?_)
  · refine g_aload_n 0 dX12_feed_15 rfl rfl ?_
    refine g_iload_n 1 dX12_feed_16 rfl rfl ?_
    exact g_callV (As := [.int x1]) (st := []) dX12_feed_17 clX12_135 sh535 rfl rfl (Nat.le_of_ble_eq_true rfl) (rmSH (by decide) (by decide)) (h1 q1)
  · refine g_iconst (v := -1) dX12_feed_13 (by decide) ?_
    exact g_iret dX12_feed_14 rfl enSH (h2 q1)
theorem bX12_feed_20 {X : pX} {Q : Option Value → pMem → Prop} {m : pMem} {x1 : Int32} {x2 : Int32} {x3 : Int32} {x4 : Int32} {x5 : Int32} (hW : Wf m)
    (h1 : Cl X 0 mX12_put [.ref 535, .int x2] m (fun v m2 => Go X 1 mX12_feed Q 25 [(0, .ref 535), (1, .int x1), (2, .int x2), (3, .int x3), (4, .int x4), (5, .int x5)] (v.toList ++ []) m2)) :
    Go X 1 mX12_feed Q 20 [(0, .ref 535), (1, .int x1), (2, .int x2), (3, .int x3), (4, .int x4), (5, .int x5)] [] m := by
  refine g_aload_n 0 dX12_feed_20 rfl rfl ?_
  refine g_iload_n 2 dX12_feed_21 rfl rfl ?_
  exact g_callV (As := [.int x2]) (st := []) dX12_feed_22 clX12_135 sh535 rfl rfl (Nat.le_of_ble_eq_true rfl) (rmSH (by decide) (by decide)) h1
theorem bX12_feed_25 {X : pX} {Q : Option Value → pMem → Prop} {m : pMem} {x1 : Int32} {x2 : Int32} {x3 : Int32} {x4 : Int32} {x5 : Int32} (hW : Wf m)
    (h1 : Cl X 0 mX12_put [.ref 535, .int x3] m (fun v m2 => Go X 1 mX12_feed Q 30 [(0, .ref 535), (1, .int x1), (2, .int x2), (3, .int x3), (4, .int x4), (5, .int x5)] (v.toList ++ []) m2)) :
    Go X 1 mX12_feed Q 25 [(0, .ref 535), (1, .int x1), (2, .int x2), (3, .int x3), (4, .int x4), (5, .int x5)] [] m := by
  refine g_aload_n 0 dX12_feed_25 rfl rfl ?_
  refine g_iload_n 3 dX12_feed_26 rfl rfl ?_
  exact g_callV (As := [.int x3]) (st := []) dX12_feed_27 clX12_135 sh535 rfl rfl (Nat.le_of_ble_eq_true rfl) (rmSH (by decide) (by decide)) h1
theorem bX12_feed_30 {X : pX} {Q : Option Value → pMem → Prop} {m : pMem} {x1 : Int32} {x2 : Int32} {x3 : Int32} {x4 : Int32} {x5 : Int32} (hW : Wf m)
    (h1 : Cl X 0 mX12_put [.ref 535, .int x4] m (fun v m2 => Go X 1 mX12_feed Q 36 [(0, .ref 535), (1, .int x1), (2, .int x2), (3, .int x3), (4, .int x4), (5, .int x5)] (v.toList ++ []) m2)) :
    Go X 1 mX12_feed Q 30 [(0, .ref 535), (1, .int x1), (2, .int x2), (3, .int x3), (4, .int x4), (5, .int x5)] [] m := by
  refine g_aload_n 0 dX12_feed_30 rfl rfl ?_
  refine g_iload 4 dX12_feed_31 rfl ?_
  exact g_callV (As := [.int x4]) (st := []) dX12_feed_33 clX12_135 sh535 rfl rfl (Nat.le_of_ble_eq_true rfl) (rmSH (by decide) (by decide)) h1
theorem bX12_feed_36 {X : pX} {Q : Option Value → pMem → Prop} {m : pMem} {x1 : Int32} {x2 : Int32} {x3 : Int32} {x4 : Int32} {x5 : Int32} (hW : Wf m)
    (h1 : Cl X 0 mX12_put [.ref 535, .int x5] m (fun v m2 => Go X 1 mX12_feed Q 42 [(0, .ref 535), (1, .int x1), (2, .int x2), (3, .int x3), (4, .int x4), (5, .int x5)] (v.toList ++ []) m2)) :
    Go X 1 mX12_feed Q 36 [(0, .ref 535), (1, .int x1), (2, .int x2), (3, .int x3), (4, .int x4), (5, .int x5)] [] m := by
  refine g_aload_n 0 dX12_feed_36 rfl rfl ?_
  refine g_iload 5 dX12_feed_37 rfl ?_
  exact g_callV (As := [.int x5]) (st := []) dX12_feed_39 clX12_135 sh535 rfl rfl (Nat.le_of_ble_eq_true rfl) (rmSH (by decide) (by decide)) h1
theorem bX12_feed_42 {X : pX} {Q : Option Value → pMem → Prop} {m : pMem} {x1 : Int32} {x2 : Int32} {x3 : Int32} {x4 : Int32} {x5 : Int32} (hW : Wf m)
    (h1 : Q (some (.int (mI m 535 19))) m) :
    Go X 1 mX12_feed Q 42 [(0, .ref 535), (1, .int x1), (2, .int x2), (3, .int x3), (4, .int x4), (5, .int x5)] [] m := by
  refine g_aload_n 0 dX12_feed_42 rfl rfl ?_
  refine g_getI dX12_feed_43 fl12_132 sh535 ?_
  exact g_iret dX12_feed_46 rfl enSH h1
