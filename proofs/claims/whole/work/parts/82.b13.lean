theorem bX12_areTogether_0 {X : pX} {Q : Option Value → pMem → Prop} {m : pMem} {x1 : Int32} {x2 : Int32} (hW : Wf m)
    (h1 : vp_in (mI m 536 3) 5)
    (h2 : ((¬ x1 < 0 ∧ ¬ (mI m 536 3 - (1 : Int32)) < x1) ∧ mI m 538 x1.toNatClampNeg = 0) → vp_in (mI m 536 3) 5)
    (h3 : ((¬ x1 < 0 ∧ ¬ (mI m 536 3 - (1 : Int32)) < x1) ∧ mI m 538 x1.toNatClampNeg = 0) → ((¬ x2 < 0 ∧ ¬ (mI m 536 3 - (1 : Int32)) < x2) ∧ mI m 538 x2.toNatClampNeg = 0) → x1 = x2 → Q (some (.int (0 : Int32))) m)
    (h4 : ((¬ x1 < 0 ∧ ¬ (mI m 536 3 - (1 : Int32)) < x1) ∧ mI m 538 x1.toNatClampNeg = 0) → ((¬ x2 < 0 ∧ ¬ (mI m 536 3 - (1 : Int32)) < x2) ∧ mI m 538 x2.toNatClampNeg = 0) → ¬ (x1 = x2) → vp_in x1 4)
    (h5 : ((¬ x1 < 0 ∧ ¬ (mI m 536 3 - (1 : Int32)) < x1) ∧ mI m 538 x1.toNatClampNeg = 0) → ((¬ x2 < 0 ∧ ¬ (mI m 536 3 - (1 : Int32)) < x2) ∧ mI m 538 x2.toNatClampNeg = 0) → ¬ (x1 = x2) → vp_in x2 4)
    (h6 : ((¬ x1 < 0 ∧ ¬ (mI m 536 3 - (1 : Int32)) < x1) ∧ mI m 538 x1.toNatClampNeg = 0) → ((¬ x2 < 0 ∧ ¬ (mI m 536 3 - (1 : Int32)) < x2) ∧ mI m 538 x2.toNatClampNeg = 0) → ¬ (x1 = x2) → ¬ (mI m 537 x1.toNatClampNeg) = (mI m 537 x2.toNatClampNeg) → Q (some (.int (0 : Int32))) m)
    (h7 : ((¬ x1 < 0 ∧ ¬ (mI m 536 3 - (1 : Int32)) < x1) ∧ mI m 538 x1.toNatClampNeg = 0) → ((¬ x2 < 0 ∧ ¬ (mI m 536 3 - (1 : Int32)) < x2) ∧ mI m 538 x2.toNatClampNeg = 0) → ¬ (x1 = x2) → (mI m 537 x1.toNatClampNeg) = (mI m 537 x2.toNatClampNeg) → Q (some (.int (1 : Int32))) m)
    (h8 : ((¬ x1 < 0 ∧ ¬ (mI m 536 3 - (1 : Int32)) < x1) ∧ mI m 538 x1.toNatClampNeg = 0) → ¬ (((¬ x2 < 0 ∧ ¬ (mI m 536 3 - (1 : Int32)) < x2) ∧ mI m 538 x2.toNatClampNeg = 0)) → Q (some (.int (0 : Int32))) m)
    (h9 : ¬ (((¬ x1 < 0 ∧ ¬ (mI m 536 3 - (1 : Int32)) < x1) ∧ mI m 538 x1.toNatClampNeg = 0)) → Q (some (.int (0 : Int32))) m) :
    Go X 3 mX12_areTogether Q 0 [(0, .ref 535), (1, .int x1), (2, .int x2)] [] m := by
  refine g_aload_n 0 dX12_areTogether_0 rfl rfl ?_
  refine g_iload_n 1 dX12_areTogether_1 rfl rfl ?_
  refine g_callV (As := [.int x1]) (st := []) dX12_areTogether_2 clX12_395 sh535 rfl rfl (Nat.le_of_ble_eq_true rfl) (rmSH (by decide) (by decide)) (s_mAt hW h1 (fun q1 => ?_) (fun q1 => ?_))
  · refine g_if_eq 40 dX12_areTogether_5 (by decide) (fun q2 => absurd q2 (by decide)) (fun q2 => ?_)
    refine g_aload_n 0 dX12_areTogether_8 rfl rfl ?_
    refine g_iload_n 2 dX12_areTogether_9 rfl rfl ?_
    refine g_callV (As := [.int x2]) (st := []) dX12_areTogether_10 clX12_395 sh535 rfl rfl (Nat.le_of_ble_eq_true rfl) (rmSH (by decide) (by decide)) (s_mAt hW (h2 q1) (fun q3 => ?_) (fun q3 => ?_))
    · refine g_if_eq 40 dX12_areTogether_13 (by decide) (fun q4 => absurd q4 (by decide)) (fun q4 => ?_)
      refine g_iload_n 1 dX12_areTogether_16 rfl rfl ?_
      refine g_iload_n 2 dX12_areTogether_17 rfl rfl ?_
      refine g_icmp_eq 40 dX12_areTogether_18 (by decide) (fun q5 => ?_) (fun q5 => ?_)
      · refine g_iconst (v := 0) dX12_areTogether_40 (by decide) ?_
        exact g_bret dX12_areTogether_41 rfl (Or.inl rfl) enSH (h3 q1 q3 q5)
      · refine g_aload_n 0 dX12_areTogether_21 rfl rfl ?_
        refine g_getR dX12_areTogether_22 fl12_13 rfl sh535 (w12_2 hW sh535) ?_
        refine g_iload_n 1 dX12_areTogether_25 rfl rfl ?_
        refine g_iald (j := x1.toNatClampNeg) dX12_areTogether_26 (s12_2 sh535) (h4 q1 q3 q5) rfl ?_
        refine g_aload_n 0 dX12_areTogether_27 rfl rfl ?_
        refine g_getR dX12_areTogether_28 fl12_13 rfl sh535 (w12_2 hW sh535) ?_
        refine g_iload_n 2 dX12_areTogether_31 rfl rfl ?_
        refine g_iald (j := x2.toNatClampNeg) dX12_areTogether_32 (s12_2 sh535) (h5 q1 q3 q5) rfl ?_
        refine g_icmp_ne 40 dX12_areTogether_33 (by decide) (fun q6 => ?_) (fun q6 => ?_)
        · refine g_iconst (v := 0) dX12_areTogether_40 (by decide) ?_
          exact g_bret dX12_areTogether_41 rfl (Or.inl rfl) enSH (h6 q1 q3 q5 q6)
        · refine g_iconst (v := 1) dX12_areTogether_36 (by decide) ?_
          refine g_goto 41 dX12_areTogether_37 (by decide) ?_
          exact g_bret dX12_areTogether_41 rfl (Or.inr rfl) enSH (h7 q1 q3 q5 q6)
    · refine g_if_eq 40 dX12_areTogether_13 (by decide) (fun q7 => ?_) (fun q7 => absurd q7 (by decide))
      refine g_iconst (v := 0) dX12_areTogether_40 (by decide) ?_
      exact g_bret dX12_areTogether_41 rfl (Or.inl rfl) enSH (h8 q1 q3)
  · refine g_if_eq 40 dX12_areTogether_5 (by decide) (fun q8 => ?_) (fun q8 => absurd q8 (by decide))
    refine g_iconst (v := 0) dX12_areTogether_40 (by decide) ?_
    exact g_bret dX12_areTogether_41 rfl (Or.inl rfl) enSH (h9 q1)
