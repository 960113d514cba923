theorem bX11_areAtOnePlace_0 {X : pX} {Q : Option Value → pMem → Prop} {m : pMem} {x1 : Int32} {x2 : Int32} (hW : Wf m)
    (h1 : x1 = x2 → Q (some (.int (0 : Int32))) m)
    (h2 : ¬ (x1 = x2) → ((¬ x1 < 0 ∧ ¬ mI m 31 3 ≤ x1 ∧ ¬ (4 : Int32) ≤ x1) ∧ mI m 39 x1.toNatClampNeg = 0) → ((¬ x2 < 0 ∧ ¬ mI m 31 3 ≤ x2 ∧ ¬ (4 : Int32) ≤ x2) ∧ mI m 39 x2.toNatClampNeg = 0) → vp_in x1 4)
    (h3 : ¬ (x1 = x2) → ((¬ x1 < 0 ∧ ¬ mI m 31 3 ≤ x1 ∧ ¬ (4 : Int32) ≤ x1) ∧ mI m 39 x1.toNatClampNeg = 0) → ((¬ x2 < 0 ∧ ¬ mI m 31 3 ≤ x2 ∧ ¬ (4 : Int32) ≤ x2) ∧ mI m 39 x2.toNatClampNeg = 0) → vp_in x2 4)
    (h4 : ¬ (x1 = x2) → ((¬ x1 < 0 ∧ ¬ mI m 31 3 ≤ x1 ∧ ¬ (4 : Int32) ≤ x1) ∧ mI m 39 x1.toNatClampNeg = 0) → ((¬ x2 < 0 ∧ ¬ mI m 31 3 ≤ x2 ∧ ¬ (4 : Int32) ≤ x2) ∧ mI m 39 x2.toNatClampNeg = 0) → ¬ (mI m 38 x1.toNatClampNeg) = (mI m 38 x2.toNatClampNeg) → Q (some (.int (0 : Int32))) m)
    (h5 : ¬ (x1 = x2) → ((¬ x1 < 0 ∧ ¬ mI m 31 3 ≤ x1 ∧ ¬ (4 : Int32) ≤ x1) ∧ mI m 39 x1.toNatClampNeg = 0) → ((¬ x2 < 0 ∧ ¬ mI m 31 3 ≤ x2 ∧ ¬ (4 : Int32) ≤ x2) ∧ mI m 39 x2.toNatClampNeg = 0) → (mI m 38 x1.toNatClampNeg) = (mI m 38 x2.toNatClampNeg) → Q (some (.int (1 : Int32))) m)
    (h6 : ¬ (x1 = x2) → ((¬ x1 < 0 ∧ ¬ mI m 31 3 ≤ x1 ∧ ¬ (4 : Int32) ≤ x1) ∧ mI m 39 x1.toNatClampNeg = 0) → ¬ (((¬ x2 < 0 ∧ ¬ mI m 31 3 ≤ x2 ∧ ¬ (4 : Int32) ≤ x2) ∧ mI m 39 x2.toNatClampNeg = 0)) → Q (some (.int (0 : Int32))) m)
    (h7 : ¬ (x1 = x2) → ¬ (((¬ x1 < 0 ∧ ¬ mI m 31 3 ≤ x1 ∧ ¬ (4 : Int32) ≤ x1) ∧ mI m 39 x1.toNatClampNeg = 0)) → Q (some (.int (0 : Int32))) m) :
    Go X 2 mX11_areAtOnePlace Q 0 [(0, .ref 0), (1, .int x1), (2, .int x2)] [] m := by
  refine g_iload_n 1 dX11_areAtOnePlace_0 rfl rfl ?_
  refine g_iload_n 2 dX11_areAtOnePlace_1 rfl rfl ?_
  refine g_icmp_eq 52 dX11_areAtOnePlace_2 (by decide) (fun q1 => ?_) (fun q1 => ?_)
  · refine g_iconst (v := 0) dX11_areAtOnePlace_52 (by decide) ?_
    exact g_bret dX11_areAtOnePlace_53 rfl (Or.inl rfl) enSH (h1 q1)
  · refine g_aload_n 0 dX11_areAtOnePlace_5 rfl rfl ?_
    refine g_iload_n 1 dX11_areAtOnePlace_6 rfl rfl ?_
    refine g_callV (As := [.int x1]) (st := []) dX11_areAtOnePlace_7 clX11_233 sh0 rfl rfl (Nat.le_of_ble_eq_true rfl) (rmSH (by decide) (by decide)) (s_cAt hW (fun q2 => ?_) (fun q2 => ?_))
    · refine g_if_eq 52 dX11_areAtOnePlace_10 (by decide) (fun q3 => absurd q3 (by decide)) (fun q3 => ?_)
      refine g_aload_n 0 dX11_areAtOnePlace_13 rfl rfl ?_
      refine g_iload_n 2 dX11_areAtOnePlace_14 rfl rfl ?_
      refine g_callV (As := [.int x2]) (st := []) dX11_areAtOnePlace_15 clX11_233 sh0 rfl rfl (Nat.le_of_ble_eq_true rfl) (rmSH (by decide) (by decide)) (s_cAt hW (fun q4 => ?_) (fun q4 => ?_))
      · refine g_if_eq 52 dX11_areAtOnePlace_18 (by decide) (fun q5 => absurd q5 (by decide)) (fun q5 => ?_)
        refine g_aload_n 0 dX11_areAtOnePlace_21 rfl rfl ?_
        refine g_getR dX11_areAtOnePlace_22 fl11_42 rfl sh0 (w11_5 hW sh0) ?_
        refine g_getR dX11_areAtOnePlace_25 fl11_69 rfl sh30 (w10_1 hW sh30) ?_
        refine g_getR dX11_areAtOnePlace_28 fl11_146 rfl (s10_1 sh30) (w8_1 hW (s10_1 sh30)) ?_
        refine g_iload_n 1 dX11_areAtOnePlace_31 rfl rfl ?_
        refine g_iald (j := x1.toNatClampNeg) dX11_areAtOnePlace_32 (s8_1 (s10_1 sh30)) (h2 q1 q2 q4) rfl ?_
        refine g_aload_n 0 dX11_areAtOnePlace_33 rfl rfl ?_
        refine g_getR dX11_areAtOnePlace_34 fl11_42 rfl sh0 (w11_5 hW sh0) ?_
        refine g_getR dX11_areAtOnePlace_37 fl11_69 rfl sh30 (w10_1 hW sh30) ?_
        refine g_getR dX11_areAtOnePlace_40 fl11_146 rfl (s10_1 sh30) (w8_1 hW (s10_1 sh30)) ?_
        refine g_iload_n 2 dX11_areAtOnePlace_43 rfl rfl ?_
        refine g_iald (j := x2.toNatClampNeg) dX11_areAtOnePlace_44 (s8_1 (s10_1 sh30)) (h3 q1 q2 q4) rfl ?_
        refine g_icmp_ne 52 dX11_areAtOnePlace_45 (by decide) (fun q6 => ?_) (fun q6 => ?_)
        · refine g_iconst (v := 0) dX11_areAtOnePlace_52 (by decide) ?_
          exact g_bret dX11_areAtOnePlace_53 rfl (Or.inl rfl) enSH (h4 q1 q2 q4 q6)
        · refine g_iconst (v := 1) dX11_areAtOnePlace_48 (by decide) ?_
          refine g_goto 53 dX11_areAtOnePlace_49 (by decide) ?_
          exact g_bret dX11_areAtOnePlace_53 rfl (Or.inr rfl) enSH (h5 q1 q2 q4 q6)
      · refine g_if_eq 52 dX11_areAtOnePlace_18 (by decide) (fun q7 => ?_) (fun q7 => absurd q7 (by decide))
        refine g_iconst (v := 0) dX11_areAtOnePlace_52 (by decide) ?_
        exact g_bret dX11_areAtOnePlace_53 rfl (Or.inl rfl) enSH (h6 q1 q2 q4)
    · refine g_if_eq 52 dX11_areAtOnePlace_10 (by decide) (fun q8 => ?_) (fun q8 => absurd q8 (by decide))
      refine g_iconst (v := 0) dX11_areAtOnePlace_52 (by decide) ?_
      exact g_bret dX11_areAtOnePlace_53 rfl (Or.inl rfl) enSH (h7 q1 q2)
theorem bX12_isAtPlace_0 {X : pX} {Q : Option Value → pMem → Prop} {m : pMem} {x1 : Int32} (hW : Wf m)
    (h1 : ¬ x1 < 0 ∧ ¬ (mI m 536 3 - (1 : Int32)) < x1 → vp_in x1 4)
    (h2 : ¬ x1 < 0 ∧ ¬ (mI m 536 3 - (1 : Int32)) < x1 → ¬ (mI m 538 x1.toNatClampNeg) = 0 → Q (some (.int (0 : Int32))) m)
    (h3 : ¬ x1 < 0 ∧ ¬ (mI m 536 3 - (1 : Int32)) < x1 → (mI m 538 x1.toNatClampNeg) = 0 → Q (some (.int (1 : Int32))) m)
    (h4 : ¬ (¬ x1 < 0 ∧ ¬ (mI m 536 3 - (1 : Int32)) < x1) → Q (some (.int (0 : Int32))) m) :
    Go X 2 mX12_isAtPlace Q 0 [(0, .ref 535), (1, .int x1)] [] m := by
  refine g_aload_n 0 dX12_isAtPlace_0 rfl rfl ?_
  refine g_iload_n 1 dX12_isAtPlace_1 rfl rfl ?_
  refine g_callV (As := [.int x1]) (st := []) dX12_isAtPlace_2 clX12_334 sh535 rfl rfl (Nat.le_of_ble_eq_true rfl) (rmSH (by decide) (by decide)) (s_mPerson hW (fun q1 => ?_) (fun q1 => ?_))
  · refine g_if_eq 21 dX12_isAtPlace_5 (by decide) (fun q2 => absurd q2 (by decide)) (fun q2 => ?_)
    refine g_aload_n 0 dX12_isAtPlace_8 rfl rfl ?_
    refine g_getR dX12_isAtPlace_9 fl12_16 rfl sh535 (w12_3 hW sh535) ?_
    refine g_iload_n 1 dX12_isAtPlace_12 rfl rfl ?_
    refine g_iald (j := x1.toNatClampNeg) dX12_isAtPlace_13 (s12_3 sh535) (h1 q1) rfl ?_
    refine g_if_ne 21 dX12_isAtPlace_14 (by decide) (fun q3 => ?_) (fun q3 => ?_)
    · refine g_iconst (v := 0) dX12_isAtPlace_21 (by decide) ?_
      exact g_bret dX12_isAtPlace_22 rfl (Or.inl rfl) enSH (h2 q1 q3)
    · refine g_iconst (v := 1) dX12_isAtPlace_17 (by decide) ?_
      refine g_goto 22 dX12_isAtPlace_18 (by decide) ?_
      exact g_bret dX12_isAtPlace_22 rfl (Or.inr rfl) enSH (h3 q1 q3)
  · refine g_if_eq 21 dX12_isAtPlace_5 (by decide) (fun q4 => ?_) (fun q4 => absurd q4 (by decide))
    refine g_iconst (v := 0) dX12_isAtPlace_21 (by decide) ?_
    exact g_bret dX12_isAtPlace_22 rfl (Or.inl rfl) enSH (h4 q1)
theorem bX12_mayHaveMore_0 {X : pX} {Q : Option Value → pMem → Prop} {m : pMem} {x1 : Int32} (hW : Wf m)
    (h1 : vp_in (mI m 536 4) 7)
    (h2 : sm64 (tAt (mI m 539) x1 (mI m 536 4).toNatClampNeg))
    (h3 : (mI m 536 1) ≤ (pcI (tAt (mI m 539) x1 (mI m 536 4).toNatClampNeg)) → Q (some (.int (0 : Int32))) m)
    (h4 : ¬ ((mI m 536 1) ≤ (pcI (tAt (mI m 539) x1 (mI m 536 4).toNatClampNeg))) → Q (some (.int (1 : Int32))) m) :
    Go X 1 mX12_mayHaveMore Q 0 [(0, .ref 535), (1, .int x1)] [] m := by
  refine g_aload_n 0 dX12_mayHaveMore_0 rfl rfl ?_
  refine g_iload_n 1 dX12_mayHaveMore_1 rfl rfl ?_
  refine g_callV (As := [.int x1]) (st := []) dX12_mayHaveMore_2 clX12_338 sh535 rfl rfl (Nat.le_of_ble_eq_true rfl) (rmSH (by decide) (by decide)) (s_mThings hW h1 ?_)
  show Go X 1 mX12_mayHaveMore Q 5 [(0, .ref 535), (1, .int x1)] [.int (tAt (mI m 539) x1 (mI m 536 4).toNatClampNeg)] m
  refine g_callS (As := [.int (tAt (mI m 539) x1 (mI m 536 4).toNatClampNeg)]) (st := []) dX12_mayHaveMore_5 clX12_355 rfl rfl (Nat.le_of_ble_eq_true rfl) (rmSH (by decide) (by decide)) (s_bits hW h2 ?_)
  show Go X 1 mX12_mayHaveMore Q 8 [(0, .ref 535), (1, .int x1)] [.int (pcI (tAt (mI m 539) x1 (mI m 536 4).toNatClampNeg))] m
  refine g_aload_n 0 dX12_mayHaveMore_8 rfl rfl ?_
  refine g_getR dX12_mayHaveMore_9 fl12_9 rfl sh535 (w12_1 hW sh535) ?_
  refine g_iconst (v := 1) dX12_mayHaveMore_12 (by decide) ?_
  refine g_iald (j := 1) dX12_mayHaveMore_13 (s12_1 sh535) (by unfold vp_in; decide) (by decide) ?_
  refine g_icmp_ge 21 dX12_mayHaveMore_14 (by decide) (fun q1 => ?_) (fun q1 => ?_)
  · refine g_iconst (v := 0) dX12_mayHaveMore_21 (by decide) ?_
    exact g_bret dX12_mayHaveMore_22 rfl (Or.inl rfl) enSH (h3 q1)
  · refine g_iconst (v := 1) dX12_mayHaveMore_17 (by decide) ?_
    refine g_goto 22 dX12_mayHaveMore_18 (by decide) ?_
    exact g_bret dX12_mayHaveMore_22 rfl (Or.inr rfl) enSH (h4 q1)
