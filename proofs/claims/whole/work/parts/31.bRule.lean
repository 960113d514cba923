theorem bX6_clear_0 {X : pX} {Q : Option Value → pMem → Prop} {m : pMem} {a0 : Nat} (hW : Wf m) (c0 : SH[a0]? = some (.inl 6))
    (h1 : Q none (uI m a0 2 (0 : Int32))) :
    Go X 0 mX6_clear Q 0 [(0, .ref a0)] [] m := by
  refine g_aload_n 0 dX6_clear_0 rfl rfl ?_
  refine g_iconst (v := 0) dX6_clear_1 (by decide) ?_
  refine g_putI dX6_clear_2 fl6_19 (fun h => by cases h) c0 ?_
  exact g_vret dX6_clear_5 rfl enSH h1
theorem bX6_add_0 {X : pX} {Q : Option Value → pMem → Prop} {m : pMem} {a0 : Nat} {x1 : Int32} (hW : Wf m) (c0 : SH[a0]? = some (.inl 6))
    (h1 : (400 : Int32) ≤ (mI m a0 2) → Q none m)
    (h2 : ¬ ((400 : Int32) ≤ (mI m a0 2)) → vp_in (mI m a0 2) 400)
    (h3 : ¬ ((400 : Int32) ≤ (mI m a0 2)) → Q none (uI (uI m (a0 + 1) ((mI m a0 2).toNatClampNeg) x1) a0 2 ((mI (uI m (a0 + 1) ((mI m a0 2).toNatClampNeg) x1) a0 2) + (1 : Int32)))) :
    Go X 0 mX6_add Q 0 [(0, .ref a0), (1, .int x1)] [] m := by
  refine g_aload_n 0 dX6_add_0 rfl rfl ?_
  refine g_getI dX6_add_1 fl6_19 c0 ?_
  refine g_aload_n 0 dX6_add_4 rfl rfl ?_
  refine g_getR dX6_add_5 fl6_9 rfl c0 (w6_0 hW c0) ?_
  refine g_alen (v := (400 : Int32)) dX6_add_8 (s6_0 c0) (by decide) (by first | rfl | decide) ?_
  refine g_icmp_ge 32 dX6_add_9 (by decide) (fun q1 => ?_) (fun q1 => ?_)
  · exact g_vret dX6_add_32 rfl enSH (h1 q1)
  · refine g_aload_n 0 dX6_add_12 rfl rfl ?_
    refine g_getR dX6_add_13 fl6_9 rfl c0 (w6_0 hW c0) ?_
    refine g_aload_n 0 dX6_add_16 rfl rfl ?_
    refine g_getI dX6_add_17 fl6_19 c0 ?_
    refine g_iload_n 1 dX6_add_20 rfl rfl ?_
    refine g_iast (j := (mI m a0 2).toNatClampNeg) dX6_add_21 (s6_0 c0) (h2 q1) rfl ?_
    refine g_aload_n 0 dX6_add_22 rfl rfl ?_
    refine g_dup dX6_add_23 rfl ?_
    refine g_getI dX6_add_24 fl6_19 c0 ?_
    refine g_iconst (v := 1) dX6_add_27 (by decide) ?_
    refine g_iadd dX6_add_28 ?_
    refine g_putI dX6_add_29 fl6_19 (fun h => by cases h) c0 ?_
    exact g_vret dX6_add_32 rfl enSH (h3 q1)
theorem bX6_sum_0 {X : pX} {Q : Option Value → pMem → Prop} {m : pMem} {a0 : Nat} {a1 n1 : Nat} (hW : Wf m) (c0 : SH[a0]? = some (.inl 6)) (c1 : SH[a1]? = some (.inr (.int, n1)))
    (h1 : Go X 1 mX6_sum Q 7 [(0, .ref a0), (1, .ref a1), (2, .int (0 : Int32))] [] (uI m a0 3 (0 : Int32))) :
    Go X 1 mX6_sum Q 0 [(0, .ref a0), (1, .ref a1)] [] m := by
  refine g_aload_n 0 dX6_sum_0 rfl rfl ?_
  refine g_iconst (v := 0) dX6_sum_1 (by decide) ?_
  refine g_putI dX6_sum_2 fl6_23 (fun h => by cases h) c0 ?_
  refine g_iconst (v := 0) dX6_sum_5 (by decide) ?_
  refine g_istore_n (ls2 := [(2, .int (0 : Int32)), (0, .ref a0), (1, .ref a1)]) dX6_sum_6 rfl (by decide) rfl ?_
  exact g_ls [1, 2, 0] rfl h1
theorem bX6_sum_7 {X : pX} {Q : Option Value → pMem → Prop} {m : pMem} {a0 : Nat} {a1 n1 : Nat} {x2 : Int32} (hW : Wf m) (c0 : SH[a0]? = some (.inl 6)) (c1 : SH[a1]? = some (.inr (.int, n1)))
    (h1 : (mI m a0 2) ≤ x2 → Q (some (.long (0 : Int64))) m)
    (h2 : ¬ ((mI m a0 2) ≤ x2) → (400 : Int32) ≤ x2 → Q (some (.long (0 : Int64))) m)
    (h3 : ¬ ((mI m a0 2) ≤ x2) → ¬ ((400 : Int32) ≤ x2) → vp_in x2 400)
    (h4 : ¬ ((mI m a0 2) ≤ x2) → ¬ ((400 : Int32) ≤ x2) → (mI m (a0 + 1) x2.toNatClampNeg) < 0 → (mI m (a0 + 1) x2.toNatClampNeg) ≤ (-13 : Int32) → ¬ (mI m (a0 + 1) x2.toNatClampNeg) = (-34 : Int32) → ¬ (mI m (a0 + 1) x2.toNatClampNeg) = (-35 : Int32) → ¬ (mI m (a0 + 1) x2.toNatClampNeg) = (-33 : Int32) → Cl X 0 mX6_pop [.ref a0] m (fun v m2 => Go X 1 mX6_sum Q 159 [(0, .ref a0), (1, .ref a1), (2, .int x2), (3, .int (mI m (a0 + 1) x2.toNatClampNeg))] (v.toList ++ []) m2))
    (h5 : ¬ ((mI m a0 2) ≤ x2) → ¬ ((400 : Int32) ≤ x2) → (mI m (a0 + 1) x2.toNatClampNeg) < 0 → (mI m (a0 + 1) x2.toNatClampNeg) ≤ (-13 : Int32) → ¬ (mI m (a0 + 1) x2.toNatClampNeg) = (-34 : Int32) → ¬ (mI m (a0 + 1) x2.toNatClampNeg) = (-35 : Int32) → (mI m (a0 + 1) x2.toNatClampNeg) = (-33 : Int32) → Cl X 0 mX6_pop [.ref a0] m (fun v m2 => Go X 1 mX6_sum Q 139 [(0, .ref a0), (1, .ref a1), (2, .int x2), (3, .int (mI m (a0 + 1) x2.toNatClampNeg))] (v.toList ++ [.ref a0]) m2))
    (h6 : ¬ ((mI m a0 2) ≤ x2) → ¬ ((400 : Int32) ≤ x2) → (mI m (a0 + 1) x2.toNatClampNeg) < 0 → (mI m (a0 + 1) x2.toNatClampNeg) ≤ (-13 : Int32) → ¬ (mI m (a0 + 1) x2.toNatClampNeg) = (-34 : Int32) → (mI m (a0 + 1) x2.toNatClampNeg) = (-35 : Int32) → Cl X 0 mX6_pop [.ref a0] m (fun v m2 => Go X 1 mX6_sum Q 99 [(0, .ref a0), (1, .ref a1), (2, .int x2), (3, .int (mI m (a0 + 1) x2.toNatClampNeg))] (v.toList ++ []) m2))
    (h7 : ¬ ((mI m a0 2) ≤ x2) → ¬ ((400 : Int32) ≤ x2) → (mI m (a0 + 1) x2.toNatClampNeg) < 0 → (mI m (a0 + 1) x2.toNatClampNeg) ≤ (-13 : Int32) → (mI m (a0 + 1) x2.toNatClampNeg) = (-34 : Int32) → Cl X 0 mX6_pop [.ref a0] m (fun v m2 => Go X 1 mX6_sum Q 88 [(0, .ref a0), (1, .ref a1), (2, .int x2), (3, .int (mI m (a0 + 1) x2.toNatClampNeg))] (v.toList ++ []) m2))
    (h8 : ¬ ((mI m a0 2) ≤ x2) → ¬ ((400 : Int32) ≤ x2) → (mI m (a0 + 1) x2.toNatClampNeg) < 0 → ¬ ((mI m (a0 + 1) x2.toNatClampNeg) ≤ (-13 : Int32)) → (Int32.ofNat n1) ≤ ((-1 : Int32) - (mI m (a0 + 1) x2.toNatClampNeg)) → Cl X 0 mX6_push [.ref a0, .long (0 : Int64)] m (fun v m2 => Go X 1 mX6_sum Q 75 [(0, .ref a0), (1, .ref a1), (2, .int x2), (3, .int (mI m (a0 + 1) x2.toNatClampNeg)), (4, .int ((-1 : Int32) - (mI m (a0 + 1) x2.toNatClampNeg)))] (v.toList ++ []) m2))
    (h9 : ¬ ((mI m a0 2) ≤ x2) → ¬ ((400 : Int32) ≤ x2) → (mI m (a0 + 1) x2.toNatClampNeg) < 0 → ¬ ((mI m (a0 + 1) x2.toNatClampNeg) ≤ (-13 : Int32)) → ¬ ((Int32.ofNat n1) ≤ ((-1 : Int32) - (mI m (a0 + 1) x2.toNatClampNeg))) → vp_in ((-1 : Int32) - (mI m (a0 + 1) x2.toNatClampNeg)) n1)
    (h10 : ¬ ((mI m a0 2) ≤ x2) → ¬ ((400 : Int32) ≤ x2) → (mI m (a0 + 1) x2.toNatClampNeg) < 0 → ¬ ((mI m (a0 + 1) x2.toNatClampNeg) ≤ (-13 : Int32)) → ¬ ((Int32.ofNat n1) ≤ ((-1 : Int32) - (mI m (a0 + 1) x2.toNatClampNeg))) → Cl X 0 mX6_push [.ref a0, .long ((mI m a1 (((-1 : Int32) - (mI m (a0 + 1) x2.toNatClampNeg)).toNatClampNeg)).toInt64)] m (fun v m2 => Go X 1 mX6_sum Q 75 [(0, .ref a0), (1, .ref a1), (2, .int x2), (3, .int (mI m (a0 + 1) x2.toNatClampNeg)), (4, .int ((-1 : Int32) - (mI m (a0 + 1) x2.toNatClampNeg)))] (v.toList ++ []) m2))
    (h11 : ¬ ((mI m a0 2) ≤ x2) → ¬ ((400 : Int32) ≤ x2) → ¬ ((mI m (a0 + 1) x2.toNatClampNeg) < 0) → Cl X 0 mX6_push [.ref a0, .long ((mI m (a0 + 1) x2.toNatClampNeg).toInt64)] m (fun v m2 => Go X 1 mX6_sum Q 41 [(0, .ref a0), (1, .ref a1), (2, .int x2), (3, .int (mI m (a0 + 1) x2.toNatClampNeg))] (v.toList ++ []) m2)) :
    Go X 1 mX6_sum Q 7 [(0, .ref a0), (1, .ref a1), (2, .int x2)] [] m := by
  refine g_iload_n 2 dX6_sum_7 rfl rfl ?_
  refine g_aload_n 0 dX6_sum_8 rfl rfl ?_
  refine g_getI dX6_sum_9 fl6_19 c0 ?_
  refine g_icmp_ge 181 dX6_sum_12 (by decide) (fun q1 => ?_) (fun q1 => ?_)
  · refine g_lconst (v := 0) dX6_sum_181 (by decide) ?_
    exact g_lret dX6_sum_182 rfl enSH (h1 q1)
  · refine g_iload_n 2 dX6_sum_15 rfl rfl ?_
    refine g_aload_n 0 dX6_sum_16 rfl rfl ?_
    refine g_getR dX6_sum_17 fl6_9 rfl c0 (w6_0 hW c0) ?_
    refine g_alen (v := (400 : Int32)) dX6_sum_20 (s6_0 c0) (by decide) (by first | rfl | decide) ?_
    refine g_icmp_ge 181 dX6_sum_21 (by decide) (fun q2 => ?_) (fun q2 => ?_)
    · refine g_lconst (v := 0) dX6_sum_181 (by decide) ?_
      exact g_lret dX6_sum_182 rfl enSH (h2 q1 q2)
    · refine g_aload_n 0 dX6_sum_24 rfl rfl ?_
      refine g_getR dX6_sum_25 fl6_9 rfl c0 (w6_0 hW c0) ?_
      refine g_iload_n 2 dX6_sum_28 rfl rfl ?_
      refine g_iald (j := x2.toNatClampNeg) dX6_sum_29 (s6_0 c0) (h3 q1 q2) rfl ?_
      refine g_istore_n (ls2 := [(3, .int (mI m (a0 + 1) x2.toNatClampNeg)), (0, .ref a0), (1, .ref a1), (2, .int x2)]) dX6_sum_30 rfl (by decide) rfl ?_
      refine g_iload_n 0 dX6_sum_31 rfl rfl ?_
      refine g_if_lt 44 dX6_sum_32 (by decide) (fun q3 => ?_) (fun q3 => ?_)
      · refine g_iload_n 0 dX6_sum_44 rfl rfl ?_
        refine g_bipush (v := -13) dX6_sum_45 (by decide) ?_
        refine g_icmp_le 78 dX6_sum_47 (by decide) (fun q4 => ?_) (fun q4 => ?_)
        · refine g_iload_n 0 dX6_sum_78 rfl rfl ?_
          refine g_bipush (v := -34) dX6_sum_79 (by decide) ?_
          refine g_icmp_ne 89 dX6_sum_81 (by decide) (fun q5 => ?_) (fun q5 => ?_)
          · refine g_iload_n 0 dX6_sum_89 rfl rfl ?_
            refine g_bipush (v := -35) dX6_sum_90 (by decide) ?_
            refine g_icmp_ne 128 dX6_sum_92 (by decide) (fun q6 => ?_) (fun q6 => ?_)
            · refine g_iload_n 0 dX6_sum_128 rfl rfl ?_
              refine g_bipush (v := -33) dX6_sum_129 (by decide) ?_
              refine g_icmp_ne 155 dX6_sum_131 (by decide) (fun q7 => ?_) (fun q7 => ?_)
              · refine g_aload_n 1 dX6_sum_155 rfl rfl ?_
                refine g_ls [1, 2, 3, 0] (ls2 := [(0, .ref a0), (1, .ref a1), (2, .int x2), (3, .int (mI m (a0 + 1) x2.toNatClampNeg))]) rfl ?_
                exact g_callV (As := []) (st := []) dX6_sum_156 clX6_30 c0 rfl rfl (Nat.le_of_ble_eq_true rfl) (rmSH (by decide) (by decide)) (h4 q1 q2 q3 q4 q5 q6 q7)
              · refine g_aload_n 1 dX6_sum_134 rfl rfl ?_
                refine g_aload_n 1 dX6_sum_135 rfl rfl ?_
                refine g_ls [1, 2, 3, 0] (ls2 := [(0, .ref a0), (1, .ref a1), (2, .int x2), (3, .int (mI m (a0 + 1) x2.toNatClampNeg))]) rfl ?_
                exact g_callV (As := []) (st := [.ref a0]) dX6_sum_136 clX6_30 c0 rfl rfl (Nat.le_of_ble_eq_true rfl) (rmSH (by decide) (by decide)) (h5 q1 q2 q3 q4 q5 q6 q7)
            · refine g_aload_n 1 dX6_sum_95 rfl rfl ?_
              refine g_ls [1, 2, 3, 0] (ls2 := [(0, .ref a0), (1, .ref a1), (2, .int x2), (3, .int (mI m (a0 + 1) x2.toNatClampNeg))]) rfl ?_
              exact g_callV (As := []) (st := []) dX6_sum_96 clX6_30 c0 rfl rfl (Nat.le_of_ble_eq_true rfl) (rmSH (by decide) (by decide)) (h6 q1 q2 q3 q4 q5 q6)
          · refine g_aload_n 1 dX6_sum_84 rfl rfl ?_
            refine g_ls [1, 2, 3, 0] (ls2 := [(0, .ref a0), (1, .ref a1), (2, .int x2), (3, .int (mI m (a0 + 1) x2.toNatClampNeg))]) rfl ?_
            exact g_callV (As := []) (st := []) dX6_sum_85 clX6_30 c0 rfl rfl (Nat.le_of_ble_eq_true rfl) (rmSH (by decide) (by decide)) (h7 q1 q2 q3 q4 q5)
        · refine g_iconst (v := -1) dX6_sum_50 (by decide) ?_
          refine g_iload_n 0 dX6_sum_51 rfl rfl ?_
          refine g_isub dX6_sum_52 ?_
          refine g_istore (ls2 := [(4, .int ((-1 : Int32) - (mI m (a0 + 1) x2.toNatClampNeg))), (3, .int (mI m (a0 + 1) x2.toNatClampNeg)), (0, .ref a0), (1, .ref a1), (2, .int x2)]) dX6_sum_53 (by decide) rfl ?_
          refine g_aload_n 2 dX6_sum_55 rfl rfl ?_
          refine g_iload 0 dX6_sum_56 rfl ?_
          refine g_aload_n 3 dX6_sum_58 rfl rfl ?_
          refine g_alen (v := Int32.ofNat n1) dX6_sum_59 c1 (by decide) (by first | rfl | decide) ?_
          refine g_icmp_ge 71 dX6_sum_60 (by decide) (fun q8 => ?_) (fun q8 => ?_)
          · refine g_lconst (v := 0) dX6_sum_71 (by decide) ?_
            refine g_ls [2, 3, 4, 1, 0] (ls2 := [(0, .ref a0), (1, .ref a1), (2, .int x2), (3, .int (mI m (a0 + 1) x2.toNatClampNeg)), (4, .int ((-1 : Int32) - (mI m (a0 + 1) x2.toNatClampNeg)))]) rfl ?_
            exact g_callV (As := [.long (0 : Int64)]) (st := []) dX6_sum_72 clX6_26 c0 rfl rfl (Nat.le_of_ble_eq_true rfl) (rmSH (by decide) (by decide)) (h8 q1 q2 q3 q4 q8)
          · refine g_aload_n 3 dX6_sum_63 rfl rfl ?_
            refine g_iload 0 dX6_sum_64 rfl ?_
            refine g_iald (j := ((-1 : Int32) - (mI m (a0 + 1) x2.toNatClampNeg)).toNatClampNeg) dX6_sum_66 c1 (h9 q1 q2 q3 q4 q8) rfl ?_
            refine g_i2l dX6_sum_67 ?_
            refine g_goto 72 dX6_sum_68 (by decide) ?_
            refine g_ls [2, 3, 4, 1, 0] (ls2 := [(0, .ref a0), (1, .ref a1), (2, .int x2), (3, .int (mI m (a0 + 1) x2.toNatClampNeg)), (4, .int ((-1 : Int32) - (mI m (a0 + 1) x2.toNatClampNeg)))]) rfl ?_
            exact g_callV (As := [.long ((mI m a1 (((-1 : Int32) - (mI m (a0 + 1) x2.toNatClampNeg)).toNatClampNeg)).toInt64)]) (st := []) dX6_sum_72 clX6_26 c0 rfl rfl (Nat.le_of_ble_eq_true rfl) (rmSH (by decide) (by decide)) (h10 q1 q2 q3 q4 q8)
      · refine g_aload_n 1 dX6_sum_35 rfl rfl ?_
        refine g_iload_n 0 dX6_sum_36 rfl rfl ?_
        refine g_i2l dX6_sum_37 ?_
        refine g_ls [1, 2, 3, 0] (ls2 := [(0, .ref a0), (1, .ref a1), (2, .int x2), (3, .int (mI m (a0 + 1) x2.toNatClampNeg))]) rfl ?_
        exact g_callV (As := [.long ((mI m (a0 + 1) x2.toNatClampNeg).toInt64)]) (st := []) dX6_sum_38 clX6_26 c0 rfl rfl (Nat.le_of_ble_eq_true rfl) (rmSH (by decide) (by decide)) (h11 q1 q2 q3)
theorem bX6_sum_159 {X : pX} {Q : Option Value → pMem → Prop} {m : pMem} {a0 : Nat} {a1 n1 : Nat} {x2 : Int32} {x3 : Int32} {ys0 : Int64} (hW : Wf m) (c0 : SH[a0]? = some (.inl 6)) (c1 : SH[a1]? = some (.inr (.int, n1)))
    (h1 : Cl X 0 mX6_pop [.ref a0] m (fun v m2 => Go X 1 mX6_sum Q 167 [(0, .ref a0), (1, .ref a1), (2, .int x2), (3, .int x3), (4, .long ys0)] (v.toList ++ [.int x3, .ref a0]) m2)) :
    Go X 1 mX6_sum Q 159 [(0, .ref a0), (1, .ref a1), (2, .int x2), (3, .int x3)] [.long ys0] m := by
  refine g_lstore (ls2 := [(4, .long ys0), (0, .ref a0), (1, .ref a1), (2, .int x2), (3, .int x3)]) dX6_sum_159 (by decide) rfl ?_
  refine g_aload_n 1 dX6_sum_161 rfl rfl ?_
  refine g_iload_n 4 dX6_sum_162 rfl rfl ?_
  refine g_aload_n 1 dX6_sum_163 rfl rfl ?_
  refine g_ls [1, 2, 3, 4, 0] (ls2 := [(0, .ref a0), (1, .ref a1), (2, .int x2), (3, .int x3), (4, .long ys0)]) rfl ?_
  exact g_callV (As := []) (st := [.int x3, .ref a0]) dX6_sum_164 clX6_30 c0 rfl rfl (Nat.le_of_ble_eq_true rfl) (rmSH (by decide) (by decide)) h1
theorem bX6_sum_139 {X : pX} {Q : Option Value → pMem → Prop} {m : pMem} {a0 : Nat} {a1 n1 : Nat} {x2 : Int32} {x3 : Int32} {ys0 : Int64} {as1 : Nat} (hW : Wf m) (c0 : SH[a0]? = some (.inl 6)) (c1 : SH[a1]? = some (.inr (.int, n1))) (cs1 : SH[as1]? = some (.inl 6))
    (h1 : ¬ (lg_cmp ys0 (0 : Int64)) = 0 → Cl X 0 mX6_push [.ref as1, .long (0 : Int64)] m (fun v m2 => Go X 1 mX6_sum Q 152 [(0, .ref a0), (1, .ref a1), (2, .int x2), (3, .int x3)] (v.toList ++ []) m2))
    (h2 : (lg_cmp ys0 (0 : Int64)) = 0 → Cl X 0 mX6_push [.ref as1, .long (1 : Int64)] m (fun v m2 => Go X 1 mX6_sum Q 152 [(0, .ref a0), (1, .ref a1), (2, .int x2), (3, .int x3)] (v.toList ++ []) m2)) :
    Go X 1 mX6_sum Q 139 [(0, .ref a0), (1, .ref a1), (2, .int x2), (3, .int x3)] [.long ys0, .ref as1] m := by
  refine g_lconst (v := 0) dX6_sum_139 (by decide) ?_
  refine g_lcmp dX6_sum_140 ?_
  refine g_if_ne 148 dX6_sum_141 (by decide) (fun q1 => ?_) (fun q1 => ?_)
  · refine g_lconst (v := 0) dX6_sum_148 (by decide) ?_
    exact g_callV (As := [.long (0 : Int64)]) (st := []) dX6_sum_149 clX6_26 cs1 rfl rfl (Nat.le_of_ble_eq_true rfl) (rmSH (by decide) (by decide)) (h1 q1)
  · refine g_lconst (v := 1) dX6_sum_144 (by decide) ?_
    refine g_goto 149 dX6_sum_145 (by decide) ?_
    exact g_callV (As := [.long (1 : Int64)]) (st := []) dX6_sum_149 clX6_26 cs1 rfl rfl (Nat.le_of_ble_eq_true rfl) (rmSH (by decide) (by decide)) (h2 q1)
theorem bX6_sum_99 {X : pX} {Q : Option Value → pMem → Prop} {m : pMem} {a0 : Nat} {a1 n1 : Nat} {x2 : Int32} {x3 : Int32} {ys0 : Int64} (hW : Wf m) (c0 : SH[a0]? = some (.inl 6)) (c1 : SH[a1]? = some (.inr (.int, n1)))
    (h1 : (lg_cmp ys0 (0 : Int64)) = 0 → Cl X 0 mX6_pop [.ref a0] m (fun v m2 => Go X 1 mX6_sum Q 115 [(0, .ref a0), (1, .ref a1), (2, .int x2), (3, .int x3), (4, .int (0 : Int32))] (v.toList ++ []) m2))
    (h2 : ¬ ((lg_cmp ys0 (0 : Int64)) = 0) → Cl X 0 mX6_pop [.ref a0] m (fun v m2 => Go X 1 mX6_sum Q 115 [(0, .ref a0), (1, .ref a1), (2, .int x2), (3, .int x3), (4, .int (1 : Int32))] (v.toList ++ []) m2)) :
    Go X 1 mX6_sum Q 99 [(0, .ref a0), (1, .ref a1), (2, .int x2), (3, .int x3)] [.long ys0] m := by
  refine g_lconst (v := 0) dX6_sum_99 (by decide) ?_
  refine g_lcmp dX6_sum_100 ?_
  refine g_if_eq 108 dX6_sum_101 (by decide) (fun q1 => ?_) (fun q1 => ?_)
  · refine g_iconst (v := 0) dX6_sum_108 (by decide) ?_
    refine g_istore (ls2 := [(4, .int (0 : Int32)), (0, .ref a0), (1, .ref a1), (2, .int x2), (3, .int x3)]) dX6_sum_109 (by decide) rfl ?_
    refine g_aload_n 1 dX6_sum_111 rfl rfl ?_
    refine g_ls [1, 2, 3, 4, 0] (ls2 := [(0, .ref a0), (1, .ref a1), (2, .int x2), (3, .int x3), (4, .int (0 : Int32))]) rfl ?_
    exact g_callV (As := []) (st := []) dX6_sum_112 clX6_30 c0 rfl rfl (Nat.le_of_ble_eq_true rfl) (rmSH (by decide) (by decide)) (h1 q1)
  · refine g_iconst (v := 1) dX6_sum_104 (by decide) ?_
    refine g_goto 109 dX6_sum_105 (by decide) ?_
    refine g_istore (ls2 := [(4, .int (1 : Int32)), (0, .ref a0), (1, .ref a1), (2, .int x2), (3, .int x3)]) dX6_sum_109 (by decide) rfl ?_
    refine g_aload_n 1 dX6_sum_111 rfl rfl ?_
    refine g_ls [1, 2, 3, 4, 0] (ls2 := [(0, .ref a0), (1, .ref a1), (2, .int x2), (3, .int x3), (4, .int (1 : Int32))]) rfl ?_
    exact g_callV (As := []) (st := []) dX6_sum_112 clX6_30 c0 rfl rfl (Nat.le_of_ble_eq_true rfl) (rmSH (by decide) (by decide)) (h2 q1)
theorem bX6_sum_88 {X : pX} {Q : Option Value → pMem → Prop} {m : pMem} {a0 : Nat} {a1 n1 : Nat} {x2 : Int32} {x3 : Int32} {ys0 : Int64} (hW : Wf m) (c0 : SH[a0]? = some (.inl 6)) (c1 : SH[a1]? = some (.inr (.int, n1)))
    (h1 : Q (some (.long ys0)) m) :
    Go X 1 mX6_sum Q 88 [(0, .ref a0), (1, .ref a1), (2, .int x2), (3, .int x3)] [.long ys0] m := by
  exact g_lret dX6_sum_88 rfl enSH h1
theorem bX6_sum_75 {X : pX} {Q : Option Value → pMem → Prop} {m : pMem} {a0 : Nat} {a1 n1 : Nat} {x2 : Int32} {x3 : Int32} {x4 : Int32} (hW : Wf m) (c0 : SH[a0]? = some (.inl 6)) (c1 : SH[a1]? = some (.inr (.int, n1)))
    (h1 : Go X 1 mX6_sum Q 7 [(0, .ref a0), (1, .ref a1), (2, .int (x2 + (1 : Int32)))] [] m) :
    Go X 1 mX6_sum Q 75 [(0, .ref a0), (1, .ref a1), (2, .int x2), (3, .int x3), (4, .int x4)] [] m := by
  refine g_goto 175 dX6_sum_75 (by decide) ?_
  refine g_iinc (v := x2 + (1 : Int32)) (ls2 := [(2, .int (x2 + (1 : Int32))), (0, .ref a0), (1, .ref a1), (3, .int x3), (4, .int x4)]) 2 dX6_sum_175 rfl rfl (by decide) rfl ?_
  refine g_goto 7 dX6_sum_178 (by decide) ?_
  exact g_ls [1, 2, 0] rfl h1
theorem bX6_sum_41 {X : pX} {Q : Option Value → pMem → Prop} {m : pMem} {a0 : Nat} {a1 n1 : Nat} {x2 : Int32} {x3 : Int32} (hW : Wf m) (c0 : SH[a0]? = some (.inl 6)) (c1 : SH[a1]? = some (.inr (.int, n1)))
    (h1 : Go X 1 mX6_sum Q 7 [(0, .ref a0), (1, .ref a1), (2, .int (x2 + (1 : Int32)))] [] m) :
    Go X 1 mX6_sum Q 41 [(0, .ref a0), (1, .ref a1), (2, .int x2), (3, .int x3)] [] m := by
  refine g_goto 175 dX6_sum_41 (by decide) ?_
  refine g_iinc (v := x2 + (1 : Int32)) (ls2 := [(2, .int (x2 + (1 : Int32))), (0, .ref a0), (1, .ref a1), (3, .int x3)]) 2 dX6_sum_175 rfl rfl (by decide) rfl ?_
  refine g_goto 7 dX6_sum_178 (by decide) ?_
  exact g_ls [1, 2, 0] rfl h1
theorem bX6_sum_167 {X : pX} {Q : Option Value → pMem → Prop} {m : pMem} {a0 : Nat} {a1 n1 : Nat} {x2 : Int32} {x3 : Int32} {y4 : Int64} {ys0 : Int64} {xs1 : Int32} {as2 : Nat} (hW : Wf m) (c0 : SH[a0]? = some (.inl 6)) (c1 : SH[a1]? = some (.inr (.int, n1))) (cs2 : SH[as2]? = some (.inl 6))
    (h1 : Cl X 0 mX6_ofTwo [.int xs1, .long ys0, .long y4] m (fun v m2 => Go X 1 mX6_sum Q 172 [(0, .ref a0), (1, .ref a1), (2, .int x2), (3, .int x3), (4, .long y4)] (v.toList ++ [.ref as2]) m2)) :
    Go X 1 mX6_sum Q 167 [(0, .ref a0), (1, .ref a1), (2, .int x2), (3, .int x3), (4, .long y4)] [.long ys0, .int xs1, .ref as2] m := by
  refine g_lload 4 dX6_sum_167 rfl ?_
  exact g_callS (As := [.int xs1, .long ys0, .long y4]) (st := [.ref as2]) dX6_sum_169 clX6_34 rfl rfl (Nat.le_of_ble_eq_true rfl) (rmSH (by decide) (by decide)) h1
theorem bX6_sum_152 {X : pX} {Q : Option Value → pMem → Prop} {m : pMem} {a0 : Nat} {a1 n1 : Nat} {x2 : Int32} {x3 : Int32} (hW : Wf m) (c0 : SH[a0]? = some (.inl 6)) (c1 : SH[a1]? = some (.inr (.int, n1)))
    (h1 : Go X 1 mX6_sum Q 7 [(0, .ref a0), (1, .ref a1), (2, .int (x2 + (1 : Int32)))] [] m) :
    Go X 1 mX6_sum Q 152 [(0, .ref a0), (1, .ref a1), (2, .int x2), (3, .int x3)] [] m := by
  refine g_goto 175 dX6_sum_152 (by decide) ?_
  refine g_iinc (v := x2 + (1 : Int32)) (ls2 := [(2, .int (x2 + (1 : Int32))), (0, .ref a0), (1, .ref a1), (3, .int x3)]) 2 dX6_sum_175 rfl rfl (by decide) rfl ?_
  refine g_goto 7 dX6_sum_178 (by decide) ?_
  exact g_ls [1, 2, 0] rfl h1
theorem bX6_sum_115 {X : pX} {Q : Option Value → pMem → Prop} {m : pMem} {a0 : Nat} {a1 n1 : Nat} {x2 : Int32} {x3 : Int32} {x4 : Int32} {ys0 : Int64} (hW : Wf m) (c0 : SH[a0]? = some (.inl 6)) (c1 : SH[a1]? = some (.inr (.int, n1)))
    (h1 : x4 = 0 → Go X 1 mX6_sum Q 7 [(0, .ref a0), (1, .ref a1), (2, .int (x2 + (1 : Int32)))] [] m)
    (h2 : ¬ (x4 = 0) → Q (some (.long ys0)) m) :
    Go X 1 mX6_sum Q 115 [(0, .ref a0), (1, .ref a1), (2, .int x2), (3, .int x3), (4, .int x4)] [.long ys0] m := by
  refine g_lstore (ls2 := [(5, .long ys0), (0, .ref a0), (1, .ref a1), (2, .int x2), (3, .int x3), (4, .int x4)]) dX6_sum_115 (by decide) rfl ?_
  refine g_iload 5 dX6_sum_117 rfl ?_
  refine g_if_eq 125 dX6_sum_119 (by decide) (fun q1 => ?_) (fun q1 => ?_)
  · refine g_goto 175 dX6_sum_125 (by decide) ?_
    refine g_iinc (v := x2 + (1 : Int32)) (ls2 := [(2, .int (x2 + (1 : Int32))), (5, .long ys0), (0, .ref a0), (1, .ref a1), (3, .int x3), (4, .int x4)]) 3 dX6_sum_175 rfl rfl (by decide) rfl ?_
    refine g_goto 7 dX6_sum_178 (by decide) ?_
    exact g_ls [2, 3, 0] rfl (h1 q1)
  · refine g_lload 0 dX6_sum_122 rfl ?_
    exact g_lret dX6_sum_124 rfl enSH (h2 q1)
theorem bX6_sum_172 {X : pX} {Q : Option Value → pMem → Prop} {m : pMem} {a0 : Nat} {a1 n1 : Nat} {x2 : Int32} {x3 : Int32} {y4 : Int64} {ys0 : Int64} {as1 : Nat} (hW : Wf m) (c0 : SH[a0]? = some (.inl 6)) (c1 : SH[a1]? = some (.inr (.int, n1))) (cs1 : SH[as1]? = some (.inl 6))
    (h1 : Cl X 0 mX6_push [.ref as1, .long ys0] m (fun v m2 => Go X 1 mX6_sum Q 175 [(0, .ref a0), (1, .ref a1), (2, .int x2), (3, .int x3), (4, .long y4)] (v.toList ++ []) m2)) :
    Go X 1 mX6_sum Q 172 [(0, .ref a0), (1, .ref a1), (2, .int x2), (3, .int x3), (4, .long y4)] [.long ys0, .ref as1] m := by
  exact g_callV (As := [.long ys0]) (st := []) dX6_sum_172 clX6_26 cs1 rfl rfl (Nat.le_of_ble_eq_true rfl) (rmSH (by decide) (by decide)) h1
theorem bX6_sum_175 {X : pX} {Q : Option Value → pMem → Prop} {m : pMem} {a0 : Nat} {a1 n1 : Nat} {x2 : Int32} {x3 : Int32} {y4 : Int64} (hW : Wf m) (c0 : SH[a0]? = some (.inl 6)) (c1 : SH[a1]? = some (.inr (.int, n1)))
    (h1 : Go X 1 mX6_sum Q 7 [(0, .ref a0), (1, .ref a1), (2, .int (x2 + (1 : Int32)))] [] m) :
    Go X 1 mX6_sum Q 175 [(0, .ref a0), (1, .ref a1), (2, .int x2), (3, .int x3), (4, .long y4)] [] m := by
  refine g_iinc (v := x2 + (1 : Int32)) (ls2 := [(2, .int (x2 + (1 : Int32))), (0, .ref a0), (1, .ref a1), (3, .int x3), (4, .long y4)]) 2 dX6_sum_175 rfl rfl (by decide) rfl ?_
  refine g_goto 7 dX6_sum_178 (by decide) ?_
  exact g_ls [1, 2, 0] rfl h1
theorem bX6_push_0 {X : pX} {Q : Option Value → pMem → Prop} {m : pMem} {a0 : Nat} {y1 : Int64} (hW : Wf m) (c0 : SH[a0]? = some (.inl 6))
    (h1 : (64 : Int32) ≤ (mI m a0 3) → Q none m)
    (h2 : ¬ ((64 : Int32) ≤ (mI m a0 3)) → vp_in (mI m a0 3) 64)
    (h3 : ¬ ((64 : Int32) ≤ (mI m a0 3)) → Q none (uI (uL m (a0 + 2) ((mI m a0 3).toNatClampNeg) y1) a0 3 ((mI (uL m (a0 + 2) ((mI m a0 3).toNatClampNeg) y1) a0 3) + (1 : Int32)))) :
    Go X 0 mX6_push Q 0 [(0, .ref a0), (1, .long y1)] [] m := by
  refine g_aload_n 0 dX6_push_0 rfl rfl ?_
  refine g_getI dX6_push_1 fl6_23 c0 ?_
  refine g_bipush (v := 64) dX6_push_4 (by decide) ?_
  refine g_icmp_ge 29 dX6_push_6 (by decide) (fun q1 => ?_) (fun q1 => ?_)
  · exact g_vret dX6_push_29 rfl enSH (h1 q1)
  · refine g_aload_n 0 dX6_push_9 rfl rfl ?_
    refine g_getR dX6_push_10 fl6_15 rfl c0 (w6_1 hW c0) ?_
    refine g_aload_n 0 dX6_push_13 rfl rfl ?_
    refine g_getI dX6_push_14 fl6_23 c0 ?_
    refine g_lload_n 1 dX6_push_17 rfl rfl ?_
    refine g_last (j := (mI m a0 3).toNatClampNeg) dX6_push_18 (s6_1 c0) (h2 q1) rfl ?_
    refine g_aload_n 0 dX6_push_19 rfl rfl ?_
    refine g_dup dX6_push_20 rfl ?_
    refine g_getI dX6_push_21 fl6_23 c0 ?_
    refine g_iconst (v := 1) dX6_push_24 (by decide) ?_
    refine g_iadd dX6_push_25 ?_
    refine g_putI dX6_push_26 fl6_23 (fun h => by cases h) c0 ?_
    exact g_vret dX6_push_29 rfl enSH (h3 q1)
theorem bX6_pop_0 {X : pX} {Q : Option Value → pMem → Prop} {m : pMem} {a0 : Nat} (hW : Wf m) (c0 : SH[a0]? = some (.inl 6))
    (h1 : (1 : Int32) ≤ (mI m a0 3) → vp_in (mI (uI m a0 3 ((mI m a0 3) - (1 : Int32))) a0 3) 64)
    (h2 : (1 : Int32) ≤ (mI m a0 3) → Q (some (.long (mL (uI m a0 3 ((mI m a0 3) - (1 : Int32))) (a0 + 2) ((mI (uI m a0 3 ((mI m a0 3) - (1 : Int32))) a0 3).toNatClampNeg)))) (uI m a0 3 ((mI m a0 3) - (1 : Int32))))
    (h3 : ¬ ((1 : Int32) ≤ (mI m a0 3)) → Q (some (.long (0 : Int64))) m) :
    Go X 0 mX6_pop Q 0 [(0, .ref a0)] [] m := by
  refine g_aload_n 0 dX6_pop_0 rfl rfl ?_
  refine g_getI dX6_pop_1 fl6_23 c0 ?_
  refine g_iconst (v := 1) dX6_pop_4 (by decide) ?_
  refine g_icmp_ge 10 dX6_pop_5 (by decide) (fun q1 => ?_) (fun q1 => ?_)
  · refine g_aload_n 0 dX6_pop_10 rfl rfl ?_
    refine g_dup dX6_pop_11 rfl ?_
    refine g_getI dX6_pop_12 fl6_23 c0 ?_
    refine g_iconst (v := 1) dX6_pop_15 (by decide) ?_
    refine g_isub dX6_pop_16 ?_
    refine g_putI dX6_pop_17 fl6_23 (fun h => by cases h) c0 ?_
    refine g_aload_n 0 dX6_pop_20 rfl rfl ?_
    refine g_getR dX6_pop_21 fl6_15 rfl c0 (w6_1 hW c0) ?_
    refine g_aload_n 0 dX6_pop_24 rfl rfl ?_
    refine g_getI dX6_pop_25 fl6_23 c0 ?_
    refine g_lald (j := (mI (uI m a0 3 ((mI m a0 3) - (1 : Int32))) a0 3).toNatClampNeg) dX6_pop_28 (s6_1 c0) (h1 q1) rfl ?_
    exact g_lret dX6_pop_29 rfl enSH (h2 q1)
  · refine g_lconst (v := 0) dX6_pop_8 (by decide) ?_
    exact g_lret dX6_pop_9 rfl enSH (h3 q1)
theorem bX6_ofTwo_0 {X : pX} {Q : Option Value → pMem → Prop} {m : pMem} {x0 : Int32} {y1 : Int64} {y3 : Int64} (hW : Wf m)
    (h1 : x0 = -32 → Q (some (.long (y1 ||| y3))) m)
    (h2 : ¬ x0 = -32 → x0 = -31 → Q (some (.long (y1 &&& y3))) m)
    (h3 : ¬ x0 = -32 → ¬ x0 = -31 → x0 = -30 → (lg_cmp y1 y3) ≤ 0 → Q (some (.long (0 : Int64))) m)
    (h4 : ¬ x0 = -32 → ¬ x0 = -31 → x0 = -30 → ¬ ((lg_cmp y1 y3) ≤ 0) → Q (some (.long (1 : Int64))) m)
    (h5 : ¬ x0 = -32 → ¬ x0 = -31 → ¬ x0 = -30 → x0 = -29 → (lg_cmp y1 y3) < 0 → Q (some (.long (0 : Int64))) m)
    (h6 : ¬ x0 = -32 → ¬ x0 = -31 → ¬ x0 = -30 → x0 = -29 → ¬ ((lg_cmp y1 y3) < 0) → Q (some (.long (1 : Int64))) m)
    (h7 : ¬ x0 = -32 → ¬ x0 = -31 → ¬ x0 = -30 → ¬ x0 = -29 → x0 = -28 → ¬ (lg_cmp y1 y3) = 0 → Q (some (.long (0 : Int64))) m)
    (h8 : ¬ x0 = -32 → ¬ x0 = -31 → ¬ x0 = -30 → ¬ x0 = -29 → x0 = -28 → (lg_cmp y1 y3) = 0 → Q (some (.long (1 : Int64))) m)
    (h9 : ¬ x0 = -32 → ¬ x0 = -31 → ¬ x0 = -30 → ¬ x0 = -29 → ¬ x0 = -28 → x0 = -27 → 0 < (lg_cmp y1 y3) → Q (some (.long (0 : Int64))) m)
    (h10 : ¬ x0 = -32 → ¬ x0 = -31 → ¬ x0 = -30 → ¬ x0 = -29 → ¬ x0 = -28 → x0 = -27 → ¬ (0 < (lg_cmp y1 y3)) → Q (some (.long (1 : Int64))) m)
    (h11 : ¬ x0 = -32 → ¬ x0 = -31 → ¬ x0 = -30 → ¬ x0 = -29 → ¬ x0 = -28 → ¬ x0 = -27 → x0 = -26 → 0 ≤ (lg_cmp y1 y3) → Q (some (.long (0 : Int64))) m)
    (h12 : ¬ x0 = -32 → ¬ x0 = -31 → ¬ x0 = -30 → ¬ x0 = -29 → ¬ x0 = -28 → ¬ x0 = -27 → x0 = -26 → ¬ (0 ≤ (lg_cmp y1 y3)) → Q (some (.long (1 : Int64))) m)
    (h13 : ¬ x0 = -32 → ¬ x0 = -31 → ¬ x0 = -30 → ¬ x0 = -29 → ¬ x0 = -28 → ¬ x0 = -27 → ¬ x0 = -26 → x0 = -25 → ¬ (lg_cmp y3 (0 : Int64)) = 0 → ¬ y3 = 0)
    (h14 : ¬ x0 = -32 → ¬ x0 = -31 → ¬ x0 = -30 → ¬ x0 = -29 → ¬ x0 = -28 → ¬ x0 = -27 → ¬ x0 = -26 → x0 = -25 → ¬ (lg_cmp y3 (0 : Int64)) = 0 → Q (some (.long (y1 - y1 / y3 * y3))) m)
    (h15 : ¬ x0 = -32 → ¬ x0 = -31 → ¬ x0 = -30 → ¬ x0 = -29 → ¬ x0 = -28 → ¬ x0 = -27 → ¬ x0 = -26 → x0 = -25 → (lg_cmp y3 (0 : Int64)) = 0 → Q (some (.long (0 : Int64))) m)
    (h16 : ¬ x0 = -32 → ¬ x0 = -31 → ¬ x0 = -30 → ¬ x0 = -29 → ¬ x0 = -28 → ¬ x0 = -27 → ¬ x0 = -26 → ¬ x0 = -25 → x0 = -24 → ¬ (lg_cmp y3 (0 : Int64)) = 0 → ¬ y3 = 0)
    (h17 : ¬ x0 = -32 → ¬ x0 = -31 → ¬ x0 = -30 → ¬ x0 = -29 → ¬ x0 = -28 → ¬ x0 = -27 → ¬ x0 = -26 → ¬ x0 = -25 → x0 = -24 → ¬ (lg_cmp y3 (0 : Int64)) = 0 → Q (some (.long (y1 / y3))) m)
    (h18 : ¬ x0 = -32 → ¬ x0 = -31 → ¬ x0 = -30 → ¬ x0 = -29 → ¬ x0 = -28 → ¬ x0 = -27 → ¬ x0 = -26 → ¬ x0 = -25 → x0 = -24 → (lg_cmp y3 (0 : Int64)) = 0 → Q (some (.long (0 : Int64))) m)
    (h19 : ¬ x0 = -32 → ¬ x0 = -31 → ¬ x0 = -30 → ¬ x0 = -29 → ¬ x0 = -28 → ¬ x0 = -27 → ¬ x0 = -26 → ¬ x0 = -25 → ¬ x0 = -24 → x0 = -23 → Q (some (.long (y1 * y3))) m)
    (h20 : ¬ x0 = -32 → ¬ x0 = -31 → ¬ x0 = -30 → ¬ x0 = -29 → ¬ x0 = -28 → ¬ x0 = -27 → ¬ x0 = -26 → ¬ x0 = -25 → ¬ x0 = -24 → ¬ x0 = -23 → x0 = -22 → Q (some (.long (y1 - y3))) m)
    (h21 : ¬ x0 = -32 → ¬ x0 = -31 → ¬ x0 = -30 → ¬ x0 = -29 → ¬ x0 = -28 → ¬ x0 = -27 → ¬ x0 = -26 → ¬ x0 = -25 → ¬ x0 = -24 → ¬ x0 = -23 → ¬ x0 = -22 → x0 = -21 → Q (some (.long (y1 + y3))) m)
    (h22 : ¬ x0 = -32 → ¬ x0 = -31 → ¬ x0 = -30 → ¬ x0 = -29 → ¬ x0 = -28 → ¬ x0 = -27 → ¬ x0 = -26 → ¬ x0 = -25 → ¬ x0 = -24 → ¬ x0 = -23 → ¬ x0 = -22 → ¬ x0 = -21 → Q (some (.long (0 : Int64))) m) :
    Go X 0 mX6_ofTwo Q 0 [(0, .int x0), (1, .long y1), (3, .long y3)] [] m := by
  refine g_iload_n 0 dX6_ofTwo_0 rfl rfl ?_
  by_cases q1 : x0 = -32
  · refine g_tabIn 168 dX6_ofTwo_1 (by rw [q1]; decide) (by rw [q1]; decide) (by rw [q1]; rfl) (by decide) ?_
    refine g_lload_n 1 dX6_ofTwo_168 rfl rfl ?_
    refine g_lload_n 2 dX6_ofTwo_169 rfl rfl ?_
    refine g_lor dX6_ofTwo_170 ?_
    exact g_lret dX6_ofTwo_171 rfl enSH (h1 q1)
  by_cases q2 : x0 = -31
  · refine g_tabIn 164 dX6_ofTwo_1 (by rw [q2]; decide) (by rw [q2]; decide) (by rw [q2]; rfl) (by decide) ?_
    refine g_lload_n 1 dX6_ofTwo_164 rfl rfl ?_
    refine g_lload_n 2 dX6_ofTwo_165 rfl rfl ?_
    refine g_land dX6_ofTwo_166 ?_
    exact g_lret dX6_ofTwo_167 rfl enSH (h2 q1 q2)
  by_cases q3 : x0 = -30
  · refine g_tabIn 152 dX6_ofTwo_1 (by rw [q3]; decide) (by rw [q3]; decide) (by rw [q3]; rfl) (by decide) ?_
    refine g_lload_n 1 dX6_ofTwo_152 rfl rfl ?_
    refine g_lload_n 2 dX6_ofTwo_153 rfl rfl ?_
    refine g_lcmp dX6_ofTwo_154 ?_
    refine g_if_le 162 dX6_ofTwo_155 (by decide) (fun q4 => ?_) (fun q4 => ?_)
    · refine g_lconst (v := 0) dX6_ofTwo_162 (by decide) ?_
      exact g_lret dX6_ofTwo_163 rfl enSH (h3 q1 q2 q3 q4)
    · refine g_lconst (v := 1) dX6_ofTwo_158 (by decide) ?_
      refine g_goto 163 dX6_ofTwo_159 (by decide) ?_
      exact g_lret dX6_ofTwo_163 rfl enSH (h4 q1 q2 q3 q4)
  by_cases q5 : x0 = -29
  · refine g_tabIn 140 dX6_ofTwo_1 (by rw [q5]; decide) (by rw [q5]; decide) (by rw [q5]; rfl) (by decide) ?_
    refine g_lload_n 1 dX6_ofTwo_140 rfl rfl ?_
    refine g_lload_n 2 dX6_ofTwo_141 rfl rfl ?_
    refine g_lcmp dX6_ofTwo_142 ?_
    refine g_if_lt 150 dX6_ofTwo_143 (by decide) (fun q6 => ?_) (fun q6 => ?_)
    · refine g_lconst (v := 0) dX6_ofTwo_150 (by decide) ?_
      exact g_lret dX6_ofTwo_151 rfl enSH (h5 q1 q2 q3 q5 q6)
    · refine g_lconst (v := 1) dX6_ofTwo_146 (by decide) ?_
      refine g_goto 151 dX6_ofTwo_147 (by decide) ?_
      exact g_lret dX6_ofTwo_151 rfl enSH (h6 q1 q2 q3 q5 q6)
  by_cases q7 : x0 = -28
  · refine g_tabIn 128 dX6_ofTwo_1 (by rw [q7]; decide) (by rw [q7]; decide) (by rw [q7]; rfl) (by decide) ?_
    refine g_lload_n 1 dX6_ofTwo_128 rfl rfl ?_
    refine g_lload_n 2 dX6_ofTwo_129 rfl rfl ?_
    refine g_lcmp dX6_ofTwo_130 ?_
    refine g_if_ne 138 dX6_ofTwo_131 (by decide) (fun q8 => ?_) (fun q8 => ?_)
    · refine g_lconst (v := 0) dX6_ofTwo_138 (by decide) ?_
      exact g_lret dX6_ofTwo_139 rfl enSH (h7 q1 q2 q3 q5 q7 q8)
    · refine g_lconst (v := 1) dX6_ofTwo_134 (by decide) ?_
      refine g_goto 139 dX6_ofTwo_135 (by decide) ?_
      exact g_lret dX6_ofTwo_139 rfl enSH (h8 q1 q2 q3 q5 q7 q8)
  by_cases q9 : x0 = -27
  · refine g_tabIn 116 dX6_ofTwo_1 (by rw [q9]; decide) (by rw [q9]; decide) (by rw [q9]; rfl) (by decide) ?_
    refine g_lload_n 1 dX6_ofTwo_116 rfl rfl ?_
    refine g_lload_n 2 dX6_ofTwo_117 rfl rfl ?_
    refine g_lcmp dX6_ofTwo_118 ?_
    refine g_if_gt 126 dX6_ofTwo_119 (by decide) (fun q10 => ?_) (fun q10 => ?_)
    · refine g_lconst (v := 0) dX6_ofTwo_126 (by decide) ?_
      exact g_lret dX6_ofTwo_127 rfl enSH (h9 q1 q2 q3 q5 q7 q9 q10)
    · refine g_lconst (v := 1) dX6_ofTwo_122 (by decide) ?_
      refine g_goto 127 dX6_ofTwo_123 (by decide) ?_
      exact g_lret dX6_ofTwo_127 rfl enSH (h10 q1 q2 q3 q5 q7 q9 q10)
  by_cases q11 : x0 = -26
  · refine g_tabIn 104 dX6_ofTwo_1 (by rw [q11]; decide) (by rw [q11]; decide) (by rw [q11]; rfl) (by decide) ?_
    refine g_lload_n 1 dX6_ofTwo_104 rfl rfl ?_
    refine g_lload_n 2 dX6_ofTwo_105 rfl rfl ?_
    refine g_lcmp dX6_ofTwo_106 ?_
    refine g_if_ge 114 dX6_ofTwo_107 (by decide) (fun q12 => ?_) (fun q12 => ?_)
    · refine g_lconst (v := 0) dX6_ofTwo_114 (by decide) ?_
      exact g_lret dX6_ofTwo_115 rfl enSH (h11 q1 q2 q3 q5 q7 q9 q11 q12)
    · refine g_lconst (v := 1) dX6_ofTwo_110 (by decide) ?_
      refine g_goto 115 dX6_ofTwo_111 (by decide) ?_
      exact g_lret dX6_ofTwo_115 rfl enSH (h12 q1 q2 q3 q5 q7 q9 q11 q12)
  by_cases q13 : x0 = -25
  · refine g_tabIn 90 dX6_ofTwo_1 (by rw [q13]; decide) (by rw [q13]; decide) (by rw [q13]; rfl) (by decide) ?_
    refine g_lload_n 2 dX6_ofTwo_90 rfl rfl ?_
    refine g_lconst (v := 0) dX6_ofTwo_91 (by decide) ?_
    refine g_lcmp dX6_ofTwo_92 ?_
    refine g_if_ne 100 dX6_ofTwo_93 (by decide) (fun q14 => ?_) (fun q14 => ?_)
    · refine g_lload_n 1 dX6_ofTwo_100 rfl rfl ?_
      refine g_lload_n 2 dX6_ofTwo_101 rfl rfl ?_
      refine g_lrem dX6_ofTwo_102 (h13 q1 q2 q3 q5 q7 q9 q11 q13 q14) ?_
      exact g_lret dX6_ofTwo_103 rfl enSH (h14 q1 q2 q3 q5 q7 q9 q11 q13 q14)
    · refine g_lconst (v := 0) dX6_ofTwo_96 (by decide) ?_
      refine g_goto 103 dX6_ofTwo_97 (by decide) ?_
      exact g_lret dX6_ofTwo_103 rfl enSH (h15 q1 q2 q3 q5 q7 q9 q11 q13 q14)
  by_cases q15 : x0 = -24
  · refine g_tabIn 76 dX6_ofTwo_1 (by rw [q15]; decide) (by rw [q15]; decide) (by rw [q15]; rfl) (by decide) ?_
    refine g_lload_n 2 dX6_ofTwo_76 rfl rfl ?_
    refine g_lconst (v := 0) dX6_ofTwo_77 (by decide) ?_
    refine g_lcmp dX6_ofTwo_78 ?_
    refine g_if_ne 86 dX6_ofTwo_79 (by decide) (fun q16 => ?_) (fun q16 => ?_)
    · refine g_lload_n 1 dX6_ofTwo_86 rfl rfl ?_
      refine g_lload_n 2 dX6_ofTwo_87 rfl rfl ?_
      refine g_ldiv dX6_ofTwo_88 (h16 q1 q2 q3 q5 q7 q9 q11 q13 q15 q16) ?_
      exact g_lret dX6_ofTwo_89 rfl enSH (h17 q1 q2 q3 q5 q7 q9 q11 q13 q15 q16)
    · refine g_lconst (v := 0) dX6_ofTwo_82 (by decide) ?_
      refine g_goto 89 dX6_ofTwo_83 (by decide) ?_
      exact g_lret dX6_ofTwo_89 rfl enSH (h18 q1 q2 q3 q5 q7 q9 q11 q13 q15 q16)
  by_cases q17 : x0 = -23
  · refine g_tabIn 72 dX6_ofTwo_1 (by rw [q17]; decide) (by rw [q17]; decide) (by rw [q17]; rfl) (by decide) ?_
    refine g_lload_n 1 dX6_ofTwo_72 rfl rfl ?_
    refine g_lload_n 2 dX6_ofTwo_73 rfl rfl ?_
    refine g_lmul dX6_ofTwo_74 ?_
    exact g_lret dX6_ofTwo_75 rfl enSH (h19 q1 q2 q3 q5 q7 q9 q11 q13 q15 q17)
  by_cases q18 : x0 = -22
  · refine g_tabIn 68 dX6_ofTwo_1 (by rw [q18]; decide) (by rw [q18]; decide) (by rw [q18]; rfl) (by decide) ?_
    refine g_lload_n 1 dX6_ofTwo_68 rfl rfl ?_
    refine g_lload_n 2 dX6_ofTwo_69 rfl rfl ?_
    refine g_lsub dX6_ofTwo_70 ?_
    exact g_lret dX6_ofTwo_71 rfl enSH (h20 q1 q2 q3 q5 q7 q9 q11 q13 q15 q17 q18)
  by_cases q19 : x0 = -21
  · refine g_tabIn 64 dX6_ofTwo_1 (by rw [q19]; decide) (by rw [q19]; decide) (by rw [q19]; rfl) (by decide) ?_
    refine g_lload_n 1 dX6_ofTwo_64 rfl rfl ?_
    refine g_lload_n 2 dX6_ofTwo_65 rfl rfl ?_
    refine g_ladd dX6_ofTwo_66 ?_
    exact g_lret dX6_ofTwo_67 rfl enSH (h21 q1 q2 q3 q5 q7 q9 q11 q13 q15 q17 q18 q19)
  refine g_tabOut 172 dX6_ofTwo_1 (p_tabD (fun k hk1 hk2 => ?_)) (by decide) ?_
  · have hk : k = -32 ∨ k = -31 ∨ k = -30 ∨ k = -29 ∨ k = -28 ∨ k = -27 ∨ k = -26 ∨ k = -25 ∨ k = -24 ∨ k = -23 ∨ k = -22 ∨ k = -21 := by omega
    rcases hk with rfl | rfl | rfl | rfl | rfl | rfl | rfl | rfl | rfl | rfl | rfl | rfl
    · exact q1
    · exact q2
    · exact q3
    · exact q5
    · exact q7
    · exact q9
    · exact q11
    · exact q13
    · exact q15
    · exact q17
    · exact q18
    · exact q19
  refine g_lconst (v := 0) dX6_ofTwo_172 (by decide) ?_
  exact g_lret dX6_ofTwo_173 rfl enSH (h22 q1 q2 q3 q5 q7 q9 q11 q13 q15 q17 q18 q19)
