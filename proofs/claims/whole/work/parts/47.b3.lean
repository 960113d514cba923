theorem bX6_sum_0 {X : pX} {Q : Option Value → pMem → Prop} {m : pMem} {a0 : Nat} {a1 n1 : Nat} (hW : Wf m) (c0 : SH[a0]? = some (.inl 6)) (c1 : SH[a1]? = some (.inr (.int, n1)))
    (h1 : Go X 1 mX6_sum Q 7 [(0, .ref a0), (1, .ref a1), (2, .int (0 : Int32))] [] (uI m a0 3 (0 : Int32))) :
    Go X 1 mX6_sum Q 0 [(0, .ref a0), (1, .ref a1)] [] m := by
  refine g_aload_n 0 dX6_sum_0 rfl rfl ?_
  refine g_iconst (v := 0) dX6_sum_1 (by decide) ?_
  refine g_putI dX6_sum_2 fl6_23 (fun h => by cases h) c0 ?_
  refine g_iconst (v := 0) dX6_sum_5 (by decide) ?_
  refine g_istore_n (ls2 := [(2, .int (0 : Int32)), (0, .ref a0), (1, .ref a1)]) dX6_sum_6 rfl (by decide) rfl ?_
  exact g_ls [1, 2, 0] rfl h1
theorem bX6_sum_7 {X : pX} {Q : Option Value → pMem → Prop} {m : pMem} {a0 : Nat} {a1 n1 : Nat} {x2 : Int32} (hW : Wf m) (c0 : SH[a0]? = some (.inl 6)) (c1 : SH[a1]? = some (.inr (.int, n1)))
    (h1 : (mI m a0 2) ≤ x2 → Q (some (.long (0 : Int64))) m)
    (h2 : ¬ ((mI m a0 2) ≤ x2) → (400 : Int32) ≤ x2 → Q (some (.long (0 : Int64))) m)
    (h3 : ¬ ((mI m a0 2) ≤ x2) → ¬ ((400 : Int32) ≤ x2) → vp_in x2 400)
    (h4 : ¬ ((mI m a0 2) ≤ x2) → ¬ ((400 : Int32) ≤ x2) → (mI m (a0 + 1) x2.toNatClampNeg) < 0 → (mI m (a0 + 1) x2.toNatClampNeg) ≤ (-13 : Int32) → ¬ (mI m (a0 + 1) x2.toNatClampNeg) = (-34 : Int32) → ¬ (mI m (a0 + 1) x2.toNatClampNeg) = (-35 : Int32) → ¬ (mI m (a0 + 1) x2.toNatClampNeg) = (-33 : Int32) → Cl X 0 mX6_pop [.ref a0] m (fun v m2 => Go X 1 mX6_sum Q 159 [(0, .ref a0), (1, .ref a1), (2, .int x2), (3, .int (mI m (a0 + 1) x2.toNatClampNeg))] (v.toList ++ []) m2))
    (h5 : ¬ ((mI m a0 2) ≤ x2) → ¬ ((400 : Int32) ≤ x2) → (mI m (a0 + 1) x2.toNatClampNeg) < 0 → (mI m (a0 + 1) x2.toNatClampNeg) ≤ (-13 : Int32) → ¬ (mI m (a0 + 1) x2.toNatClampNeg) = (-34 : Int32) → ¬ (mI m (a0 + 1) x2.toNatClampNeg) = (-35 : Int32) → (mI m (a0 + 1) x2.toNatClampNeg) = (-33 : Int32) → Cl X 0 mX6_pop [.ref a0] m (fun v m2 => Go X 1 mX6_sum Q 139 [(0, .ref a0), (1, .ref a1), (2, .int x2), (3, .int (mI m (a0 + 1) x2.toNatClampNeg))] (v.toList ++ [.ref a0]) m2))
    (h6 : ¬ ((mI m a0 2) ≤ x2) → ¬ ((400 : Int32) ≤ x2) → (mI m (a0 + 1) x2.toNatClampNeg) < 0 → (mI m (a0 + 1) x2.toNatClampNeg) ≤ (-13 : Int32) → ¬ (mI m (a0 + 1) x2.toNatClampNeg) = (-34 : Int32) → (mI m (a0 + 1) x2.toNatClampNeg) = (-35 : Int32) → Cl X 0 mX6_pop [.ref a0] m (fun v m2 => Go X 1 mX6_sum Q 99 [(0, .ref a0), (1, .ref a1), (2, .int x2), (3, .int (mI m (a0 + 1) x2.toNatClampNeg))] (v.toList ++ []) m2))
    (h7 : ¬ ((mI m a0 2) ≤ x2) → ¬ ((400 : Int32) ≤ x2) → (mI m (a0 + 1) x2.toNatClampNeg) < 0 → (mI m (a0 + 1) x2.toNatClampNeg) ≤ (-13 : Int32) → (mI m (a0 + 1) x2.toNatClampNeg) = (-34 : Int32) → Cl X 0 mX6_pop [.ref a0] m (fun v m2 => Go X 1 mX6_sum Q 88 [(0, .ref a0), (1, .ref a1), (2, .int x2), (3, .int (mI m (a0 + 1) x2.toNatClampNeg))] (v.toList ++ []) m2))
    (h8 : ¬ ((mI m a0 2) ≤ x2) → ¬ ((400 : Int32) ≤ x2) → (mI m (a0 + 1) x2.toNatClampNeg) < 0 → ¬ ((mI m (a0 + 1) x2.toNatClampNeg) ≤ (-13 : Int32)) → (Int32.ofNat n1) ≤ ((-1 : Int32) - (mI m (a0 + 1) x2.toNatClampNeg)) → Cl X 0 mX6_push [.ref a0, .long (0 : Int64)] m (fun v m2 => Go X 1 mX6_sum Q 75 [(0, .ref a0), (1, .ref a1), (2, .int x2), (3, .int (mI m (a0 + 1) x2.toNatClampNeg)), (4, .int ((-1 : Int32) - (mI m (a0 + 1) x2.toNatClampNeg)))] (v.toList ++ []) m2))
    (h9 : ¬ ((mI m a0 2) ≤ x2) → ¬ ((400 : Int32) ≤ x2) → (mI m (a0 + 1) x2.toNatClampNeg) < 0 → ¬ ((mI m (a0 + 1) x2.toNatClampNeg) ≤ (-13 : Int32)) → ¬ ((Int32.ofNat n1) ≤ ((-1 : Int32) - (mI m (a0 + 1) x2.toNatClampNeg))) → vp_in ((-1 : Int32) - (mI m (a0 + 1) x2.toNatClampNeg)) n1)
    (h10 : ¬ ((mI m a0 2) ≤ x2) → ¬ ((400 : Int32) ≤ x2) → (mI m (a0 + 1) x2.toNatClampNeg) < 0 → ¬ ((mI m (a0 + 1) x2.toNatClampNeg) ≤ (-13 : Int32)) → ¬ ((Int32.ofNat n1) ≤ ((-1 : Int32) - (mI m (a0 + 1) x2.toNatClampNeg))) → Cl X 0 mX6_push [.ref a0, .long ((mI m a1 (((-1 : Int32) - (mI m (a0 + 1) x2.toNatClampNeg)).toNatClampNeg)).toInt64)] m (fun v m2 => Go X 1 mX6_sum Q 75 [(0, .ref a0), (1, .ref a1), (2, .int x2), (3, .int (mI m (a0 + 1) x2.toNatClampNeg)), (4, .int ((-1 : Int32) - (mI m (a0 + 1) x2.toNatClampNeg)))] (v.toList ++ []) m2))
    (h11 : ¬ ((mI m a0 2) ≤ x2) → ¬ ((400 : Int32) ≤ x2) → ¬ ((mI m (a0 + 1) x2.toNatClampNeg) < 0) → Cl X 0 mX6_push [.ref a0, .long ((mI m (a0 + 1) x2.toNatClampNeg).toInt64)] m (fun v m2 => Go X 1 mX6_sum Q 41 [(0, .ref a0), (1, .ref a1), (2, .int x2), (3, .int (mI m (a0 + 1) x2.toNatClampNeg))] (v.toList ++ []) m2)) :
    Go X 1 mX6_sum Q 7 [(0, .ref a0), (1, .ref a1), (2, .int x2)] [] m := by
  refine g_iload_n 2 dX6_sum_7 rfl rfl ?_
  refine g_aload_n 0 dX6_sum_8 rfl rfl ?_
  refine g_getI dX6_sum_9 fl6_19 c0 ?_
  refine g_icmp_ge 181 dX6_sum_12 (by decide) (fun q1 => ?_) (fun q1 => ?_)
  · refine g_lconst (v := 0) dX6_sum_181 (by decide) ?_
    exact g_lret dX6_sum_182 rfl enSH (h1 q1)
  · refine g_iload_n 2 dX6_sum_15 rfl rfl ?_
    refine g_aload_n 0 dX6_sum_16 rfl rfl ?_
    refine g_getR dX6_sum_17 fl6_9 rfl c0 (w6_0 hW c0) ?_
    refine g_alen (v := (400 : Int32)) dX6_sum_20 (s6_0 c0) (by decide) (by first | rfl | decide) ?_
    refine g_icmp_ge 181 dX6_sum_21 (by decide) (fun q2 => ?_) (fun q2 => ?_)
    · refine g_lconst (v := 0) dX6_sum_181 (by decide) ?_
      exact g_lret dX6_sum_182 rfl enSH (h2 q1 q2)
    · refine g_aload_n 0 dX6_sum_24 rfl rfl ?_
      refine g_getR dX6_sum_25 fl6_9 rfl c0 (w6_0 hW c0) ?_
      refine g_iload_n 2 dX6_sum_28 rfl rfl ?_
      refine g_iald (j := x2.toNatClampNeg) dX6_sum_29 (s6_0 c0) (h3 q1 q2) rfl ?_
      refine g_istore_n (ls2 := [(3, .int (mI m (a0 + 1) x2.toNatClampNeg)), (0, .ref a0), (1, .ref a1), (2, .int x2)]) dX6_sum_30 rfl (by decide) rfl ?_
      refine g_iload_n 0 dX6_sum_31 rfl rfl ?_
      refine g_if_lt 44 dX6_sum_32 (by decide) (fun q3 => ?_) (fun q3 => ?_)
      · refine g_iload_n 0 dX6_sum_44 rfl rfl ?_
        refine g_bipush (v := -13) dX6_sum_45 (by decide) ?_
        refine g_icmp_le 78 dX6_sum_47 (by decide) (fun q4 => ?_) (fun q4 => ?_)
        · refine g_iload_n 0 dX6_sum_78 rfl rfl ?_
          refine g_bipush (v := -34) dX6_sum_79 (by decide) ?_
          refine g_icmp_ne 89 dX6_sum_81 (by decide) (fun q5 => ?_) (fun q5 => ?_)
          · refine g_iload_n 0 dX6_sum_89 rfl rfl ?_
            refine g_bipush (v := -35) dX6_sum_90 (by decide) ?_
            refine g_icmp_ne 128 dX6_sum_92 (by decide) (fun q6 => ?_) (fun q6 => ?_)
            · refine g_iload_n 0 dX6_sum_128 rfl rfl ?_
              refine g_bipush (v := -33) dX6_sum_129 (by decide) ?_
              refine g_icmp_ne 155 dX6_sum_131 (by decide) (fun q7 => ?_) (fun q7 => ?_)
              · refine g_aload_n 1 dX6_sum_155 rfl rfl ?_
                refine g_ls [1, 2, 3, 0] (ls2 := [(0, .ref a0), (1, .ref a1), (2, .int x2), (3, .int (mI m (a0 + 1) x2.toNatClampNeg))]) rfl ?_
                exact g_callV (As := []) (st := []) dX6_sum_156 clX6_30 c0 rfl rfl (Nat.le_of_ble_eq_true rfl) (rmSH (by decide) (by decide)) (h4 q1 q2 q3 q4 q5 q6 q7)
              · refine g_aload_n 1 dX6_sum_134 rfl rfl ?_
                refine g_aload_n 1 dX6_sum_135 rfl rfl ?_
                refine g_ls [1, 2, 3, 0] (ls2 := [(0, .ref a0), (1, .ref a1), (2, .int x2), (3, .int (mI m (a0 + 1) x2.toNatClampNeg))]) rfl ?_
                exact g_callV (As := []) (st := [.ref a0]) dX6_sum_136 clX6_30 c0 rfl rfl (Nat.le_of_ble_eq_true rfl) (rmSH (by decide) (by decide)) (h5 q1 q2 q3 q4 q5 q6 q7)
            · refine g_aload_n 1 dX6_sum_95 rfl rfl ?_
              refine g_ls [1, 2, 3, 0] (ls2 := [(0, .ref a0), (1, .ref a1), (2, .int x2), (3, .int (mI m (a0 + 1) x2.toNatClampNeg))]) rfl ?_
              exact g_callV (As := []) (st := []) dX6_sum_96 clX6_30 c0 rfl rfl (Nat.le_of_ble_eq_true rfl) (rmSH (by decide) (by decide)) (h6 q1 q2 q3 q4 q5 q6)
          · refine g_aload_n 1 dX6_sum_84 rfl rfl ?_
            refine g_ls [1, 2, 3, 0] (ls2 := [(0, .ref a0), (1, .ref a1), (2, .int x2), (3, .int (mI m (a0 + 1) x2.toNatClampNeg))]) rfl ?_
            exact g_callV (As := []) (st := []) dX6_sum_85 clX6_30 c0 rfl rfl (Nat.le_of_ble_eq_true rfl) (rmSH (by decide) (by decide)) (h7 q1 q2 q3 q4 q5)
        · refine g_iconst (v := -1) dX6_sum_50 (by decide) ?_
          refine g_iload_n 0 dX6_sum_51 rfl rfl ?_
          refine g_isub dX6_sum_52 ?_
          refine g_istore (ls2 := [(4, .int ((-1 : Int32) - (mI m (a0 + 1) x2.toNatClampNeg))), (3, .int (mI m (a0 + 1) x2.toNatClampNeg)), (0, .ref a0), (1, .ref a1), (2, .int x2)]) dX6_sum_53 (by decide) rfl ?_
          refine g_aload_n 2 dX6_sum_55 rfl rfl ?_
          refine g_iload 0 dX6_sum_56 rfl ?_
          refine g_aload_n 3 dX6_sum_58 rfl rfl ?_
          refine g_alen (v := Int32.ofNat n1) dX6_sum_59 c1 (by decide) (by first | rfl | decide) ?_
          refine g_icmp_ge 71 dX6_sum_60 (by decide) (fun q8 => ?_) (fun q8 => ?_)
          · refine g_lconst (v := 0) dX6_sum_71 (by decide) ?_
            refine g_ls [2, 3, 4, 1, 0] (ls2 := [(0, .ref a0), (1, .ref a1), (2, .int x2), (3, .int (mI m (a0 + 1) x2.toNatClampNeg)), (4, .int ((-1 : Int32) - (mI m (a0 + 1) x2.toNatClampNeg)))]) rfl ?_
            exact g_callV (As := [.long (0 : Int64)]) (st := []) dX6_sum_72 clX6_26 c0 rfl rfl (Nat.le_of_ble_eq_true rfl) (rmSH (by decide) (by decide)) (h8 q1 q2 q3 q4 q8)
          · refine g_aload_n 3 dX6_sum_63 rfl rfl ?_
            refine g_iload 0 dX6_sum_64 rfl ?_
            refine g_iald (j := ((-1 : Int32) - (mI m (a0 + 1) x2.toNatClampNeg)).toNatClampNeg) dX6_sum_66 c1 (h9 q1 q2 q3 q4 q8) rfl ?_
            refine g_i2l dX6_sum_67 ?_
            refine g_goto 72 dX6_sum_68 (by decide) ?_
            refine g_ls [2, 3, 4, 1, 0] (ls2 := [(0, .ref a0), (1, .ref a1), (2, .int x2), (3, .int (mI m (a0 + 1) x2.toNatClampNeg)), (4, .int ((-1 : Int32) - (mI m (a0 + 1) x2.toNatClampNeg)))]) rfl ?_
            exact g_callV (As := [.long ((mI m a1 (((-1 : Int32) - (mI m (a0 + 1) x2.toNatClampNeg)).toNatClampNeg)).toInt64)]) (st := []) dX6_sum_72 clX6_26 c0 rfl rfl (Nat.le_of_ble_eq_true rfl) (rmSH (by decide) (by decide)) (h10 q1 q2 q3 q4 q8)
      · refine g_aload_n 1 dX6_sum_35 rfl rfl ?_
        refine g_iload_n 0 dX6_sum_36 rfl rfl ?_
        refine g_i2l dX6_sum_37 ?_
        refine g_ls [1, 2, 3, 0] (ls2 := [(0, .ref a0), (1, .ref a1), (2, .int x2), (3, .int (mI m (a0 + 1) x2.toNatClampNeg))]) rfl ?_
        exact g_callV (As := [.long ((mI m (a0 + 1) x2.toNatClampNeg).toInt64)]) (st := []) dX6_sum_38 clX6_26 c0 rfl rfl (Nat.le_of_ble_eq_true rfl) (rmSH (by decide) (by decide)) (h11 q1 q2 q3)
theorem bX6_sum_159 {X : pX} {Q : Option Value → pMem → Prop} {m : pMem} {a0 : Nat} {a1 n1 : Nat} {x2 : Int32} {x3 : Int32} {ys0 : Int64} (hW : Wf m) (c0 : SH[a0]? = some (.inl 6)) (c1 : SH[a1]? = some (.inr (.int, n1)))
    (h1 : Cl X 0 mX6_pop [.ref a0] m (fun v m2 => Go X 1 mX6_sum Q 167 [(0, .ref a0), (1, .ref a1), (2, .int x2), (3, .int x3), (4, .long ys0)] (v.toList ++ [.int x3, .ref a0]) m2)) :
    Go X 1 mX6_sum Q 159 [(0, .ref a0), (1, .ref a1), (2, .int x2), (3, .int x3)] [.long ys0] m := by
  refine g_lstore (ls2 := [(4, .long ys0), (0, .ref a0), (1, .ref a1), (2, .int x2), (3, .int x3)]) dX6_sum_159 (by decide) rfl ?_
  refine g_aload_n 1 dX6_sum_161 rfl rfl ?_
  refine g_iload_n 4 dX6_sum_162 rfl rfl ?_
  refine g_aload_n 1 dX6_sum_163 rfl rfl ?_
  refine g_ls [1, 2, 3, 4, 0] (ls2 := [(0, .ref a0), (1, .ref a1), (2, .int x2), (3, .int x3), (4, .long ys0)]) rfl ?_
  exact g_callV (As := []) (st := [.int x3, .ref a0]) dX6_sum_164 clX6_30 c0 rfl rfl (Nat.le_of_ble_eq_true rfl) (rmSH (by decide) (by decide)) h1
theorem bX6_sum_139 {X : pX} {Q : Option Value → pMem → Prop} {m : pMem} {a0 : Nat} {a1 n1 : Nat} {x2 : Int32} {x3 : Int32} {ys0 : Int64} {as1 : Nat} (hW : Wf m) (c0 : SH[a0]? = some (.inl 6)) (c1 : SH[a1]? = some (.inr (.int, n1))) (cs1 : SH[as1]? = some (.inl 6))
    (h1 : ¬ (lg_cmp ys0 (0 : Int64)) = 0 → Cl X 0 mX6_push [.ref as1, .long (0 : Int64)] m (fun v m2 => Go X 1 mX6_sum Q 152 [(0, .ref a0), (1, .ref a1), (2, .int x2), (3, .int x3)] (v.toList ++ []) m2))
    (h2 : (lg_cmp ys0 (0 : Int64)) = 0 → Cl X 0 mX6_push [.ref as1, .long (1 : Int64)] m (fun v m2 => Go X 1 mX6_sum Q 152 [(0, .ref a0), (1, .ref a1), (2, .int x2), (3, .int x3)] (v.toList ++ []) m2)) :
    Go X 1 mX6_sum Q 139 [(0, .ref a0), (1, .ref a1), (2, .int x2), (3, .int x3)] [.long ys0, .ref as1] m := by
  refine g_lconst (v := 0) dX6_sum_139 (by decide) ?_
  refine g_lcmp dX6_sum_140 ?_
  refine g_if_ne 148 dX6_sum_141 (by decide) (fun q1 => ?_) (fun q1 => ?_)
  · refine g_lconst (v := 0) dX6_sum_148 (by decide) ?_
    exact g_callV (As := [.long (0 : Int64)]) (st := []) dX6_sum_149 clX6_26 cs1 rfl rfl (Nat.le_of_ble_eq_true rfl) (rmSH (by decide) (by decide)) (h1 q1)
  · refine g_lconst (v := 1) dX6_sum_144 (by decide) ?_
    refine g_goto 149 dX6_sum_145 (by decide) ?_
    exact g_callV (As := [.long (1 : Int64)]) (st := []) dX6_sum_149 clX6_26 cs1 rfl rfl (Nat.le_of_ble_eq_true rfl) (rmSH (by decide) (by decide)) (h2 q1)
theorem bX6_sum_99 {X : pX} {Q : Option Value → pMem → Prop} {m : pMem} {a0 : Nat} {a1 n1 : Nat} {x2 : Int32} {x3 : Int32} {ys0 : Int64} (hW : Wf m) (c0 : SH[a0]? = some (.inl 6)) (c1 : SH[a1]? = some (.inr (.int, n1)))
    (h1 : (lg_cmp ys0 (0 : Int64)) = 0 → Cl X 0 mX6_pop [.ref a0] m (fun v m2 => Go X 1 mX6_sum Q 115 [(0, .ref a0), (1, .ref a1), (2, .int x2), (3, .int x3), (4, .int (0 : Int32))] (v.toList ++ []) m2))
    (h2 : ¬ ((lg_cmp ys0 (0 : Int64)) = 0) → Cl X 0 mX6_pop [.ref a0] m (fun v m2 => Go X 1 mX6_sum Q 115 [(0, .ref a0), (1, .ref a1), (2, .int x2), (3, .int x3), (4, .int (1 : Int32))] (v.toList ++ []) m2)) :
    Go X 1 mX6_sum Q 99 [(0, .ref a0), (1, .ref a1), (2, .int x2), (3, .int x3)] [.long ys0] m := by
  refine g_lconst (v := 0) dX6_sum_99 (by decide) ?_
  refine g_lcmp dX6_sum_100 ?_
  refine g_if_eq 108 dX6_sum_101 (by decide) (fun q1 => ?_) (fun q1 => ?_)
  · refine g_iconst (v := 0) dX6_sum_108 (by decide) ?_
    refine g_istore (ls2 := [(4, .int (0 : Int32)), (0, .ref a0), (1, .ref a1), (2, .int x2), (3, .int x3)]) dX6_sum_109 (by decide) rfl ?_
    refine g_aload_n 1 dX6_sum_111 rfl rfl ?_
    refine g_ls [1, 2, 3, 4, 0] (ls2 := [(0, .ref a0), (1, .ref a1), (2, .int x2), (3, .int x3), (4, .int (0 : Int32))]) rfl ?_
    exact g_callV (As := []) (st := []) dX6_sum_112 clX6_30 c0 rfl rfl (Nat.le_of_ble_eq_true rfl) (rmSH (by decide) (by decide)) (h1 q1)
  · refine g_iconst (v := 1) dX6_sum_104 (by decide) ?_
    refine g_goto 109 dX6_sum_105 (by decide) ?_
    refine g_istore (ls2 := [(4, .int (1 : Int32)), (0, .ref a0), (1, .ref a1), (2, .int x2), (3, .int x3)]) dX6_sum_109 (by decide) rfl ?_
    refine g_aload_n 1 dX6_sum_111 rfl rfl ?_
    refine g_ls [1, 2, 3, 4, 0] (ls2 := [(0, .ref a0), (1, .ref a1), (2, .int x2), (3, .int x3), (4, .int (1 : Int32))]) rfl ?_
    exact g_callV (As := []) (st := []) dX6_sum_112 clX6_30 c0 rfl rfl (Nat.le_of_ble_eq_true rfl) (rmSH (by decide) (by decide)) (h2 q1)
theorem bX6_sum_88 {X : pX} {Q : Option Value → pMem → Prop} {m : pMem} {a0 : Nat} {a1 n1 : Nat} {x2 : Int32} {x3 : Int32} {ys0 : Int64} (hW : Wf m) (c0 : SH[a0]? = some (.inl 6)) (c1 : SH[a1]? = some (.inr (.int, n1)))
    (h1 : Q (some (.long ys0)) m) :
    Go X 1 mX6_sum Q 88 [(0, .ref a0), (1, .ref a1), (2, .int x2), (3, .int x3)] [.long ys0] m := by
  exact g_lret dX6_sum_88 rfl enSH h1
theorem bX6_sum_75 {X : pX} {Q : Option Value → pMem → Prop} {m : pMem} {a0 : Nat} {a1 n1 : Nat} {x2 : Int32} {x3 : Int32} {x4 : Int32} (hW : Wf m) (c0 : SH[a0]? = some (.inl 6)) (c1 : SH[a1]? = some (.inr (.int, n1)))
    (h1 : Go X 1 mX6_sum Q 7 [(0, .ref a0), (1, .ref a1), (2, .int (x2 + (1 : Int32)))] [] m) :
    Go X 1 mX6_sum Q 75 [(0, .ref a0), (1, .ref a1), (2, .int x2), (3, .int x3), (4, .int x4)] [] m := by
  refine g_goto 175 dX6_sum_75 (by decide) ?_
  refine g_iinc (v := x2 + (1 : Int32)) (ls2 := [(2, .int (x2 + (1 : Int32))), (0, .ref a0), (1, .ref a1), (3, .int x3), (4, .int x4)]) 2 dX6_sum_175 rfl rfl (by decide) rfl ?_
  refine g_goto 7 dX6_sum_178 (by decide) ?_
  exact g_ls [1, 2, 0] rfl h1
theorem bX6_sum_41 {X : pX} {Q : Option Value → pMem → Prop} {m : pMem} {a0 : Nat} {a1 n1 : Nat} {x2 : Int32} {x3 : Int32} (hW : Wf m) (c0 : SH[a0]? = some (.inl 6)) (c1 : SH[a1]? = some (.inr (.int, n1)))
    (h1 : Go X 1 mX6_sum Q 7 [(0, .ref a0), (1, .ref a1), (2, .int (x2 + (1 : Int32)))] [] m) :
    Go X 1 mX6_sum Q 41 [(0, .ref a0), (1, .ref a1), (2, .int x2), (3, .int x3)] [] m := by
  refine g_goto 175 dX6_sum_41 (by decide) ?_
  refine g_iinc (v := x2 + (1 : Int32)) (ls2 := [(2, .int (x2 + (1 : Int32))), (0, .ref a0), (1, .ref a1), (3, .int x3)]) 2 dX6_sum_175 rfl rfl (by decide) rfl ?_
  refine g_goto 7 dX6_sum_178 (by decide) ?_
  exact g_ls [1, 2, 0] rfl h1
theorem bX6_sum_167 {X : pX} {Q : Option Value → pMem → Prop} {m : pMem} {a0 : Nat} {a1 n1 : Nat} {x2 : Int32} {x3 : Int32} {y4 : Int64} {ys0 : Int64} {xs1 : Int32} {as2 : Nat} (hW : Wf m) (c0 : SH[a0]? = some (.inl 6)) (c1 : SH[a1]? = some (.inr (.int, n1))) (cs2 : SH[as2]? = some (.inl 6))
    (h1 : Cl X 0 mX6_push [.ref as2, .long (two xs1 ys0 y4)] m (fun v m2 => Go X 1 mX6_sum Q 175 [(0, .ref a0), (1, .ref a1), (2, .int x2), (3, .int x3), (4, .long y4)] (v.toList ++ []) m2)) :
    Go X 1 mX6_sum Q 167 [(0, .ref a0), (1, .ref a1), (2, .int x2), (3, .int x3), (4, .long y4)] [.long ys0, .int xs1, .ref as2] m := by
  refine g_lload 4 dX6_sum_167 rfl ?_
  refine g_callS (As := [.int xs1, .long ys0, .long y4]) (st := [.ref as2]) dX6_sum_169 clX6_34 rfl rfl (Nat.le_of_ble_eq_true rfl) (rmSH (by decide) (by decide)) (s_ofTwo hW ?_)
  show Go X 1 mX6_sum Q 172 [(0, .ref a0), (1, .ref a1), (2, .int x2), (3, .int x3), (4, .long y4)] [.long (two xs1 ys0 y4), .ref as2] m
  exact g_callV (As := [.long (two xs1 ys0 y4)]) (st := []) dX6_sum_172 clX6_26 cs2 rfl rfl (Nat.le_of_ble_eq_true rfl) (rmSH (by decide) (by decide)) h1
theorem bX6_sum_152 {X : pX} {Q : Option Value → pMem → Prop} {m : pMem} {a0 : Nat} {a1 n1 : Nat} {x2 : Int32} {x3 : Int32} (hW : Wf m) (c0 : SH[a0]? = some (.inl 6)) (c1 : SH[a1]? = some (.inr (.int, n1)))
    (h1 : Go X 1 mX6_sum Q 7 [(0, .ref a0), (1, .ref a1), (2, .int (x2 + (1 : Int32)))] [] m) :
    Go X 1 mX6_sum Q 152 [(0, .ref a0), (1, .ref a1), (2, .int x2), (3, .int x3)] [] m := by
  refine g_goto 175 dX6_sum_152 (by decide) ?_
  refine g_iinc (v := x2 + (1 : Int32)) (ls2 := [(2, .int (x2 + (1 : Int32))), (0, .ref a0), (1, .ref a1), (3, .int x3)]) 2 dX6_sum_175 rfl rfl (by decide) rfl ?_
  refine g_goto 7 dX6_sum_178 (by decide) ?_
  exact g_ls [1, 2, 0] rfl h1
theorem bX6_sum_115 {X : pX} {Q : Option Value → pMem → Prop} {m : pMem} {a0 : Nat} {a1 n1 : Nat} {x2 : Int32} {x3 : Int32} {x4 : Int32} {ys0 : Int64} (hW : Wf m) (c0 : SH[a0]? = some (.inl 6)) (c1 : SH[a1]? = some (.inr (.int, n1)))
    (h1 : x4 = 0 → Go X 1 mX6_sum Q 7 [(0, .ref a0), (1, .ref a1), (2, .int (x2 + (1 : Int32)))] [] m)
    (h2 : ¬ (x4 = 0) → Q (some (.long ys0)) m) :
    Go X 1 mX6_sum Q 115 [(0, .ref a0), (1, .ref a1), (2, .int x2), (3, .int x3), (4, .int x4)] [.long ys0] m := by
  refine g_lstore (ls2 := [(5, .long ys0), (0, .ref a0), (1, .ref a1), (2, .int x2), (3, .int x3), (4, .int x4)]) dX6_sum_115 (by decide) rfl ?_
  refine g_iload 5 dX6_sum_117 rfl ?_
  refine g_if_eq 125 dX6_sum_119 (by decide) (fun q1 => ?_) (fun q1 => ?_)
  · refine g_goto 175 dX6_sum_125 (by decide) ?_
    refine g_iinc (v := x2 + (1 : Int32)) (ls2 := [(2, .int (x2 + (1 : Int32))), (5, .long ys0), (0, .ref a0), (1, .ref a1), (3, .int x3), (4, .int x4)]) 3 dX6_sum_175 rfl rfl (by decide) rfl ?_
    refine g_goto 7 dX6_sum_178 (by decide) ?_
    exact g_ls [2, 3, 0] rfl (h1 q1)
  · refine g_lload 0 dX6_sum_122 rfl ?_
    exact g_lret dX6_sum_124 rfl enSH (h2 q1)
theorem bX6_sum_175 {X : pX} {Q : Option Value → pMem → Prop} {m : pMem} {a0 : Nat} {a1 n1 : Nat} {x2 : Int32} {x3 : Int32} {y4 : Int64} (hW : Wf m) (c0 : SH[a0]? = some (.inl 6)) (c1 : SH[a1]? = some (.inr (.int, n1)))
    (h1 : Go X 1 mX6_sum Q 7 [(0, .ref a0), (1, .ref a1), (2, .int (x2 + (1 : Int32)))] [] m) :
    Go X 1 mX6_sum Q 175 [(0, .ref a0), (1, .ref a1), (2, .int x2), (3, .int x3), (4, .long y4)] [] m := by
  refine g_iinc (v := x2 + (1 : Int32)) (ls2 := [(2, .int (x2 + (1 : Int32))), (0, .ref a0), (1, .ref a1), (3, .int x3), (4, .long y4)]) 2 dX6_sum_175 rfl rfl (by decide) rfl ?_
  refine g_goto 7 dX6_sum_178 (by decide) ?_
  exact g_ls [1, 2, 0] rfl h1
