theorem bX0_carryByRuleS37_0 {X : pX} {Q : Option Value → pMem → Prop} {m : pMem} {a2 : Nat} {x3 : Int32} (hW : Wf m) (c2 : SH[a2]? = some (.inl 6))
    (h1 : vp_in x3 4)
    (h2 : Go X 3 mX0_carryByRule Q 14 [(0, .ref 512), (1, .ref 37), (2, .ref a2), (3, .int x3), (4, .int ((10 : Int32) + (mI m 38 x3.toNatClampNeg))), (5, .int (0 : Int32))] [] m) :
    Go X 3 mX0_carryByRule Q 0 [(0, .ref 512), (1, .ref 37), (2, .ref a2), (3, .int x3)] [] m := by
  refine g_bipush (v := 10) dX0_carryByRule_0 (by decide) ?_
  refine g_aload_n 1 dX0_carryByRule_2 rfl rfl ?_
  refine g_getR dX0_carryByRule_3 fl0_31 rfl sh37 (w8_1 hW sh37) ?_
  refine g_iload_n 3 dX0_carryByRule_6 rfl rfl ?_
  refine g_iald (j := x3.toNatClampNeg) dX0_carryByRule_7 (s8_1 sh37) h1 rfl ?_
  refine g_iadd dX0_carryByRule_8 ?_
  refine g_istore (ls2 := [(4, .int ((10 : Int32) + (mI m 38 x3.toNatClampNeg))), (0, .ref 512), (1, .ref 37), (2, .ref a2), (3, .int x3)]) dX0_carryByRule_9 (by decide) rfl ?_
  refine g_iconst (v := 0) dX0_carryByRule_11 (by decide) ?_
  refine g_istore (ls2 := [(5, .int (0 : Int32)), (4, .int ((10 : Int32) + (mI m 38 x3.toNatClampNeg))), (0, .ref 512), (1, .ref 37), (2, .ref a2), (3, .int x3)]) dX0_carryByRule_12 (by decide) rfl ?_
  exact g_ls [2, 3, 4, 5, 1, 0] rfl h2
theorem bX0_carryByRuleS37_14 {X : pX} {Q : Option Value → pMem → Prop} {m : pMem} {a2 : Nat} {x3 : Int32} {x4 : Int32} {x5 : Int32} (hW : Wf m) (c2 : SH[a2]? = some (.inl 6))
    (h1 : (mI m 31 4) ≤ x5 → Q none m)
    (h2 : ¬ ((mI m 31 4) ≤ x5) → vp_in x5 6)
    (h3 : ¬ ((mI m 31 4) ≤ x5) → (mI m 40 x5.toNatClampNeg) = x3 → Go X 3 mX0_carryByRule Q 48 [(0, .ref 512), (1, .ref 37), (2, .ref a2), (3, .int x3), (4, .int x4), (5, .int x5)] [] m)
    (h4 : ¬ ((mI m 31 4) ≤ x5) → ¬ ((mI m 40 x5.toNatClampNeg) = x3) → ¬ (mI m 40 x5.toNatClampNeg) = x4 → Go X 3 mX0_carryByRule Q 14 [(0, .ref 512), (1, .ref 37), (2, .ref a2), (3, .int x3), (4, .int x4), (5, .int (x5 + (1 : Int32)))] [] m)
    (h5 : ¬ ((mI m 31 4) ≤ x5) → ¬ ((mI m 40 x5.toNatClampNeg) = x3) → (mI m 40 x5.toNatClampNeg) = x4 → Go X 3 mX0_carryByRule Q 48 [(0, .ref 512), (1, .ref 37), (2, .ref a2), (3, .int x3), (4, .int x4), (5, .int x5)] [] m) :
    Go X 3 mX0_carryByRule Q 14 [(0, .ref 512), (1, .ref 37), (2, .ref a2), (3, .int x3), (4, .int x4), (5, .int x5)] [] m := by
  refine g_iload 5 dX0_carryByRule_14 rfl ?_
  refine g_aload_n 0 dX0_carryByRule_16 rfl rfl ?_
  refine g_getR dX0_carryByRule_17 fl0_17 rfl sh512 (w0_0 hW sh512) ?_
  refine g_getI dX0_carryByRule_20 fl0_53 sh31 ?_
  refine g_icmp_ge 110 dX0_carryByRule_23 (by decide) (fun q1 => ?_) (fun q1 => ?_)
  · exact g_vret dX0_carryByRule_110 rfl enSH (h1 q1)
  · refine g_aload_n 1 dX0_carryByRule_26 rfl rfl ?_
    refine g_getR dX0_carryByRule_27 fl0_56 rfl sh37 (w8_3 hW sh37) ?_
    refine g_iload 5 dX0_carryByRule_30 rfl ?_
    refine g_iald (j := x5.toNatClampNeg) dX0_carryByRule_32 (s8_3 sh37) (h2 q1) rfl ?_
    refine g_istore (ls2 := [(6, .int (mI m 40 x5.toNatClampNeg)), (0, .ref 512), (1, .ref 37), (2, .ref a2), (3, .int x3), (4, .int x4), (5, .int x5)]) dX0_carryByRule_33 (by decide) rfl ?_
    refine g_iload 0 dX0_carryByRule_35 rfl ?_
    refine g_iload_n 4 dX0_carryByRule_37 rfl rfl ?_
    refine g_icmp_eq 48 dX0_carryByRule_38 (by decide) (fun q2 => ?_) (fun q2 => ?_)
    · exact g_ls [1, 2, 3, 4, 5, 6] rfl (h3 q1 q2)
    · refine g_iload 0 dX0_carryByRule_41 rfl ?_
      refine g_iload 5 dX0_carryByRule_43 rfl ?_
      refine g_icmp_ne 104 dX0_carryByRule_45 (by decide) (fun q3 => ?_) (fun q3 => ?_)
      · refine g_iinc (v := x5 + (1 : Int32)) (ls2 := [(5, .int (x5 + (1 : Int32))), (6, .int (mI m 40 x5.toNatClampNeg)), (0, .ref 512), (1, .ref 37), (2, .ref a2), (3, .int x3), (4, .int x4)]) 6 dX0_carryByRule_104 rfl rfl (by decide) rfl ?_
        refine g_goto 14 dX0_carryByRule_107 (by decide) ?_
        exact g_ls [2, 3, 4, 5, 6, 0] rfl (h4 q1 q2 q3)
      · exact g_ls [1, 2, 3, 4, 5, 6] rfl (h5 q1 q2 q3)
theorem bX0_carryByRuleS37_48 {X : pX} {Q : Option Value → pMem → Prop} {m : pMem} {a2 : Nat} {x3 : Int32} {x4 : Int32} {x5 : Int32} (hW : Wf m) (c2 : SH[a2]? = some (.inl 6))
    (h1 : vp_in x3 4)
    (h2 : vp_in x5 6)
    (h3 : ¬ mI m 38 x3.toNatClampNeg < 0 ∧ ¬ mI m 31 2 ≤ mI m 38 x3.toNatClampNeg ∧ ¬ (8 : Int32) ≤ mI m 38 x3.toNatClampNeg)
    (h4 : Cl X 1 mX6_sum [.ref a2, .ref 513] (uRow m 513 12 (wds (mI m 34) (mI m 35) (mI m 32) (mI m 33) (mI m 31 2) (mI m 37 0) (mI m 38) (mI m 40) 6 x3.toNatClampNeg x5.toNatClampNeg)) (fun v m2 => Go X 3 mX0_carryByRule Q 64 [(0, .ref 512), (1, .ref 37), (2, .ref a2), (3, .int x3), (4, .int x4), (5, .int x5)] (v.toList ++ []) m2)) :
    Go X 3 mX0_carryByRule Q 48 [(0, .ref 512), (1, .ref 37), (2, .ref a2), (3, .int x3), (4, .int x4), (5, .int x5)] [] m := by
  refine g_aload_n 0 dX0_carryByRule_48 rfl rfl ?_
  refine g_aload_n 1 dX0_carryByRule_49 rfl rfl ?_
  refine g_iload_n 3 dX0_carryByRule_50 rfl rfl ?_
  refine g_iload 5 dX0_carryByRule_51 rfl ?_
  refine g_callV (As := [.ref 37, .int x3, .int x5]) (st := []) dX0_carryByRule_53 clX0_59 sh512 rfl rfl (Nat.le_of_ble_eq_true rfl) (rmSH (by decide) (by decide)) (s_setWordsS37 hW h1 h2 h3 ?_)
  show Go X 3 mX0_carryByRule Q 56 [(0, .ref 512), (1, .ref 37), (2, .ref a2), (3, .int x3), (4, .int x4), (5, .int x5)] [] (uRow m 513 12 (wds (mI m 34) (mI m 35) (mI m 32) (mI m 33) (mI m 31 2) (mI m 37 0) (mI m 38) (mI m 40) 6 x3.toNatClampNeg x5.toNatClampNeg))
  refine g_aload_n 2 dX0_carryByRule_56 rfl rfl ?_
  refine g_aload_n 0 dX0_carryByRule_57 rfl rfl ?_
  refine g_getR dX0_carryByRule_58 fl0_11 rfl sh512 (w0_1 hW sh512) ?_
  exact g_callV (As := [.ref 513]) (st := []) dX0_carryByRule_61 clX0_63 c2 rfl rfl (Nat.le_of_ble_eq_true rfl) (rmSH (by decide) (by decide)) h4
theorem bX0_carryByRuleS37_64 {X : pX} {Q : Option Value → pMem → Prop} {m : pMem} {a2 : Nat} {x3 : Int32} {x4 : Int32} {x5 : Int32} {ys0 : Int64} (hW : Wf m) (c2 : SH[a2]? = some (.inl 6))
    (h1 : 0 < (lg_cmp ys0 (0 : Int64)) → (mI m 31 1) ≤ (nI (cnt (mI m 40) x3 6)) → Go X 3 mX0_carryByRule Q 14 [(0, .ref 512), (1, .ref 37), (2, .ref a2), (3, .int x3), (4, .int x4), (5, .int (x5 + (1 : Int32)))] [] m)
    (h2 : 0 < (lg_cmp ys0 (0 : Int64)) → ¬ ((mI m 31 1) ≤ (nI (cnt (mI m 40) x3 6))) → vp_in x5 6)
    (h3 : 0 < (lg_cmp ys0 (0 : Int64)) → ¬ ((mI m 31 1) ≤ (nI (cnt (mI m 40) x3 6))) → Go X 3 mX0_carryByRule Q 14 [(0, .ref 512), (1, .ref 37), (2, .ref a2), (3, .int x3), (4, .int x4), (5, .int (x5 + (1 : Int32)))] [] (uI m 40 x5.toNatClampNeg x3))
    (h4 : ¬ (0 < (lg_cmp ys0 (0 : Int64))) → vp_in x5 6)
    (h5 : ¬ (0 < (lg_cmp ys0 (0 : Int64))) → Go X 3 mX0_carryByRule Q 14 [(0, .ref 512), (1, .ref 37), (2, .ref a2), (3, .int x3), (4, .int x4), (5, .int (x5 + (1 : Int32)))] [] (uI m 40 x5.toNatClampNeg x4)) :
    Go X 3 mX0_carryByRule Q 64 [(0, .ref 512), (1, .ref 37), (2, .ref a2), (3, .int x3), (4, .int x4), (5, .int x5)] [.long ys0] m := by
  refine g_lconst (v := 0) dX0_carryByRule_64 (by decide) ?_
  refine g_lcmp dX0_carryByRule_65 ?_
  refine g_if_gt 81 dX0_carryByRule_66 (by decide) (fun q1 => ?_) (fun q1 => ?_)
  · refine g_aload_n 1 dX0_carryByRule_81 rfl rfl ?_
    refine g_iload_n 3 dX0_carryByRule_82 rfl rfl ?_
    refine g_callV (As := [.int x3]) (st := []) dX0_carryByRule_83 clX0_67 sh37 rfl rfl (Nat.le_of_ble_eq_true rfl) (rmSH (by decide) (by decide)) (s_manyOf hW sh37 ?_)
    show Go X 3 mX0_carryByRule Q 86 [(0, .ref 512), (1, .ref 37), (2, .ref a2), (3, .int x3), (4, .int x4), (5, .int x5)] [.int (nI (cnt (mI m 40) x3 6))] m
    refine g_aload_n 0 dX0_carryByRule_86 rfl rfl ?_
    refine g_getR dX0_carryByRule_87 fl0_17 rfl sh512 (w0_0 hW sh512) ?_
    refine g_getI dX0_carryByRule_90 fl0_71 sh31 ?_
    refine g_icmp_ge 104 dX0_carryByRule_93 (by decide) (fun q2 => ?_) (fun q2 => ?_)
    · refine g_iinc (v := x5 + (1 : Int32)) (ls2 := [(5, .int (x5 + (1 : Int32))), (0, .ref 512), (1, .ref 37), (2, .ref a2), (3, .int x3), (4, .int x4)]) 5 dX0_carryByRule_104 rfl rfl (by decide) rfl ?_
      refine g_goto 14 dX0_carryByRule_107 (by decide) ?_
      exact g_ls [1, 2, 3, 4, 5, 0] rfl (h1 q1 q2)
    · refine g_aload_n 1 dX0_carryByRule_96 rfl rfl ?_
      refine g_getR dX0_carryByRule_97 fl0_56 rfl sh37 (w8_3 hW sh37) ?_
      refine g_iload 5 dX0_carryByRule_100 rfl ?_
      refine g_iload_n 3 dX0_carryByRule_102 rfl rfl ?_
      refine g_iast (j := x5.toNatClampNeg) dX0_carryByRule_103 (s8_3 sh37) (h2 q1 q2) rfl ?_
      refine g_iinc (v := x5 + (1 : Int32)) (ls2 := [(5, .int (x5 + (1 : Int32))), (0, .ref 512), (1, .ref 37), (2, .ref a2), (3, .int x3), (4, .int x4)]) 5 dX0_carryByRule_104 rfl rfl (by decide) rfl ?_
      refine g_goto 14 dX0_carryByRule_107 (by decide) ?_
      exact g_ls [1, 2, 3, 4, 5, 0] rfl (h3 q1 q2)
  · refine g_aload_n 1 dX0_carryByRule_69 rfl rfl ?_
    refine g_getR dX0_carryByRule_70 fl0_56 rfl sh37 (w8_3 hW sh37) ?_
    refine g_iload 5 dX0_carryByRule_73 rfl ?_
    refine g_iload 4 dX0_carryByRule_75 rfl ?_
    refine g_iast (j := x5.toNatClampNeg) dX0_carryByRule_77 (s8_3 sh37) (h4 q1) rfl ?_
    refine g_goto 104 dX0_carryByRule_78 (by decide) ?_
    refine g_iinc (v := x5 + (1 : Int32)) (ls2 := [(5, .int (x5 + (1 : Int32))), (0, .ref 512), (1, .ref 37), (2, .ref a2), (3, .int x3), (4, .int x4)]) 5 dX0_carryByRule_104 rfl rfl (by decide) rfl ?_
    refine g_goto 14 dX0_carryByRule_107 (by decide) ?_
    exact g_ls [1, 2, 3, 4, 5, 0] rfl (h5 q1)
theorem bX0_carryByRuleS523_0 {X : pX} {Q : Option Value → pMem → Prop} {m : pMem} {a2 : Nat} {x3 : Int32} (hW : Wf m) (c2 : SH[a2]? = some (.inl 6))
    (h1 : vp_in x3 4)
    (h2 : Go X 3 mX0_carryByRule Q 14 [(0, .ref 512), (1, .ref 523), (2, .ref a2), (3, .int x3), (4, .int ((10 : Int32) + (mI m 524 x3.toNatClampNeg))), (5, .int (0 : Int32))] [] m) :
    Go X 3 mX0_carryByRule Q 0 [(0, .ref 512), (1, .ref 523), (2, .ref a2), (3, .int x3)] [] m := by
  refine g_bipush (v := 10) dX0_carryByRule_0 (by decide) ?_
  refine g_aload_n 1 dX0_carryByRule_2 rfl rfl ?_
  refine g_getR dX0_carryByRule_3 fl0_31 rfl sh523 (w8_1 hW sh523) ?_
  refine g_iload_n 3 dX0_carryByRule_6 rfl rfl ?_
  refine g_iald (j := x3.toNatClampNeg) dX0_carryByRule_7 (s8_1 sh523) h1 rfl ?_
  refine g_iadd dX0_carryByRule_8 ?_
  refine g_istore (ls2 := [(4, .int ((10 : Int32) + (mI m 524 x3.toNatClampNeg))), (0, .ref 512), (1, .ref 523), (2, .ref a2), (3, .int x3)]) dX0_carryByRule_9 (by decide) rfl ?_
  refine g_iconst (v := 0) dX0_carryByRule_11 (by decide) ?_
  refine g_istore (ls2 := [(5, .int (0 : Int32)), (4, .int ((10 : Int32) + (mI m 524 x3.toNatClampNeg))), (0, .ref 512), (1, .ref 523), (2, .ref a2), (3, .int x3)]) dX0_carryByRule_12 (by decide) rfl ?_
  exact g_ls [2, 3, 4, 5, 1, 0] rfl h2
theorem bX0_carryByRuleS523_14 {X : pX} {Q : Option Value → pMem → Prop} {m : pMem} {a2 : Nat} {x3 : Int32} {x4 : Int32} {x5 : Int32} (hW : Wf m) (c2 : SH[a2]? = some (.inl 6))
    (h1 : (mI m 31 4) ≤ x5 → Q none m)
    (h2 : ¬ ((mI m 31 4) ≤ x5) → vp_in x5 6)
    (h3 : ¬ ((mI m 31 4) ≤ x5) → (mI m 526 x5.toNatClampNeg) = x3 → Go X 3 mX0_carryByRule Q 48 [(0, .ref 512), (1, .ref 523), (2, .ref a2), (3, .int x3), (4, .int x4), (5, .int x5)] [] m)
    (h4 : ¬ ((mI m 31 4) ≤ x5) → ¬ ((mI m 526 x5.toNatClampNeg) = x3) → ¬ (mI m 526 x5.toNatClampNeg) = x4 → Go X 3 mX0_carryByRule Q 14 [(0, .ref 512), (1, .ref 523), (2, .ref a2), (3, .int x3), (4, .int x4), (5, .int (x5 + (1 : Int32)))] [] m)
    (h5 : ¬ ((mI m 31 4) ≤ x5) → ¬ ((mI m 526 x5.toNatClampNeg) = x3) → (mI m 526 x5.toNatClampNeg) = x4 → Go X 3 mX0_carryByRule Q 48 [(0, .ref 512), (1, .ref 523), (2, .ref a2), (3, .int x3), (4, .int x4), (5, .int x5)] [] m) :
    Go X 3 mX0_carryByRule Q 14 [(0, .ref 512), (1, .ref 523), (2, .ref a2), (3, .int x3), (4, .int x4), (5, .int x5)] [] m := by
  refine g_iload 5 dX0_carryByRule_14 rfl ?_
  refine g_aload_n 0 dX0_carryByRule_16 rfl rfl ?_
  refine g_getR dX0_carryByRule_17 fl0_17 rfl sh512 (w0_0 hW sh512) ?_
  refine g_getI dX0_carryByRule_20 fl0_53 sh31 ?_
  refine g_icmp_ge 110 dX0_carryByRule_23 (by decide) (fun q1 => ?_) (fun q1 => ?_)
  · exact g_vret dX0_carryByRule_110 rfl enSH (h1 q1)
  · refine g_aload_n 1 dX0_carryByRule_26 rfl rfl ?_
    refine g_getR dX0_carryByRule_27 fl0_56 rfl sh523 (w8_3 hW sh523) ?_
    refine g_iload 5 dX0_carryByRule_30 rfl ?_
    refine g_iald (j := x5.toNatClampNeg) dX0_carryByRule_32 (s8_3 sh523) (h2 q1) rfl ?_
    refine g_istore (ls2 := [(6, .int (mI m 526 x5.toNatClampNeg)), (0, .ref 512), (1, .ref 523), (2, .ref a2), (3, .int x3), (4, .int x4), (5, .int x5)]) dX0_carryByRule_33 (by decide) rfl ?_
    refine g_iload 0 dX0_carryByRule_35 rfl ?_
    refine g_iload_n 4 dX0_carryByRule_37 rfl rfl ?_
    refine g_icmp_eq 48 dX0_carryByRule_38 (by decide) (fun q2 => ?_) (fun q2 => ?_)
    · exact g_ls [1, 2, 3, 4, 5, 6] rfl (h3 q1 q2)
    · refine g_iload 0 dX0_carryByRule_41 rfl ?_
      refine g_iload 5 dX0_carryByRule_43 rfl ?_
      refine g_icmp_ne 104 dX0_carryByRule_45 (by decide) (fun q3 => ?_) (fun q3 => ?_)
      · refine g_iinc (v := x5 + (1 : Int32)) (ls2 := [(5, .int (x5 + (1 : Int32))), (6, .int (mI m 526 x5.toNatClampNeg)), (0, .ref 512), (1, .ref 523), (2, .ref a2), (3, .int x3), (4, .int x4)]) 6 dX0_carryByRule_104 rfl rfl (by decide) rfl ?_
        refine g_goto 14 dX0_carryByRule_107 (by decide) ?_
        exact g_ls [2, 3, 4, 5, 6, 0] rfl (h4 q1 q2 q3)
      · exact g_ls [1, 2, 3, 4, 5, 6] rfl (h5 q1 q2 q3)
theorem bX0_carryByRuleS523_48 {X : pX} {Q : Option Value → pMem → Prop} {m : pMem} {a2 : Nat} {x3 : Int32} {x4 : Int32} {x5 : Int32} (hW : Wf m) (c2 : SH[a2]? = some (.inl 6))
    (h1 : vp_in x3 4)
    (h2 : vp_in x5 6)
    (h3 : ¬ mI m 524 x3.toNatClampNeg < 0 ∧ ¬ mI m 31 2 ≤ mI m 524 x3.toNatClampNeg ∧ ¬ (8 : Int32) ≤ mI m 524 x3.toNatClampNeg)
    (h4 : Cl X 1 mX6_sum [.ref a2, .ref 513] (uRow m 513 12 (wds (mI m 34) (mI m 35) (mI m 32) (mI m 33) (mI m 31 2) (mI m 523 0) (mI m 524) (mI m 526) 6 x3.toNatClampNeg x5.toNatClampNeg)) (fun v m2 => Go X 3 mX0_carryByRule Q 64 [(0, .ref 512), (1, .ref 523), (2, .ref a2), (3, .int x3), (4, .int x4), (5, .int x5)] (v.toList ++ []) m2)) :
    Go X 3 mX0_carryByRule Q 48 [(0, .ref 512), (1, .ref 523), (2, .ref a2), (3, .int x3), (4, .int x4), (5, .int x5)] [] m := by
  refine g_aload_n 0 dX0_carryByRule_48 rfl rfl ?_
  refine g_aload_n 1 dX0_carryByRule_49 rfl rfl ?_
  refine g_iload_n 3 dX0_carryByRule_50 rfl rfl ?_
  refine g_iload 5 dX0_carryByRule_51 rfl ?_
  refine g_callV (As := [.ref 523, .int x3, .int x5]) (st := []) dX0_carryByRule_53 clX0_59 sh512 rfl rfl (Nat.le_of_ble_eq_true rfl) (rmSH (by decide) (by decide)) (s_setWordsS523 hW h1 h2 h3 ?_)
  show Go X 3 mX0_carryByRule Q 56 [(0, .ref 512), (1, .ref 523), (2, .ref a2), (3, .int x3), (4, .int x4), (5, .int x5)] [] (uRow m 513 12 (wds (mI m 34) (mI m 35) (mI m 32) (mI m 33) (mI m 31 2) (mI m 523 0) (mI m 524) (mI m 526) 6 x3.toNatClampNeg x5.toNatClampNeg))
  refine g_aload_n 2 dX0_carryByRule_56 rfl rfl ?_
  refine g_aload_n 0 dX0_carryByRule_57 rfl rfl ?_
  refine g_getR dX0_carryByRule_58 fl0_11 rfl sh512 (w0_1 hW sh512) ?_
  exact g_callV (As := [.ref 513]) (st := []) dX0_carryByRule_61 clX0_63 c2 rfl rfl (Nat.le_of_ble_eq_true rfl) (rmSH (by decide) (by decide)) h4
theorem bX0_carryByRuleS523_64 {X : pX} {Q : Option Value → pMem → Prop} {m : pMem} {a2 : Nat} {x3 : Int32} {x4 : Int32} {x5 : Int32} {ys0 : Int64} (hW : Wf m) (c2 : SH[a2]? = some (.inl 6))
    (h1 : 0 < (lg_cmp ys0 (0 : Int64)) → (mI m 31 1) ≤ (nI (cnt (mI m 526) x3 6)) → Go X 3 mX0_carryByRule Q 14 [(0, .ref 512), (1, .ref 523), (2, .ref a2), (3, .int x3), (4, .int x4), (5, .int (x5 + (1 : Int32)))] [] m)
    (h2 : 0 < (lg_cmp ys0 (0 : Int64)) → ¬ ((mI m 31 1) ≤ (nI (cnt (mI m 526) x3 6))) → vp_in x5 6)
    (h3 : 0 < (lg_cmp ys0 (0 : Int64)) → ¬ ((mI m 31 1) ≤ (nI (cnt (mI m 526) x3 6))) → Go X 3 mX0_carryByRule Q 14 [(0, .ref 512), (1, .ref 523), (2, .ref a2), (3, .int x3), (4, .int x4), (5, .int (x5 + (1 : Int32)))] [] (uI m 526 x5.toNatClampNeg x3))
    (h4 : ¬ (0 < (lg_cmp ys0 (0 : Int64))) → vp_in x5 6)
    (h5 : ¬ (0 < (lg_cmp ys0 (0 : Int64))) → Go X 3 mX0_carryByRule Q 14 [(0, .ref 512), (1, .ref 523), (2, .ref a2), (3, .int x3), (4, .int x4), (5, .int (x5 + (1 : Int32)))] [] (uI m 526 x5.toNatClampNeg x4)) :
    Go X 3 mX0_carryByRule Q 64 [(0, .ref 512), (1, .ref 523), (2, .ref a2), (3, .int x3), (4, .int x4), (5, .int x5)] [.long ys0] m := by
  refine g_lconst (v := 0) dX0_carryByRule_64 (by decide) ?_
  refine g_lcmp dX0_carryByRule_65 ?_
  refine g_if_gt 81 dX0_carryByRule_66 (by decide) (fun q1 => ?_) (fun q1 => ?_)
  · refine g_aload_n 1 dX0_carryByRule_81 rfl rfl ?_
    refine g_iload_n 3 dX0_carryByRule_82 rfl rfl ?_
    refine g_callV (As := [.int x3]) (st := []) dX0_carryByRule_83 clX0_67 sh523 rfl rfl (Nat.le_of_ble_eq_true rfl) (rmSH (by decide) (by decide)) (s_manyOf hW sh523 ?_)
    show Go X 3 mX0_carryByRule Q 86 [(0, .ref 512), (1, .ref 523), (2, .ref a2), (3, .int x3), (4, .int x4), (5, .int x5)] [.int (nI (cnt (mI m 526) x3 6))] m
    refine g_aload_n 0 dX0_carryByRule_86 rfl rfl ?_
    refine g_getR dX0_carryByRule_87 fl0_17 rfl sh512 (w0_0 hW sh512) ?_
    refine g_getI dX0_carryByRule_90 fl0_71 sh31 ?_
    refine g_icmp_ge 104 dX0_carryByRule_93 (by decide) (fun q2 => ?_) (fun q2 => ?_)
    · refine g_iinc (v := x5 + (1 : Int32)) (ls2 := [(5, .int (x5 + (1 : Int32))), (0, .ref 512), (1, .ref 523), (2, .ref a2), (3, .int x3), (4, .int x4)]) 5 dX0_carryByRule_104 rfl rfl (by decide) rfl ?_
      refine g_goto 14 dX0_carryByRule_107 (by decide) ?_
      exact g_ls [1, 2, 3, 4, 5, 0] rfl (h1 q1 q2)
    · refine g_aload_n 1 dX0_carryByRule_96 rfl rfl ?_
      refine g_getR dX0_carryByRule_97 fl0_56 rfl sh523 (w8_3 hW sh523) ?_
      refine g_iload 5 dX0_carryByRule_100 rfl ?_
      refine g_iload_n 3 dX0_carryByRule_102 rfl rfl ?_
      refine g_iast (j := x5.toNatClampNeg) dX0_carryByRule_103 (s8_3 sh523) (h2 q1 q2) rfl ?_
      refine g_iinc (v := x5 + (1 : Int32)) (ls2 := [(5, .int (x5 + (1 : Int32))), (0, .ref 512), (1, .ref 523), (2, .ref a2), (3, .int x3), (4, .int x4)]) 5 dX0_carryByRule_104 rfl rfl (by decide) rfl ?_
      refine g_goto 14 dX0_carryByRule_107 (by decide) ?_
      exact g_ls [1, 2, 3, 4, 5, 0] rfl (h3 q1 q2)
  · refine g_aload_n 1 dX0_carryByRule_69 rfl rfl ?_
    refine g_getR dX0_carryByRule_70 fl0_56 rfl sh523 (w8_3 hW sh523) ?_
    refine g_iload 5 dX0_carryByRule_73 rfl ?_
    refine g_iload 4 dX0_carryByRule_75 rfl ?_
    refine g_iast (j := x5.toNatClampNeg) dX0_carryByRule_77 (s8_3 sh523) (h4 q1) rfl ?_
    refine g_goto 104 dX0_carryByRule_78 (by decide) ?_
    refine g_iinc (v := x5 + (1 : Int32)) (ls2 := [(5, .int (x5 + (1 : Int32))), (0, .ref 512), (1, .ref 523), (2, .ref a2), (3, .int x3), (4, .int x4)]) 5 dX0_carryByRule_104 rfl rfl (by decide) rfl ?_
    refine g_goto 14 dX0_carryByRule_107 (by decide) ?_
    exact g_ls [1, 2, 3, 4, 5, 0] rfl (h5 q1)
