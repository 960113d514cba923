theorem bX12_goes_0 {X : pX} {Q : Option Value → pMem → Prop} {m : pMem} {a0 : Nat} (hW : Wf m) (c0 : SH[a0]? = some (.inl 12))
    (h1 : Go X 6 mX12_goes Q 4 [(0, .ref a0), (1, .int (0 : Int32)), (2, .int (0 : Int32))] [] m) :
    Go X 6 mX12_goes Q 0 [(0, .ref a0)] [] m := by
  refine g_iconst (v := 0) dX12_goes_0 (by decide) ?_
  refine g_istore_n (ls2 := [(1, .int (0 : Int32)), (0, .ref a0)]) dX12_goes_1 rfl (by decide) rfl ?_
  refine g_iconst (v := 0) dX12_goes_2 (by decide) ?_
  refine g_istore_n (ls2 := [(2, .int (0 : Int32)), (1, .int (0 : Int32)), (0, .ref a0)]) dX12_goes_3 rfl (by decide) rfl ?_
  exact g_ls [2, 1, 0] rfl h1
theorem bX12_goes_4 {X : pX} {Q : Option Value → pMem → Prop} {m : pMem} {a0 : Nat} {x1 : Int32} {x2 : Int32} (hW : Wf m) (c0 : SH[a0]? = some (.inl 12))
    (h1 : (mI m (a0 + 1) 3) ≤ x2 → Q (some (.int x1)) (uI m (a0 + 1) 5 ((mI m (a0 + 1) 5) + (1 : Int32))))
    (h2 : ¬ ((mI m (a0 + 1) 3) ≤ x2) → vp_in x2 4)
    (h3 : ¬ ((mI m (a0 + 1) 3) ≤ x2) → Cl X 0 mX12_town [.ref a0] m (fun v m2 => Go X 6 mX12_goes Q 24 [(0, .ref a0), (1, .int x1), (2, .int x2)] (v.toList ++ [.int (mI m (a0 + 2) x2.toNatClampNeg)]) m2)) :
    Go X 6 mX12_goes Q 4 [(0, .ref a0), (1, .int x1), (2, .int x2)] [] m := by
  refine g_iload_n 2 dX12_goes_4 rfl rfl ?_
  refine g_aload_n 0 dX12_goes_5 rfl rfl ?_
  refine g_getR dX12_goes_6 fl12_9 rfl c0 (w12_1 hW c0) ?_
  refine g_iconst (v := 3) dX12_goes_9 (by decide) ?_
  refine g_iald (j := 3) dX12_goes_10 (s12_1 c0) (by unfold vp_in; decide) (by decide) ?_
  refine g_icmp_ge 126 dX12_goes_11 (by decide) (fun q1 => ?_) (fun q1 => ?_)
  · refine g_aload_n 0 dX12_goes_126 rfl rfl ?_
    refine g_getR dX12_goes_127 fl12_9 rfl c0 (w12_1 hW c0) ?_
    refine g_iconst (v := 5) dX12_goes_130 (by decide) ?_
    refine g_dup2 dX12_goes_131 rfl rfl ?_
    refine g_iald (j := 5) dX12_goes_132 (s12_1 c0) (by unfold vp_in; decide) (by decide) ?_
    refine g_iconst (v := 1) dX12_goes_133 (by decide) ?_
    refine g_iadd dX12_goes_134 ?_
    refine g_iast (j := 5) dX12_goes_135 (s12_1 c0) (by unfold vp_in; decide) (by decide) ?_
    refine g_iload_n 1 dX12_goes_136 rfl rfl ?_
    exact g_iret dX12_goes_137 rfl enSH (h1 q1)
  · refine g_aload_n 0 dX12_goes_14 rfl rfl ?_
    refine g_getR dX12_goes_15 fl12_13 rfl c0 (w12_2 hW c0) ?_
    refine g_iload_n 2 dX12_goes_18 rfl rfl ?_
    refine g_iald (j := x2.toNatClampNeg) dX12_goes_19 (s12_2 c0) (h2 q1) rfl ?_
    refine g_aload_n 0 dX12_goes_20 rfl rfl ?_
    exact g_callV (As := []) (st := [.int (mI m (a0 + 2) x2.toNatClampNeg)]) dX12_goes_21 clX12_352 c0 rfl rfl (Nat.le_of_ble_eq_true rfl) (rmSH (by decide) (by decide)) (h3 q1)
theorem bX12_goes_24 {X : pX} {Q : Option Value → pMem → Prop} {m : pMem} {a0 : Nat} {x1 : Int32} {x2 : Int32} {xs0 : Int32} {xs1 : Int32} (hW : Wf m) (c0 : SH[a0]? = some (.inl 12))
    (h1 : xs0 ≤ xs1 → Go X 6 mX12_goes Q 4 [(0, .ref a0), (1, .int x1), (2, .int (x2 + (1 : Int32)))] [] m)
    (h2 : ¬ (xs0 ≤ xs1) → vp_in x2 4)
    (h3 : ¬ (xs0 ≤ xs1) → ¬ (mI m (a0 + 3) x2.toNatClampNeg) = 0 → Go X 6 mX12_goes Q 52 [(0, .ref a0), (1, .int x1), (2, .int x2)] [] m)
    (h4 : ¬ (xs0 ≤ xs1) → (mI m (a0 + 3) x2.toNatClampNeg) = 0 → (mI m (a0 + 1) 8) = (-1 : Int32) → Go X 6 mX12_goes Q 52 [(0, .ref a0), (1, .int x1), (2, .int x2)] [] m)
    (h5 : ¬ (xs0 ≤ xs1) → (mI m (a0 + 3) x2.toNatClampNeg) = 0 → ¬ ((mI m (a0 + 1) 8) = (-1 : Int32)) → Cl X 5 mX12_packs [.ref a0, .int x2] m (fun v m2 => Go X 6 mX12_goes Q 52 [(0, .ref a0), (1, .int x1), (2, .int x2)] (v.toList ++ []) m2)) :
    Go X 6 mX12_goes Q 24 [(0, .ref a0), (1, .int x1), (2, .int x2)] [.int xs0, .int xs1] m := by
  refine g_icmp_ge 120 dX12_goes_24 (by decide) (fun q1 => ?_) (fun q1 => ?_)
  · refine g_iinc (v := x2 + (1 : Int32)) (ls2 := [(2, .int (x2 + (1 : Int32))), (0, .ref a0), (1, .int x1)]) 2 dX12_goes_120 rfl rfl (by decide) rfl ?_
    refine g_goto 4 dX12_goes_123 (by decide) ?_
    exact g_ls [1, 2, 0] rfl (h1 q1)
  · refine g_aload_n 0 dX12_goes_27 rfl rfl ?_
    refine g_getR dX12_goes_28 fl12_16 rfl c0 (w12_3 hW c0) ?_
    refine g_iload_n 2 dX12_goes_31 rfl rfl ?_
    refine g_iald (j := x2.toNatClampNeg) dX12_goes_32 (s12_3 c0) (h2 q1) rfl ?_
    refine g_if_ne 52 dX12_goes_33 (by decide) (fun q2 => ?_) (fun q2 => ?_)
    · exact g_ls [0, 1, 2] rfl (h3 q1 q2)
    · refine g_aload_n 0 dX12_goes_36 rfl rfl ?_
      refine g_getR dX12_goes_37 fl12_9 rfl c0 (w12_1 hW c0) ?_
      refine g_bipush (v := 8) dX12_goes_40 (by decide) ?_
      refine g_iald (j := 8) dX12_goes_42 (s12_1 c0) (by unfold vp_in; decide) (by decide) ?_
      refine g_iconst (v := -1) dX12_goes_43 (by decide) ?_
      refine g_icmp_eq 52 dX12_goes_44 (by decide) (fun q3 => ?_) (fun q3 => ?_)
      · exact g_ls [0, 1, 2] rfl (h4 q1 q2 q3)
      · refine g_aload_n 0 dX12_goes_47 rfl rfl ?_
        refine g_iload_n 2 dX12_goes_48 rfl rfl ?_
        exact g_callV (As := [.int x2]) (st := []) dX12_goes_49 clX12_365 c0 rfl rfl (Nat.le_of_ble_eq_true rfl) (rmSH (by decide) (by decide)) (h5 q1 q2 q3)
theorem bX12_goes_52 {X : pX} {Q : Option Value → pMem → Prop} {m : pMem} {a0 : Nat} {x1 : Int32} {x2 : Int32} (hW : Wf m) (c0 : SH[a0]? = some (.inl 12))
    (h1 : vp_in x2 4)
    (h2 : vp_in x2 4)
    (h3 : vp_in x2 4)
    (h4 : vp_in x2 4)
    (h5 : vp_in x2 4)
    (h6 : vp_in (mI (uI m (a0 + 3) x2.toNatClampNeg ((mI m (a0 + 3) x2.toNatClampNeg) + (mI m (a0 + 6) x2.toNatClampNeg))) (a0 + 2) x2.toNatClampNeg) 8)
    (h7 : Cl X 0 mX12_thingsOf [.ref a0, .int x2] (uI m (a0 + 3) x2.toNatClampNeg ((mI m (a0 + 3) x2.toNatClampNeg) + (mI m (a0 + 6) x2.toNatClampNeg))) (fun v m2 => Go X 6 mX12_goes Q 90 [(0, .ref a0), (1, .int x1), (2, .int x2)] (v.toList ++ [.ref a0, .int (mI (uI m (a0 + 3) x2.toNatClampNeg ((mI m (a0 + 3) x2.toNatClampNeg) + (mI m (a0 + 6) x2.toNatClampNeg))) (a0 + 5) ((mI (uI m (a0 + 3) x2.toNatClampNeg ((mI m (a0 + 3) x2.toNatClampNeg) + (mI m (a0 + 6) x2.toNatClampNeg))) (a0 + 2) x2.toNatClampNeg).toNatClampNeg)), .int (mI (uI m (a0 + 3) x2.toNatClampNeg ((mI m (a0 + 3) x2.toNatClampNeg) + (mI m (a0 + 6) x2.toNatClampNeg))) (a0 + 3) x2.toNatClampNeg)]) m2)) :
    Go X 6 mX12_goes Q 52 [(0, .ref a0), (1, .int x1), (2, .int x2)] [] m := by
  refine g_aload_n 0 dX12_goes_52 rfl rfl ?_
  refine g_getR dX12_goes_53 fl12_16 rfl c0 (w12_3 hW c0) ?_
  refine g_iload_n 2 dX12_goes_56 rfl rfl ?_
  refine g_dup2 dX12_goes_57 rfl rfl ?_
  refine g_iald (j := x2.toNatClampNeg) dX12_goes_58 (s12_3 c0) h1 rfl ?_
  refine g_aload_n 0 dX12_goes_59 rfl rfl ?_
  refine g_getR dX12_goes_60 fl12_25 rfl c0 (w12_6 hW c0) ?_
  refine g_iload_n 2 dX12_goes_63 rfl rfl ?_
  refine g_iald (j := x2.toNatClampNeg) dX12_goes_64 (s12_6 c0) h2 rfl ?_
  refine g_iadd dX12_goes_65 ?_
  refine g_iast (j := x2.toNatClampNeg) dX12_goes_66 (s12_3 c0) h3 rfl ?_
  refine g_aload_n 0 dX12_goes_67 rfl rfl ?_
  refine g_getR dX12_goes_68 fl12_16 rfl c0 (w12_3 hW c0) ?_
  refine g_iload_n 2 dX12_goes_71 rfl rfl ?_
  refine g_iald (j := x2.toNatClampNeg) dX12_goes_72 (s12_3 c0) h4 rfl ?_
  refine g_aload_n 0 dX12_goes_73 rfl rfl ?_
  refine g_getR dX12_goes_74 fl12_22 rfl c0 (w12_5 hW c0) ?_
  refine g_aload_n 0 dX12_goes_77 rfl rfl ?_
  refine g_getR dX12_goes_78 fl12_13 rfl c0 (w12_2 hW c0) ?_
  refine g_iload_n 2 dX12_goes_81 rfl rfl ?_
  refine g_iald (j := x2.toNatClampNeg) dX12_goes_82 (s12_2 c0) h5 rfl ?_
  refine g_iald (j := (mI (uI m (a0 + 3) x2.toNatClampNeg ((mI m (a0 + 3) x2.toNatClampNeg) + (mI m (a0 + 6) x2.toNatClampNeg))) (a0 + 2) x2.toNatClampNeg).toNatClampNeg) dX12_goes_83 (s12_5 c0) h6 rfl ?_
  refine g_aload_n 0 dX12_goes_84 rfl rfl ?_
  refine g_aload_n 0 dX12_goes_85 rfl rfl ?_
  refine g_iload_n 2 dX12_goes_86 rfl rfl ?_
  exact g_callV (As := [.int x2]) (st := [.ref a0, .int (mI (uI m (a0 + 3) x2.toNatClampNeg ((mI m (a0 + 3) x2.toNatClampNeg) + (mI m (a0 + 6) x2.toNatClampNeg))) (a0 + 5) ((mI (uI m (a0 + 3) x2.toNatClampNeg ((mI m (a0 + 3) x2.toNatClampNeg) + (mI m (a0 + 6) x2.toNatClampNeg))) (a0 + 2) x2.toNatClampNeg).toNatClampNeg)), .int (mI (uI m (a0 + 3) x2.toNatClampNeg ((mI m (a0 + 3) x2.toNatClampNeg) + (mI m (a0 + 6) x2.toNatClampNeg))) (a0 + 3) x2.toNatClampNeg)]) dX12_goes_87 clX12_338 c0 rfl rfl (Nat.le_of_ble_eq_true rfl) (rmSH (by decide) (by decide)) h7
theorem bX12_goes_90 {X : pX} {Q : Option Value → pMem → Prop} {m : pMem} {a0 : Nat} {x1 : Int32} {x2 : Int32} {xs0 : Int32} {as1 : Nat} {xs2 : Int32} {xs3 : Int32} (hW : Wf m) (c0 : SH[a0]? = some (.inl 12)) (cs1 : SH[as1]? = some (.inl 12))
    (h1 : Cl X 1 mX12_weightOf [.ref as1, .int xs0] m (fun v m2 => Go X 6 mX12_goes Q 93 [(0, .ref a0), (1, .int x1), (2, .int x2)] (v.toList ++ [.int xs2, .int xs3]) m2)) :
    Go X 6 mX12_goes Q 90 [(0, .ref a0), (1, .int x1), (2, .int x2)] [.int xs0, .ref as1, .int xs2, .int xs3] m := by
  exact g_callV (As := [.int xs0]) (st := [.int xs2, .int xs3]) dX12_goes_90 clX12_341 cs1 rfl rfl (Nat.le_of_ble_eq_true rfl) (rmSH (by decide) (by decide)) h1
theorem bX12_goes_93 {X : pX} {Q : Option Value → pMem → Prop} {m : pMem} {a0 : Nat} {x1 : Int32} {x2 : Int32} {xs0 : Int32} {xs1 : Int32} {xs2 : Int32} (hW : Wf m) (c0 : SH[a0]? = some (.inl 12))
    (h1 : xs2 < (xs1 + xs0) → Go X 6 mX12_goes Q 4 [(0, .ref a0), (1, .int x1), (2, .int (x2 + (1 : Int32)))] [] m)
    (h2 : ¬ (xs2 < (xs1 + xs0)) → vp_in x2 4)
    (h3 : ¬ (xs2 < (xs1 + xs0)) → vp_in x2 4)
    (h4 : ¬ (xs2 < (xs1 + xs0)) → vp_in x2 4)
    (h5 : ¬ (xs2 < (xs1 + xs0)) → Go X 6 mX12_goes Q 4 [(0, .ref a0), (1, .int (x1 ||| ((1 : Int32) <<< (x2 &&& 31)))), (2, .int (x2 + (1 : Int32)))] [] (uI (uI m (a0 + 2) x2.toNatClampNeg ((mI m (a0 + 2) x2.toNatClampNeg) + (1 : Int32))) (a0 + 3) x2.toNatClampNeg (0 : Int32))) :
    Go X 6 mX12_goes Q 93 [(0, .ref a0), (1, .int x1), (2, .int x2)] [.int xs0, .int xs1, .int xs2] m := by
  refine g_iadd dX12_goes_93 ?_
  refine g_icmp_lt 120 dX12_goes_94 (by decide) (fun q1 => ?_) (fun q1 => ?_)
  · refine g_iinc (v := x2 + (1 : Int32)) (ls2 := [(2, .int (x2 + (1 : Int32))), (0, .ref a0), (1, .int x1)]) 2 dX12_goes_120 rfl rfl (by decide) rfl ?_
    refine g_goto 4 dX12_goes_123 (by decide) ?_
    exact g_ls [1, 2, 0] rfl (h1 q1)
  · refine g_aload_n 0 dX12_goes_97 rfl rfl ?_
    refine g_getR dX12_goes_98 fl12_13 rfl c0 (w12_2 hW c0) ?_
    refine g_iload_n 2 dX12_goes_101 rfl rfl ?_
    refine g_dup2 dX12_goes_102 rfl rfl ?_
    refine g_iald (j := x2.toNatClampNeg) dX12_goes_103 (s12_2 c0) (h2 q1) rfl ?_
    refine g_iconst (v := 1) dX12_goes_104 (by decide) ?_
    refine g_iadd dX12_goes_105 ?_
    refine g_iast (j := x2.toNatClampNeg) dX12_goes_106 (s12_2 c0) (h3 q1) rfl ?_
    refine g_aload_n 0 dX12_goes_107 rfl rfl ?_
    refine g_getR dX12_goes_108 fl12_16 rfl c0 (w12_3 hW c0) ?_
    refine g_iload_n 2 dX12_goes_111 rfl rfl ?_
    refine g_iconst (v := 0) dX12_goes_112 (by decide) ?_
    refine g_iast (j := x2.toNatClampNeg) dX12_goes_113 (s12_3 c0) (h4 q1) rfl ?_
    refine g_iload_n 1 dX12_goes_114 rfl rfl ?_
    refine g_iconst (v := 1) dX12_goes_115 (by decide) ?_
    refine g_iload_n 2 dX12_goes_116 rfl rfl ?_
    refine g_ishl dX12_goes_117 ?_
    refine g_ior dX12_goes_118 ?_
    refine g_istore_n (ls2 := [(1, .int (x1 ||| ((1 : Int32) <<< (x2 &&& 31)))), (0, .ref a0), (2, .int x2)]) dX12_goes_119 rfl (by decide) rfl ?_
    refine g_iinc (v := x2 + (1 : Int32)) (ls2 := [(2, .int (x2 + (1 : Int32))), (1, .int (x1 ||| ((1 : Int32) <<< (x2 &&& 31)))), (0, .ref a0)]) 2 dX12_goes_120 rfl rfl (by decide) rfl ?_
    refine g_goto 4 dX12_goes_123 (by decide) ?_
    exact g_ls [2, 1, 0] rfl (h5 q1)
theorem bX12_goFor_0 {X : pX} {Q : Option Value → pMem → Prop} {m : pMem} {a0 : Nat} {x1 : Int32} (hW : Wf m) (c0 : SH[a0]? = some (.inl 12))
    (h1 : Go X 7 mX12_goFor Q 2 [(0, .ref a0), (1, .int x1), (2, .int (0 : Int32))] [] m) :
    Go X 7 mX12_goFor Q 0 [(0, .ref a0), (1, .int x1)] [] m := by
  refine g_iconst (v := 0) dX12_goFor_0 (by decide) ?_
  refine g_istore_n (ls2 := [(2, .int (0 : Int32)), (0, .ref a0), (1, .int x1)]) dX12_goFor_1 rfl (by decide) rfl ?_
  exact g_ls [1, 2, 0] rfl h1
theorem bX12_goFor_2 {X : pX} {Q : Option Value → pMem → Prop} {m : pMem} {a0 : Nat} {x1 : Int32} {x2 : Int32} (hW : Wf m) (c0 : SH[a0]? = some (.inl 12))
    (h1 : x1 ≤ x2 → Q none m)
    (h2 : ¬ (x1 ≤ x2) → Cl X 6 mX12_goes [.ref a0] m (fun v m2 => Go X 7 mX12_goFor Q 11 [(0, .ref a0), (1, .int x1), (2, .int x2)] (v.toList ++ []) m2)) :
    Go X 7 mX12_goFor Q 2 [(0, .ref a0), (1, .int x1), (2, .int x2)] [] m := by
  refine g_iload_n 2 dX12_goFor_2 rfl rfl ?_
  refine g_iload_n 1 dX12_goFor_3 rfl rfl ?_
  refine g_icmp_ge 18 dX12_goFor_4 (by decide) (fun q1 => ?_) (fun q1 => ?_)
  · exact g_vret dX12_goFor_18 rfl enSH (h1 q1)
  · refine g_aload_n 0 dX12_goFor_7 rfl rfl ?_
    exact g_callV (As := []) (st := []) dX12_goFor_8 clX12_368 c0 rfl rfl (Nat.le_of_ble_eq_true rfl) (rmSH (by decide) (by decide)) (h2 q1)
theorem bX12_goFor_11 {X : pX} {Q : Option Value → pMem → Prop} {m : pMem} {a0 : Nat} {x1 : Int32} {x2 : Int32} {xs0 : Int32} (hW : Wf m) (c0 : SH[a0]? = some (.inl 12))
    (h1 : Go X 7 mX12_goFor Q 2 [(0, .ref a0), (1, .int x1), (2, .int (x2 + (1 : Int32)))] [] m) :
    Go X 7 mX12_goFor Q 11 [(0, .ref a0), (1, .int x1), (2, .int x2)] [.int xs0] m := by
  refine g_pop dX12_goFor_11 rfl ?_
  refine g_iinc (v := x2 + (1 : Int32)) (ls2 := [(2, .int (x2 + (1 : Int32))), (0, .ref a0), (1, .int x1)]) 2 dX12_goFor_12 rfl rfl (by decide) rfl ?_
  refine g_goto 2 dX12_goFor_15 (by decide) ?_
  exact g_ls [1, 2, 0] rfl h1
theorem bX12_moves_0 {X : pX} {Q : Option Value → pMem → Prop} {m : pMem} {a0 : Nat} {x1 : Int32} (hW : Wf m) (c0 : SH[a0]? = some (.inl 12))
    (h1 : (mI m a0 43) = 0 → Go X 0 mX12_moves Q 20 [(0, .ref a0)] [.int x1] m)
    (h2 : ¬ ((mI m a0 43) = 0) → vp_in (mI m a0 42) 300)
    (h3 : ¬ ((mI m a0 43) = 0) → Go X 0 mX12_moves Q 20 [(0, .ref a0)] [.int (mI m (a0 + 29) ((mI m a0 42).toNatClampNeg))] m) :
    Go X 0 mX12_moves Q 0 [(0, .ref a0), (1, .int x1)] [] m := by
  refine g_aload_n 0 dX12_moves_0 rfl rfl ?_
  refine g_getZ dX12_moves_1 fl12_371 c0 ?_
  refine g_if_eq 19 dX12_moves_4 (by decide) (fun q1 => ?_) (fun q1 => ?_)
  · refine g_iload_n 1 dX12_moves_19 rfl rfl ?_
    exact g_ls [0] rfl (h1 q1)
  · refine g_aload_n 0 dX12_moves_7 rfl rfl ?_
    refine g_getR dX12_moves_8 fl12_100 rfl c0 (w12_39 hW c0) ?_
    refine g_aload_n 0 dX12_moves_11 rfl rfl ?_
    refine g_getI dX12_moves_12 fl12_375 c0 ?_
    refine g_iald (j := (mI m a0 42).toNatClampNeg) dX12_moves_15 (s12_39 c0) (h2 q1) rfl ?_
    refine g_goto 20 dX12_moves_16 (by decide) ?_
    exact g_ls [0] rfl (h3 q1)
theorem bX12_moves_20 {X : pX} {Q : Option Value → pMem → Prop} {m : pMem} {a0 : Nat} {xs0 : Int32} (hW : Wf m) (c0 : SH[a0]? = some (.inl 12))
    (h1 : vp_in (mI m a0 42) 300)
    (h2 : Q (some (.int xs0)) (uI (uI m (a0 + 29) ((mI m a0 42).toNatClampNeg) xs0) a0 42 ((mI (uI m (a0 + 29) ((mI m a0 42).toNatClampNeg) xs0) a0 42) + (1 : Int32)))) :
    Go X 0 mX12_moves Q 20 [(0, .ref a0)] [.int xs0] m := by
  refine g_istore_n (ls2 := [(2, .int xs0), (0, .ref a0)]) dX12_moves_20 rfl (by decide) rfl ?_
  refine g_aload_n 1 dX12_moves_21 rfl rfl ?_
  refine g_getR dX12_moves_22 fl12_100 rfl c0 (w12_39 hW c0) ?_
  refine g_aload_n 1 dX12_moves_25 rfl rfl ?_
  refine g_getI dX12_moves_26 fl12_375 c0 ?_
  refine g_iload_n 0 dX12_moves_29 rfl rfl ?_
  refine g_iast (j := (mI m a0 42).toNatClampNeg) dX12_moves_30 (s12_39 c0) h1 rfl ?_
  refine g_aload_n 1 dX12_moves_31 rfl rfl ?_
  refine g_dup dX12_moves_32 rfl ?_
  refine g_getI dX12_moves_33 fl12_375 c0 ?_
  refine g_iconst (v := 1) dX12_moves_36 (by decide) ?_
  refine g_iadd dX12_moves_37 ?_
  refine g_putI dX12_moves_38 fl12_375 (fun h => by cases h) c0 ?_
  refine g_iload_n 0 dX12_moves_41 rfl rfl ?_
  exact g_iret dX12_moves_42 rfl enSH h2
theorem bX12_movesRow_0 {X : pX} {Q : Option Value → pMem → Prop} {m : pMem} {a0 : Nat} {a1 n1 : Nat} (hW : Wf m) (c0 : SH[a0]? = some (.inl 12)) (c1 : SH[a1]? = some (.inr (.int, n1)))
    (h1 : Go X 1 mX12_movesRow Q 2 [(0, .ref a0), (1, .ref a1), (2, .int (0 : Int32))] [] m) :
    Go X 1 mX12_movesRow Q 0 [(0, .ref a0), (1, .ref a1)] [] m := by
  refine g_iconst (v := 0) dX12_movesRow_0 (by decide) ?_
  refine g_istore_n (ls2 := [(2, .int (0 : Int32)), (0, .ref a0), (1, .ref a1)]) dX12_movesRow_1 rfl (by decide) rfl ?_
  exact g_ls [1, 2, 0] rfl h1
theorem bX12_movesRow_2 {X : pX} {Q : Option Value → pMem → Prop} {m : pMem} {a0 : Nat} {a1 n1 : Nat} {x2 : Int32} (hW : Wf m) (c0 : SH[a0]? = some (.inl 12)) (c1 : SH[a1]? = some (.inr (.int, n1)))
    (h1 : (Int32.ofNat n1) ≤ x2 → Q none m)
    (h2 : ¬ ((Int32.ofNat n1) ≤ x2) → vp_in x2 n1)
    (h3 : ¬ ((Int32.ofNat n1) ≤ x2) → Cl X 0 mX12_moves [.ref a0, .int (mI m a1 x2.toNatClampNeg)] m (fun v m2 => Go X 1 mX12_movesRow Q 17 [(0, .ref a0), (1, .ref a1), (2, .int x2)] (v.toList ++ [.int x2, .ref a1]) m2)) :
    Go X 1 mX12_movesRow Q 2 [(0, .ref a0), (1, .ref a1), (2, .int x2)] [] m := by
  refine g_iload_n 2 dX12_movesRow_2 rfl rfl ?_
  refine g_aload_n 1 dX12_movesRow_3 rfl rfl ?_
  refine g_alen (v := Int32.ofNat n1) dX12_movesRow_4 c1 (by decide) (by first | rfl | decide) ?_
  refine g_icmp_ge 24 dX12_movesRow_5 (by decide) (fun q1 => ?_) (fun q1 => ?_)
  · exact g_vret dX12_movesRow_24 rfl enSH (h1 q1)
  · refine g_aload_n 1 dX12_movesRow_8 rfl rfl ?_
    refine g_iload_n 2 dX12_movesRow_9 rfl rfl ?_
    refine g_aload_n 0 dX12_movesRow_10 rfl rfl ?_
    refine g_aload_n 1 dX12_movesRow_11 rfl rfl ?_
    refine g_iload_n 2 dX12_movesRow_12 rfl rfl ?_
    refine g_iald (j := x2.toNatClampNeg) dX12_movesRow_13 c1 (h2 q1) rfl ?_
    exact g_callV (As := [.int (mI m a1 x2.toNatClampNeg)]) (st := [.int x2, .ref a1]) dX12_movesRow_14 clX12_378 c0 rfl rfl (Nat.le_of_ble_eq_true rfl) (rmSH (by decide) (by decide)) (h3 q1)
theorem bX12_movesRow_17 {X : pX} {Q : Option Value → pMem → Prop} {m : pMem} {a0 : Nat} {a1 n1 : Nat} {x2 : Int32} {xs0 : Int32} {xs1 : Int32} {as2 ns2 : Nat} (hW : Wf m) (c0 : SH[a0]? = some (.inl 12)) (c1 : SH[a1]? = some (.inr (.int, n1))) (cs2 : SH[as2]? = some (.inr (.int, ns2)))
    (h1 : vp_in xs1 ns2)
    (h2 : Go X 1 mX12_movesRow Q 2 [(0, .ref a0), (1, .ref a1), (2, .int (x2 + (1 : Int32)))] [] (uI m as2 xs1.toNatClampNeg xs0)) :
    Go X 1 mX12_movesRow Q 17 [(0, .ref a0), (1, .ref a1), (2, .int x2)] [.int xs0, .int xs1, .ref as2] m := by
  refine g_iast (j := xs1.toNatClampNeg) dX12_movesRow_17 cs2 h1 rfl ?_
  refine g_iinc (v := x2 + (1 : Int32)) (ls2 := [(2, .int (x2 + (1 : Int32))), (0, .ref a0), (1, .ref a1)]) 2 dX12_movesRow_18 rfl rfl (by decide) rfl ?_
  refine g_goto 2 dX12_movesRow_21 (by decide) ?_
  exact g_ls [1, 2, 0] rfl h2
theorem bX12_movesAll_0 {X : pX} {Q : Option Value → pMem → Prop} {m : pMem} {a0 : Nat} {x1 : Int32} {x2 : Int32} (hW : Wf m) (c0 : SH[a0]? = some (.inl 12))
    (h1 : x2 = 0 ∨ x2 = 1)
    (h2 : Cl X 0 mX12_moves [.ref a0, .int (mI (uI (uI m a0 42 ((15 : Int32) * x1)) a0 43 x2) (a0 + 1) 5)] (uI (uI m a0 42 ((15 : Int32) * x1)) a0 43 x2) (fun v m2 => Go X 2 mX12_movesAll Q 28 [(0, .ref a0), (1, .int x1), (2, .int x2)] (v.toList ++ [.int (5 : Int32), .ref (a0 + 1)]) m2)) :
    Go X 2 mX12_movesAll Q 0 [(0, .ref a0), (1, .int x1), (2, .int x2)] [] m := by
  refine g_aload_n 0 dX12_movesAll_0 rfl rfl ?_
  refine g_bipush (v := 15) dX12_movesAll_1 (by decide) ?_
  refine g_iload_n 1 dX12_movesAll_3 rfl rfl ?_
  refine g_imul dX12_movesAll_4 ?_
  refine g_putI dX12_movesAll_5 fl12_375 (fun h => by cases h) c0 ?_
  refine g_aload_n 0 dX12_movesAll_8 rfl rfl ?_
  refine g_iload_n 2 dX12_movesAll_9 rfl rfl ?_
  refine g_putZ dX12_movesAll_10 fl12_371 (fun h => by cases h) c0 h1 ?_
  refine g_aload_n 0 dX12_movesAll_13 rfl rfl ?_
  refine g_getR dX12_movesAll_14 fl12_9 rfl c0 (w12_1 hW c0) ?_
  refine g_iconst (v := 5) dX12_movesAll_17 (by decide) ?_
  refine g_aload_n 0 dX12_movesAll_18 rfl rfl ?_
  refine g_aload_n 0 dX12_movesAll_19 rfl rfl ?_
  refine g_getR dX12_movesAll_20 fl12_9 rfl c0 (w12_1 hW c0) ?_
  refine g_iconst (v := 5) dX12_movesAll_23 (by decide) ?_
  refine g_iald (j := 5) dX12_movesAll_24 (s12_1 c0) (by unfold vp_in; decide) (by decide) ?_
  exact g_callV (As := [.int (mI (uI (uI m a0 42 ((15 : Int32) * x1)) a0 43 x2) (a0 + 1) 5)]) (st := [.int (5 : Int32), .ref (a0 + 1)]) dX12_movesAll_25 clX12_378 c0 rfl rfl (Nat.le_of_ble_eq_true rfl) (rmSH (by decide) (by decide)) h2
theorem bX12_movesAll_28 {X : pX} {Q : Option Value → pMem → Prop} {m : pMem} {a0 : Nat} {x1 : Int32} {x2 : Int32} {xs0 : Int32} {as2 : Nat} (hW : Wf m) (c0 : SH[a0]? = some (.inl 12)) (cs2 : SH[as2]? = some (.inr (.int, 9)))
    (h1 : Cl X 1 mX12_movesRow [.ref a0, .ref (a0 + 2)] (uI m as2 5 xs0) (fun v m2 => Go X 2 mX12_movesAll Q 37 [(0, .ref a0), (1, .int x1), (2, .int x2)] (v.toList ++ []) m2)) :
    Go X 2 mX12_movesAll Q 28 [(0, .ref a0), (1, .int x1), (2, .int x2)] [.int xs0, .int (5 : Int32), .ref as2] m := by
  refine g_iast (j := 5) dX12_movesAll_28 cs2 (by unfold vp_in; decide) (by decide) ?_
  refine g_aload_n 0 dX12_movesAll_29 rfl rfl ?_
  refine g_aload_n 0 dX12_movesAll_30 rfl rfl ?_
  refine g_getR dX12_movesAll_31 fl12_13 rfl c0 (w12_2 hW c0) ?_
  exact g_callV (As := [.ref (a0 + 2)]) (st := []) dX12_movesAll_34 clX12_381 c0 rfl rfl (Nat.le_of_ble_eq_true rfl) (rmSH (by decide) (by decide)) h1
theorem bX12_movesAll_37 {X : pX} {Q : Option Value → pMem → Prop} {m : pMem} {a0 : Nat} {x1 : Int32} {x2 : Int32} (hW : Wf m) (c0 : SH[a0]? = some (.inl 12))
    (h1 : Cl X 1 mX12_movesRow [.ref a0, .ref (a0 + 3)] m (fun v m2 => Go X 2 mX12_movesAll Q 45 [(0, .ref a0), (1, .int x1), (2, .int x2)] (v.toList ++ []) m2)) :
    Go X 2 mX12_movesAll Q 37 [(0, .ref a0), (1, .int x1), (2, .int x2)] [] m := by
  refine g_aload_n 0 dX12_movesAll_37 rfl rfl ?_
  refine g_aload_n 0 dX12_movesAll_38 rfl rfl ?_
  refine g_getR dX12_movesAll_39 fl12_16 rfl c0 (w12_3 hW c0) ?_
  exact g_callV (As := [.ref (a0 + 3)]) (st := []) dX12_movesAll_42 clX12_381 c0 rfl rfl (Nat.le_of_ble_eq_true rfl) (rmSH (by decide) (by decide)) h1
theorem bX12_movesAll_45 {X : pX} {Q : Option Value → pMem → Prop} {m : pMem} {a0 : Nat} {x1 : Int32} {x2 : Int32} (hW : Wf m) (c0 : SH[a0]? = some (.inl 12))
    (h1 : Cl X 1 mX12_movesRow [.ref a0, .ref (a0 + 4)] m (fun v m2 => Go X 2 mX12_movesAll Q 53 [(0, .ref a0), (1, .int x1), (2, .int x2)] (v.toList ++ []) m2)) :
    Go X 2 mX12_movesAll Q 45 [(0, .ref a0), (1, .int x1), (2, .int x2)] [] m := by
  refine g_aload_n 0 dX12_movesAll_45 rfl rfl ?_
  refine g_aload_n 0 dX12_movesAll_46 rfl rfl ?_
  refine g_getR dX12_movesAll_47 fl12_19 rfl c0 (w12_4 hW c0) ?_
  exact g_callV (As := [.ref (a0 + 4)]) (st := []) dX12_movesAll_50 clX12_381 c0 rfl rfl (Nat.le_of_ble_eq_true rfl) (rmSH (by decide) (by decide)) h1
theorem bX12_movesAll_53 {X : pX} {Q : Option Value → pMem → Prop} {m : pMem} {a0 : Nat} {x1 : Int32} {x2 : Int32} (hW : Wf m) (c0 : SH[a0]? = some (.inl 12))
    (h1 : Q none m) :
    Go X 2 mX12_movesAll Q 53 [(0, .ref a0), (1, .int x1), (2, .int x2)] [] m := by
  exact g_vret dX12_movesAll_53 rfl enSH h1
theorem bX12_keepsAct_0 {X : pX} {Q : Option Value → pMem → Prop} {m : pMem} {a0 : Nat} (hW : Wf m) (c0 : SH[a0]? = some (.inl 12))
    (h1 : ¬ (mI m a0 41) = (20 : Int32) → Cl X 2 mX12_movesAll [.ref a0, .int (mI m a0 41), .int (0 : Int32)] m (fun v m2 => Go X 3 mX12_keepsAct Q 59 [(0, .ref a0)] (v.toList ++ []) m2))
    (h2 : (mI m a0 41) = (20 : Int32) → Go X 3 mX12_keepsAct Q 12 [(0, .ref a0), (1, .int (15 : Int32))] [] m) :
    Go X 3 mX12_keepsAct Q 0 [(0, .ref a0)] [] m := by
  refine g_aload_n 0 dX12_keepsAct_0 rfl rfl ?_
  refine g_getI dX12_keepsAct_1 fl12_299 c0 ?_
  refine g_bipush (v := 20) dX12_keepsAct_4 (by decide) ?_
  refine g_icmp_ne 50 dX12_keepsAct_6 (by decide) (fun q1 => ?_) (fun q1 => ?_)
  · refine g_aload_n 0 dX12_keepsAct_50 rfl rfl ?_
    refine g_aload_n 0 dX12_keepsAct_51 rfl rfl ?_
    refine g_getI dX12_keepsAct_52 fl12_299 c0 ?_
    refine g_iconst (v := 0) dX12_keepsAct_55 (by decide) ?_
    exact g_callV (As := [.int (mI m a0 41), .int (0 : Int32)]) (st := []) dX12_keepsAct_56 clX12_385 c0 rfl rfl (Nat.le_of_ble_eq_true rfl) (rmSH (by decide) (by decide)) (h1 q1)
  · refine g_bipush (v := 15) dX12_keepsAct_9 (by decide) ?_
    refine g_istore_n (ls2 := [(1, .int (15 : Int32)), (0, .ref a0)]) dX12_keepsAct_11 rfl (by decide) rfl ?_
    exact g_ls [1, 0] rfl (h2 q1)
theorem bX12_keepsAct_59 {X : pX} {Q : Option Value → pMem → Prop} {m : pMem} {a0 : Nat} (hW : Wf m) (c0 : SH[a0]? = some (.inl 12))
    (h1 : Q none (uI m a0 41 ((mI m a0 41) + (1 : Int32)))) :
    Go X 3 mX12_keepsAct Q 59 [(0, .ref a0)] [] m := by
  refine g_aload_n 0 dX12_keepsAct_59 rfl rfl ?_
  refine g_dup dX12_keepsAct_60 rfl ?_
  refine g_getI dX12_keepsAct_61 fl12_299 c0 ?_
  refine g_iconst (v := 1) dX12_keepsAct_64 (by decide) ?_
  refine g_iadd dX12_keepsAct_65 ?_
  refine g_putI dX12_keepsAct_66 fl12_299 (fun h => by cases h) c0 ?_
  exact g_vret dX12_keepsAct_69 rfl enSH h1
theorem bX12_keepsAct_12 {X : pX} {Q : Option Value → pMem → Prop} {m : pMem} {a0 : Nat} {x1 : Int32} (hW : Wf m) (c0 : SH[a0]? = some (.inl 12))
    (h1 : (300 : Int32) ≤ x1 → Cl X 2 mX12_movesAll [.ref a0, .int (mI (uI m a0 41 ((mI m a0 41) - (1 : Int32))) a0 41), .int (0 : Int32)] (uI m a0 41 ((mI m a0 41) - (1 : Int32))) (fun v m2 => Go X 3 mX12_keepsAct Q 59 [(0, .ref a0), (1, .int x1)] (v.toList ++ []) m2))
    (h2 : ¬ ((300 : Int32) ≤ x1) → vp_in x1 300)
    (h3 : ¬ ((300 : Int32) ≤ x1) → vp_in (x1 - (15 : Int32)) 300)
    (h4 : ¬ ((300 : Int32) ≤ x1) → Go X 3 mX12_keepsAct Q 12 [(0, .ref a0), (1, .int (x1 + (1 : Int32)))] [] (uI m (a0 + 29) ((x1 - (15 : Int32)).toNatClampNeg) (mI m (a0 + 29) x1.toNatClampNeg))) :
    Go X 3 mX12_keepsAct Q 12 [(0, .ref a0), (1, .int x1)] [] m := by
  refine g_iload_n 1 dX12_keepsAct_12 rfl rfl ?_
  refine g_sipush (v := 300) dX12_keepsAct_13 (by decide) ?_
  refine g_icmp_ge 40 dX12_keepsAct_16 (by decide) (fun q1 => ?_) (fun q1 => ?_)
  · refine g_aload_n 0 dX12_keepsAct_40 rfl rfl ?_
    refine g_dup dX12_keepsAct_41 rfl ?_
    refine g_getI dX12_keepsAct_42 fl12_299 c0 ?_
    refine g_iconst (v := 1) dX12_keepsAct_45 (by decide) ?_
    refine g_isub dX12_keepsAct_46 ?_
    refine g_putI dX12_keepsAct_47 fl12_299 (fun h => by cases h) c0 ?_
    refine g_aload_n 0 dX12_keepsAct_50 rfl rfl ?_
    refine g_aload_n 0 dX12_keepsAct_51 rfl rfl ?_
    refine g_getI dX12_keepsAct_52 fl12_299 c0 ?_
    refine g_iconst (v := 0) dX12_keepsAct_55 (by decide) ?_
    exact g_callV (As := [.int (mI (uI m a0 41 ((mI m a0 41) - (1 : Int32))) a0 41), .int (0 : Int32)]) (st := []) dX12_keepsAct_56 clX12_385 c0 rfl rfl (Nat.le_of_ble_eq_true rfl) (rmSH (by decide) (by decide)) (h1 q1)
  · refine g_aload_n 0 dX12_keepsAct_19 rfl rfl ?_
    refine g_getR dX12_keepsAct_20 fl12_100 rfl c0 (w12_39 hW c0) ?_
    refine g_iload_n 1 dX12_keepsAct_23 rfl rfl ?_
    refine g_bipush (v := 15) dX12_keepsAct_24 (by decide) ?_
    refine g_isub dX12_keepsAct_26 ?_
    refine g_aload_n 0 dX12_keepsAct_27 rfl rfl ?_
    refine g_getR dX12_keepsAct_28 fl12_100 rfl c0 (w12_39 hW c0) ?_
    refine g_iload_n 1 dX12_keepsAct_31 rfl rfl ?_
    refine g_iald (j := x1.toNatClampNeg) dX12_keepsAct_32 (s12_39 c0) (h2 q1) rfl ?_
    refine g_iast (j := (x1 - (15 : Int32)).toNatClampNeg) dX12_keepsAct_33 (s12_39 c0) (h3 q1) rfl ?_
    refine g_iinc (v := x1 + (1 : Int32)) (ls2 := [(1, .int (x1 + (1 : Int32))), (0, .ref a0)]) 1 dX12_keepsAct_34 rfl rfl (by decide) rfl ?_
    refine g_goto 12 dX12_keepsAct_37 (by decide) ?_
    exact g_ls [1, 0] rfl (h4 q1)
theorem bX12_keepsAct_59v1 {X : pX} {Q : Option Value → pMem → Prop} {m : pMem} {a0 : Nat} {x1 : Int32} (hW : Wf m) (c0 : SH[a0]? = some (.inl 12))
    (h1 : Q none (uI m a0 41 ((mI m a0 41) + (1 : Int32)))) :
    Go X 3 mX12_keepsAct Q 59 [(0, .ref a0), (1, .int x1)] [] m := by
  refine g_aload_n 0 dX12_keepsAct_59 rfl rfl ?_
  refine g_dup dX12_keepsAct_60 rfl ?_
  refine g_getI dX12_keepsAct_61 fl12_299 c0 ?_
  refine g_iconst (v := 1) dX12_keepsAct_64 (by decide) ?_
  refine g_iadd dX12_keepsAct_65 ?_
  refine g_putI dX12_keepsAct_66 fl12_299 (fun h => by cases h) c0 ?_
  exact g_vret dX12_keepsAct_69 rfl enSH h1
theorem bX12_undo_0 {X : pX} {Q : Option Value → pMem → Prop} {m : pMem} {a0 : Nat} (hW : Wf m) (c0 : SH[a0]? = some (.inl 12))
    (h1 : ¬ (mI m a0 41) = 0 → Cl X 2 mX12_movesAll [.ref a0, .int (mI (uI m a0 41 ((mI m a0 41) - (1 : Int32))) a0 41), .int (1 : Int32)] (uI m a0 41 ((mI m a0 41) - (1 : Int32))) (fun v m2 => Go X 3 mX12_undo Q 29 [(0, .ref a0)] (v.toList ++ []) m2))
    (h2 : (mI m a0 41) = 0 → Q (some (.int (-2 : Int32))) m) :
    Go X 3 mX12_undo Q 0 [(0, .ref a0)] [] m := by
  refine g_aload_n 0 dX12_undo_0 rfl rfl ?_
  refine g_getI dX12_undo_1 fl12_299 c0 ?_
  refine g_if_ne 10 dX12_undo_4 (by decide) (fun q1 => ?_) (fun q1 => ?_)
  · refine g_aload_n 0 dX12_undo_10 rfl rfl ?_
    refine g_dup dX12_undo_11 rfl ?_
    refine g_getI dX12_undo_12 fl12_299 c0 ?_
    refine g_iconst (v := 1) dX12_undo_15 (by decide) ?_
    refine g_isub dX12_undo_16 ?_
    refine g_putI dX12_undo_17 fl12_299 (fun h => by cases h) c0 ?_
    refine g_aload_n 0 dX12_undo_20 rfl rfl ?_
    refine g_aload_n 0 dX12_undo_21 rfl rfl ?_
    refine g_getI dX12_undo_22 fl12_299 c0 ?_
    refine g_iconst (v := 1) dX12_undo_25 (by decide) ?_
    exact g_callV (As := [.int (mI (uI m a0 41 ((mI m a0 41) - (1 : Int32))) a0 41), .int (1 : Int32)]) (st := []) dX12_undo_26 clX12_385 c0 rfl rfl (Nat.le_of_ble_eq_true rfl) (rmSH (by decide) (by decide)) (h1 q1)
  · refine g_bipush (v := -2) dX12_undo_7 (by decide) ?_
    exact g_iret dX12_undo_9 rfl enSH (h2 q1)
theorem bX12_undo_29 {X : pX} {Q : Option Value → pMem → Prop} {m : pMem} {a0 : Nat} (hW : Wf m) (c0 : SH[a0]? = some (.inl 12))
    (h1 : Q (some (.int (mI m a0 41))) m) :
    Go X 3 mX12_undo Q 29 [(0, .ref a0)] [] m := by
  refine g_aload_n 0 dX12_undo_29 rfl rfl ?_
  refine g_getI dX12_undo_30 fl12_299 c0 ?_
  exact g_iret dX12_undo_33 rfl enSH h1
theorem bX12_day_0 {X : pX} {Q : Option Value → pMem → Prop} {m : pMem} {a0 : Nat} (hW : Wf m) (c0 : SH[a0]? = some (.inl 12))
    (h1 : Cl X 0 mX12_isRoad [.ref a0] m (fun v m2 => Go X 7 mX12_day Q 4 [(0, .ref a0)] (v.toList ++ []) m2)) :
    Go X 7 mX12_day Q 0 [(0, .ref a0)] [] m := by
  refine g_aload_n 0 dX12_day_0 rfl rfl ?_
  exact g_callV (As := []) (st := []) dX12_day_1 clX12_389 c0 rfl rfl (Nat.le_of_ble_eq_true rfl) (rmSH (by decide) (by decide)) h1
theorem bX12_day_4 {X : pX} {Q : Option Value → pMem → Prop} {m : pMem} {a0 : Nat} {xs0 : Int32} (hW : Wf m) (c0 : SH[a0]? = some (.inl 12))
    (h1 : xs0 = 0 → Q (some (.int (-1 : Int32))) m)
    (h2 : ¬ (xs0 = 0) → ¬ (mI m (a0 + 1) 5) = (999 : Int32) → Cl X 3 mX12_keepsAct [.ref a0] m (fun v m2 => Go X 7 mX12_day Q 25 [(0, .ref a0)] (v.toList ++ []) m2))
    (h3 : ¬ (xs0 = 0) → (mI m (a0 + 1) 5) = (999 : Int32) → Q (some (.int (-1 : Int32))) m) :
    Go X 7 mX12_day Q 4 [(0, .ref a0)] [.int xs0] m := by
  refine g_if_eq 19 dX12_day_4 (by decide) (fun q1 => ?_) (fun q1 => ?_)
  · refine g_iconst (v := -1) dX12_day_19 (by decide) ?_
    exact g_iret dX12_day_20 rfl enSH (h1 q1)
  · refine g_aload_n 0 dX12_day_7 rfl rfl ?_
    refine g_getR dX12_day_8 fl12_9 rfl c0 (w12_1 hW c0) ?_
    refine g_iconst (v := 5) dX12_day_11 (by decide) ?_
    refine g_iald (j := 5) dX12_day_12 (s12_1 c0) (by unfold vp_in; decide) (by decide) ?_
    refine g_sipush (v := 999) dX12_day_13 (by decide) ?_
    refine g_icmp_ne 21 dX12_day_16 (by decide) (fun q2 => ?_) (fun q2 => ?_)
    · refine g_aload_n 0 dX12_day_21 rfl rfl ?_
      exact g_callV (As := []) (st := []) dX12_day_22 clX12_392 c0 rfl rfl (Nat.le_of_ble_eq_true rfl) (rmSH (by decide) (by decide)) (h2 q1 q2)
    · refine g_iconst (v := -1) dX12_day_19 (by decide) ?_
      exact g_iret dX12_day_20 rfl enSH (h3 q1 q2)
theorem bX12_day_25 {X : pX} {Q : Option Value → pMem → Prop} {m : pMem} {a0 : Nat} (hW : Wf m) (c0 : SH[a0]? = some (.inl 12))
    (h1 : Cl X 6 mX12_goes [.ref a0] m (fun v m2 => Go X 7 mX12_day Q 29 [(0, .ref a0)] (v.toList ++ []) m2)) :
    Go X 7 mX12_day Q 25 [(0, .ref a0)] [] m := by
  refine g_aload_n 0 dX12_day_25 rfl rfl ?_
  exact g_callV (As := []) (st := []) dX12_day_26 clX12_368 c0 rfl rfl (Nat.le_of_ble_eq_true rfl) (rmSH (by decide) (by decide)) h1
theorem bX12_day_29 {X : pX} {Q : Option Value → pMem → Prop} {m : pMem} {a0 : Nat} {xs0 : Int32} (hW : Wf m) (c0 : SH[a0]? = some (.inl 12))
    (h1 : Q (some (.int xs0)) m) :
    Go X 7 mX12_day Q 29 [(0, .ref a0)] [.int xs0] m := by
  exact g_iret dX12_day_29 rfl enSH h1
theorem bX12_isAtPlace_0 {X : pX} {Q : Option Value → pMem → Prop} {m : pMem} {a0 : Nat} {x1 : Int32} (hW : Wf m) (c0 : SH[a0]? = some (.inl 12))
    (h1 : Cl X 1 mX12_isPerson [.ref a0, .int x1] m (fun v m2 => Go X 2 mX12_isAtPlace Q 5 [(0, .ref a0), (1, .int x1)] (v.toList ++ []) m2)) :
    Go X 2 mX12_isAtPlace Q 0 [(0, .ref a0), (1, .int x1)] [] m := by
  refine g_aload_n 0 dX12_isAtPlace_0 rfl rfl ?_
  refine g_iload_n 1 dX12_isAtPlace_1 rfl rfl ?_
  exact g_callV (As := [.int x1]) (st := []) dX12_isAtPlace_2 clX12_334 c0 rfl rfl (Nat.le_of_ble_eq_true rfl) (rmSH (by decide) (by decide)) h1
theorem bX12_isAtPlace_5 {X : pX} {Q : Option Value → pMem → Prop} {m : pMem} {a0 : Nat} {x1 : Int32} {xs0 : Int32} (hW : Wf m) (c0 : SH[a0]? = some (.inl 12))
    (h1 : xs0 = 0 → Q (some (.int (0 : Int32))) m)
    (h2 : ¬ (xs0 = 0) → vp_in x1 4)
    (h3 : ¬ (xs0 = 0) → ¬ (mI m (a0 + 3) x1.toNatClampNeg) = 0 → Q (some (.int (0 : Int32))) m)
    (h4 : ¬ (xs0 = 0) → (mI m (a0 + 3) x1.toNatClampNeg) = 0 → Q (some (.int (1 : Int32))) m) :
    Go X 2 mX12_isAtPlace Q 5 [(0, .ref a0), (1, .int x1)] [.int xs0] m := by
  refine g_if_eq 21 dX12_isAtPlace_5 (by decide) (fun q1 => ?_) (fun q1 => ?_)
  · refine g_iconst (v := 0) dX12_isAtPlace_21 (by decide) ?_
    exact g_bret dX12_isAtPlace_22 rfl (Or.inl rfl) enSH (h1 q1)
  · refine g_aload_n 0 dX12_isAtPlace_8 rfl rfl ?_
    refine g_getR dX12_isAtPlace_9 fl12_16 rfl c0 (w12_3 hW c0) ?_
    refine g_iload_n 1 dX12_isAtPlace_12 rfl rfl ?_
    refine g_iald (j := x1.toNatClampNeg) dX12_isAtPlace_13 (s12_3 c0) (h2 q1) rfl ?_
    refine g_if_ne 21 dX12_isAtPlace_14 (by decide) (fun q2 => ?_) (fun q2 => ?_)
    · refine g_iconst (v := 0) dX12_isAtPlace_21 (by decide) ?_
      exact g_bret dX12_isAtPlace_22 rfl (Or.inl rfl) enSH (h3 q1 q2)
    · refine g_iconst (v := 1) dX12_isAtPlace_17 (by decide) ?_
      refine g_goto 22 dX12_isAtPlace_18 (by decide) ?_
      exact g_bret dX12_isAtPlace_22 rfl (Or.inr rfl) enSH (h4 q1 q2)
theorem bX12_areTogether_0 {X : pX} {Q : Option Value → pMem → Prop} {m : pMem} {a0 : Nat} {x1 : Int32} {x2 : Int32} (hW : Wf m) (c0 : SH[a0]? = some (.inl 12))
    (h1 : Cl X 2 mX12_isAtPlace [.ref a0, .int x1] m (fun v m2 => Go X 3 mX12_areTogether Q 5 [(0, .ref a0), (1, .int x1), (2, .int x2)] (v.toList ++ []) m2)) :
    Go X 3 mX12_areTogether Q 0 [(0, .ref a0), (1, .int x1), (2, .int x2)] [] m := by
  refine g_aload_n 0 dX12_areTogether_0 rfl rfl ?_
  refine g_iload_n 1 dX12_areTogether_1 rfl rfl ?_
  exact g_callV (As := [.int x1]) (st := []) dX12_areTogether_2 clX12_395 c0 rfl rfl (Nat.le_of_ble_eq_true rfl) (rmSH (by decide) (by decide)) h1
theorem bX12_areTogether_5 {X : pX} {Q : Option Value → pMem → Prop} {m : pMem} {a0 : Nat} {x1 : Int32} {x2 : Int32} {xs0 : Int32} (hW : Wf m) (c0 : SH[a0]? = some (.inl 12))
    (h1 : xs0 = 0 → Q (some (.int (0 : Int32))) m)
    (h2 : ¬ (xs0 = 0) → Cl X 2 mX12_isAtPlace [.ref a0, .int x2] m (fun v m2 => Go X 3 mX12_areTogether Q 13 [(0, .ref a0), (1, .int x1), (2, .int x2)] (v.toList ++ []) m2)) :
    Go X 3 mX12_areTogether Q 5 [(0, .ref a0), (1, .int x1), (2, .int x2)] [.int xs0] m := by
  refine g_if_eq 40 dX12_areTogether_5 (by decide) (fun q1 => ?_) (fun q1 => ?_)
  · refine g_iconst (v := 0) dX12_areTogether_40 (by decide) ?_
    exact g_bret dX12_areTogether_41 rfl (Or.inl rfl) enSH (h1 q1)
  · refine g_aload_n 0 dX12_areTogether_8 rfl rfl ?_
    refine g_iload_n 2 dX12_areTogether_9 rfl rfl ?_
    exact g_callV (As := [.int x2]) (st := []) dX12_areTogether_10 clX12_395 c0 rfl rfl (Nat.le_of_ble_eq_true rfl) (rmSH (by decide) (by decide)) (h2 q1)
theorem bX12_areTogether_13 {X : pX} {Q : Option Value → pMem → Prop} {m : pMem} {a0 : Nat} {x1 : Int32} {x2 : Int32} {xs0 : Int32} (hW : Wf m) (c0 : SH[a0]? = some (.inl 12))
    (h1 : xs0 = 0 → Q (some (.int (0 : Int32))) m)
    (h2 : ¬ (xs0 = 0) → x1 = x2 → Q (some (.int (0 : Int32))) m)
    (h3 : ¬ (xs0 = 0) → ¬ (x1 = x2) → vp_in x1 4)
    (h4 : ¬ (xs0 = 0) → ¬ (x1 = x2) → vp_in x2 4)
    (h5 : ¬ (xs0 = 0) → ¬ (x1 = x2) → ¬ (mI m (a0 + 2) x1.toNatClampNeg) = (mI m (a0 + 2) x2.toNatClampNeg) → Q (some (.int (0 : Int32))) m)
    (h6 : ¬ (xs0 = 0) → ¬ (x1 = x2) → (mI m (a0 + 2) x1.toNatClampNeg) = (mI m (a0 + 2) x2.toNatClampNeg) → Q (some (.int (1 : Int32))) m) :
    Go X 3 mX12_areTogether Q 13 [(0, .ref a0), (1, .int x1), (2, .int x2)] [.int xs0] m := by
  refine g_if_eq 40 dX12_areTogether_13 (by decide) (fun q1 => ?_) (fun q1 => ?_)
  · refine g_iconst (v := 0) dX12_areTogether_40 (by decide) ?_
    exact g_bret dX12_areTogether_41 rfl (Or.inl rfl) enSH (h1 q1)
  · refine g_iload_n 1 dX12_areTogether_16 rfl rfl ?_
    refine g_iload_n 2 dX12_areTogether_17 rfl rfl ?_
    refine g_icmp_eq 40 dX12_areTogether_18 (by decide) (fun q2 => ?_) (fun q2 => ?_)
    · refine g_iconst (v := 0) dX12_areTogether_40 (by decide) ?_
      exact g_bret dX12_areTogether_41 rfl (Or.inl rfl) enSH (h2 q1 q2)
    · refine g_aload_n 0 dX12_areTogether_21 rfl rfl ?_
      refine g_getR dX12_areTogether_22 fl12_13 rfl c0 (w12_2 hW c0) ?_
      refine g_iload_n 1 dX12_areTogether_25 rfl rfl ?_
      refine g_iald (j := x1.toNatClampNeg) dX12_areTogether_26 (s12_2 c0) (h3 q1 q2) rfl ?_
      refine g_aload_n 0 dX12_areTogether_27 rfl rfl ?_
      refine g_getR dX12_areTogether_28 fl12_13 rfl c0 (w12_2 hW c0) ?_
      refine g_iload_n 2 dX12_areTogether_31 rfl rfl ?_
      refine g_iald (j := x2.toNatClampNeg) dX12_areTogether_32 (s12_2 c0) (h4 q1 q2) rfl ?_
      refine g_icmp_ne 40 dX12_areTogether_33 (by decide) (fun q3 => ?_) (fun q3 => ?_)
      · refine g_iconst (v := 0) dX12_areTogether_40 (by decide) ?_
        exact g_bret dX12_areTogether_41 rfl (Or.inl rfl) enSH (h5 q1 q2 q3)
      · refine g_iconst (v := 1) dX12_areTogether_36 (by decide) ?_
        refine g_goto 41 dX12_areTogether_37 (by decide) ?_
        exact g_bret dX12_areTogether_41 rfl (Or.inr rfl) enSH (h6 q1 q2 q3)
theorem bX12_mayHaveMore_0 {X : pX} {Q : Option Value → pMem → Prop} {m : pMem} {a0 : Nat} {x1 : Int32} (hW : Wf m) (c0 : SH[a0]? = some (.inl 12))
    (h1 : Cl X 0 mX12_thingsOf [.ref a0, .int x1] m (fun v m2 => Go X 1 mX12_mayHaveMore Q 5 [(0, .ref a0), (1, .int x1)] (v.toList ++ []) m2)) :
    Go X 1 mX12_mayHaveMore Q 0 [(0, .ref a0), (1, .int x1)] [] m := by
  refine g_aload_n 0 dX12_mayHaveMore_0 rfl rfl ?_
  refine g_iload_n 1 dX12_mayHaveMore_1 rfl rfl ?_
  exact g_callV (As := [.int x1]) (st := []) dX12_mayHaveMore_2 clX12_338 c0 rfl rfl (Nat.le_of_ble_eq_true rfl) (rmSH (by decide) (by decide)) h1
theorem bX12_mayHaveMore_5 {X : pX} {Q : Option Value → pMem → Prop} {m : pMem} {a0 : Nat} {x1 : Int32} {xs0 : Int32} (hW : Wf m) (c0 : SH[a0]? = some (.inl 12))
    (h1 : Cl X 0 mX12_bits [.int xs0] m (fun v m2 => Go X 1 mX12_mayHaveMore Q 8 [(0, .ref a0), (1, .int x1)] (v.toList ++ []) m2)) :
    Go X 1 mX12_mayHaveMore Q 5 [(0, .ref a0), (1, .int x1)] [.int xs0] m := by
  exact g_callS (As := [.int xs0]) (st := []) dX12_mayHaveMore_5 clX12_355 rfl rfl (Nat.le_of_ble_eq_true rfl) (rmSH (by decide) (by decide)) h1
theorem bX12_mayHaveMore_8 {X : pX} {Q : Option Value → pMem → Prop} {m : pMem} {a0 : Nat} {x1 : Int32} {xs0 : Int32} (hW : Wf m) (c0 : SH[a0]? = some (.inl 12))
    (h1 : (mI m (a0 + 1) 1) ≤ xs0 → Q (some (.int (0 : Int32))) m)
    (h2 : ¬ ((mI m (a0 + 1) 1) ≤ xs0) → Q (some (.int (1 : Int32))) m) :
    Go X 1 mX12_mayHaveMore Q 8 [(0, .ref a0), (1, .int x1)] [.int xs0] m := by
  refine g_aload_n 0 dX12_mayHaveMore_8 rfl rfl ?_
  refine g_getR dX12_mayHaveMore_9 fl12_9 rfl c0 (w12_1 hW c0) ?_
  refine g_iconst (v := 1) dX12_mayHaveMore_12 (by decide) ?_
  refine g_iald (j := 1) dX12_mayHaveMore_13 (s12_1 c0) (by unfold vp_in; decide) (by decide) ?_
  refine g_icmp_ge 21 dX12_mayHaveMore_14 (by decide) (fun q1 => ?_) (fun q1 => ?_)
  · refine g_iconst (v := 0) dX12_mayHaveMore_21 (by decide) ?_
    exact g_bret dX12_mayHaveMore_22 rfl (Or.inl rfl) enSH (h1 q1)
  · refine g_iconst (v := 1) dX12_mayHaveMore_17 (by decide) ?_
    refine g_goto 22 dX12_mayHaveMore_18 (by decide) ?_
    exact g_bret dX12_mayHaveMore_22 rfl (Or.inr rfl) enSH (h2 q1)
theorem bX12_drop_0 {X : pX} {Q : Option Value → pMem → Prop} {m : pMem} {a0 : Nat} {x1 : Int32} {x2 : Int32} (hW : Wf m) (c0 : SH[a0]? = some (.inl 12))
    (h1 : Cl X 2 mX12_isAtPlace [.ref a0, .int x1] m (fun v m2 => Go X 4 mX12_drop Q 5 [(0, .ref a0), (1, .int x1), (2, .int x2)] (v.toList ++ []) m2)) :
    Go X 4 mX12_drop Q 0 [(0, .ref a0), (1, .int x1), (2, .int x2)] [] m := by
  refine g_aload_n 0 dX12_drop_0 rfl rfl ?_
  refine g_iload_n 1 dX12_drop_1 rfl rfl ?_
  exact g_callV (As := [.int x1]) (st := []) dX12_drop_2 clX12_395 c0 rfl rfl (Nat.le_of_ble_eq_true rfl) (rmSH (by decide) (by decide)) h1
theorem bX12_drop_5 {X : pX} {Q : Option Value → pMem → Prop} {m : pMem} {a0 : Nat} {x1 : Int32} {x2 : Int32} {xs0 : Int32} (hW : Wf m) (c0 : SH[a0]? = some (.inl 12))
    (h1 : xs0 = 0 → Q (some (.int (-1 : Int32))) m)
    (h2 : ¬ (xs0 = 0) → Cl X 1 mX12_isThing [.ref a0, .int x2] m (fun v m2 => Go X 4 mX12_drop Q 13 [(0, .ref a0), (1, .int x1), (2, .int x2)] (v.toList ++ []) m2)) :
    Go X 4 mX12_drop Q 5 [(0, .ref a0), (1, .int x1), (2, .int x2)] [.int xs0] m := by
  refine g_if_eq 26 dX12_drop_5 (by decide) (fun q1 => ?_) (fun q1 => ?_)
  · refine g_iconst (v := -1) dX12_drop_26 (by decide) ?_
    exact g_iret dX12_drop_27 rfl enSH (h1 q1)
  · refine g_aload_n 0 dX12_drop_8 rfl rfl ?_
    refine g_iload_n 2 dX12_drop_9 rfl rfl ?_
    exact g_callV (As := [.int x2]) (st := []) dX12_drop_10 clX12_347 c0 rfl rfl (Nat.le_of_ble_eq_true rfl) (rmSH (by decide) (by decide)) (h2 q1)
theorem bX12_drop_13 {X : pX} {Q : Option Value → pMem → Prop} {m : pMem} {a0 : Nat} {x1 : Int32} {x2 : Int32} {xs0 : Int32} (hW : Wf m) (c0 : SH[a0]? = some (.inl 12))
    (h1 : xs0 = 0 → Q (some (.int (-1 : Int32))) m)
    (h2 : ¬ (xs0 = 0) → vp_in x2 6)
    (h3 : ¬ (xs0 = 0) → (mI m (a0 + 4) x2.toNatClampNeg) = x1 → Cl X 3 mX12_keepsAct [.ref a0] m (fun v m2 => Go X 4 mX12_drop Q 32 [(0, .ref a0), (1, .int x1), (2, .int x2)] (v.toList ++ []) m2))
    (h4 : ¬ (xs0 = 0) → ¬ ((mI m (a0 + 4) x2.toNatClampNeg) = x1) → Q (some (.int (-1 : Int32))) m) :
    Go X 4 mX12_drop Q 13 [(0, .ref a0), (1, .int x1), (2, .int x2)] [.int xs0] m := by
  refine g_if_eq 26 dX12_drop_13 (by decide) (fun q1 => ?_) (fun q1 => ?_)
  · refine g_iconst (v := -1) dX12_drop_26 (by decide) ?_
    exact g_iret dX12_drop_27 rfl enSH (h1 q1)
  · refine g_aload_n 0 dX12_drop_16 rfl rfl ?_
    refine g_getR dX12_drop_17 fl12_19 rfl c0 (w12_4 hW c0) ?_
    refine g_iload_n 2 dX12_drop_20 rfl rfl ?_
    refine g_iald (j := x2.toNatClampNeg) dX12_drop_21 (s12_4 c0) (h2 q1) rfl ?_
    refine g_iload_n 1 dX12_drop_22 rfl rfl ?_
    refine g_icmp_eq 28 dX12_drop_23 (by decide) (fun q2 => ?_) (fun q2 => ?_)
    · refine g_aload_n 0 dX12_drop_28 rfl rfl ?_
      exact g_callV (As := []) (st := []) dX12_drop_29 clX12_392 c0 rfl rfl (Nat.le_of_ble_eq_true rfl) (rmSH (by decide) (by decide)) (h3 q1 q2)
    · refine g_iconst (v := -1) dX12_drop_26 (by decide) ?_
      exact g_iret dX12_drop_27 rfl enSH (h4 q1 q2)
theorem bX12_drop_32 {X : pX} {Q : Option Value → pMem → Prop} {m : pMem} {a0 : Nat} {x1 : Int32} {x2 : Int32} (hW : Wf m) (c0 : SH[a0]? = some (.inl 12))
    (h1 : vp_in x1 4)
    (h2 : vp_in x2 6)
    (h3 : Cl X 0 mX12_thingsOf [.ref a0, .int x1] (uI m (a0 + 4) x2.toNatClampNeg ((10 : Int32) + (mI m (a0 + 2) x1.toNatClampNeg))) (fun v m2 => Go X 4 mX12_drop Q 52 [(0, .ref a0), (1, .int x1), (2, .int x2)] (v.toList ++ []) m2)) :
    Go X 4 mX12_drop Q 32 [(0, .ref a0), (1, .int x1), (2, .int x2)] [] m := by
  refine g_aload_n 0 dX12_drop_32 rfl rfl ?_
  refine g_getR dX12_drop_33 fl12_19 rfl c0 (w12_4 hW c0) ?_
  refine g_iload_n 2 dX12_drop_36 rfl rfl ?_
  refine g_bipush (v := 10) dX12_drop_37 (by decide) ?_
  refine g_aload_n 0 dX12_drop_39 rfl rfl ?_
  refine g_getR dX12_drop_40 fl12_13 rfl c0 (w12_2 hW c0) ?_
  refine g_iload_n 1 dX12_drop_43 rfl rfl ?_
  refine g_iald (j := x1.toNatClampNeg) dX12_drop_44 (s12_2 c0) h1 rfl ?_
  refine g_iadd dX12_drop_45 ?_
  refine g_iast (j := x2.toNatClampNeg) dX12_drop_46 (s12_4 c0) h2 rfl ?_
  refine g_aload_n 0 dX12_drop_47 rfl rfl ?_
  refine g_iload_n 1 dX12_drop_48 rfl rfl ?_
  exact g_callV (As := [.int x1]) (st := []) dX12_drop_49 clX12_338 c0 rfl rfl (Nat.le_of_ble_eq_true rfl) (rmSH (by decide) (by decide)) h3
theorem bX12_drop_52 {X : pX} {Q : Option Value → pMem → Prop} {m : pMem} {a0 : Nat} {x1 : Int32} {x2 : Int32} {xs0 : Int32} (hW : Wf m) (c0 : SH[a0]? = some (.inl 12))
    (h1 : Cl X 0 mX12_bits [.int xs0] m (fun v m2 => Go X 4 mX12_drop Q 55 [(0, .ref a0), (1, .int x1), (2, .int x2)] (v.toList ++ []) m2)) :
    Go X 4 mX12_drop Q 52 [(0, .ref a0), (1, .int x1), (2, .int x2)] [.int xs0] m := by
  exact g_callS (As := [.int xs0]) (st := []) dX12_drop_52 clX12_355 rfl rfl (Nat.le_of_ble_eq_true rfl) (rmSH (by decide) (by decide)) h1
theorem bX12_drop_55 {X : pX} {Q : Option Value → pMem → Prop} {m : pMem} {a0 : Nat} {x1 : Int32} {x2 : Int32} {xs0 : Int32} (hW : Wf m) (c0 : SH[a0]? = some (.inl 12))
    (h1 : Q (some (.int xs0)) m) :
    Go X 4 mX12_drop Q 55 [(0, .ref a0), (1, .int x1), (2, .int x2)] [.int xs0] m := by
  exact g_iret dX12_drop_55 rfl enSH h1
theorem bX12_take_0 {X : pX} {Q : Option Value → pMem → Prop} {m : pMem} {a0 : Nat} {x1 : Int32} {x2 : Int32} (hW : Wf m) (c0 : SH[a0]? = some (.inl 12))
    (h1 : Cl X 2 mX12_isAtPlace [.ref a0, .int x1] m (fun v m2 => Go X 4 mX12_take Q 5 [(0, .ref a0), (1, .int x1), (2, .int x2)] (v.toList ++ []) m2)) :
    Go X 4 mX12_take Q 0 [(0, .ref a0), (1, .int x1), (2, .int x2)] [] m := by
  refine g_aload_n 0 dX12_take_0 rfl rfl ?_
  refine g_iload_n 1 dX12_take_1 rfl rfl ?_
  exact g_callV (As := [.int x1]) (st := []) dX12_take_2 clX12_395 c0 rfl rfl (Nat.le_of_ble_eq_true rfl) (rmSH (by decide) (by decide)) h1
theorem bX12_take_5 {X : pX} {Q : Option Value → pMem → Prop} {m : pMem} {a0 : Nat} {x1 : Int32} {x2 : Int32} {xs0 : Int32} (hW : Wf m) (c0 : SH[a0]? = some (.inl 12))
    (h1 : xs0 = 0 → Q (some (.int (-1 : Int32))) m)
    (h2 : ¬ (xs0 = 0) → Cl X 1 mX12_isThing [.ref a0, .int x2] m (fun v m2 => Go X 4 mX12_take Q 13 [(0, .ref a0), (1, .int x1), (2, .int x2)] (v.toList ++ []) m2)) :
    Go X 4 mX12_take Q 5 [(0, .ref a0), (1, .int x1), (2, .int x2)] [.int xs0] m := by
  refine g_if_eq 42 dX12_take_5 (by decide) (fun q1 => ?_) (fun q1 => ?_)
  · refine g_iconst (v := -1) dX12_take_42 (by decide) ?_
    exact g_iret dX12_take_43 rfl enSH (h1 q1)
  · refine g_aload_n 0 dX12_take_8 rfl rfl ?_
    refine g_iload_n 2 dX12_take_9 rfl rfl ?_
    exact g_callV (As := [.int x2]) (st := []) dX12_take_10 clX12_347 c0 rfl rfl (Nat.le_of_ble_eq_true rfl) (rmSH (by decide) (by decide)) (h2 q1)
theorem bX12_take_13 {X : pX} {Q : Option Value → pMem → Prop} {m : pMem} {a0 : Nat} {x1 : Int32} {x2 : Int32} {xs0 : Int32} (hW : Wf m) (c0 : SH[a0]? = some (.inl 12))
    (h1 : xs0 = 0 → Q (some (.int (-1 : Int32))) m)
    (h2 : ¬ (xs0 = 0) → vp_in x2 6)
    (h3 : ¬ (xs0 = 0) → vp_in x1 4)
    (h4 : ¬ (xs0 = 0) → ¬ (mI m (a0 + 4) x2.toNatClampNeg) = ((10 : Int32) + (mI m (a0 + 2) x1.toNatClampNeg)) → Q (some (.int (-1 : Int32))) m)
    (h5 : ¬ (xs0 = 0) → (mI m (a0 + 4) x2.toNatClampNeg) = ((10 : Int32) + (mI m (a0 + 2) x1.toNatClampNeg)) → Cl X 1 mX12_mayHaveMore [.ref a0, .int x1] m (fun v m2 => Go X 4 mX12_take Q 39 [(0, .ref a0), (1, .int x1), (2, .int x2)] (v.toList ++ []) m2)) :
    Go X 4 mX12_take Q 13 [(0, .ref a0), (1, .int x1), (2, .int x2)] [.int xs0] m := by
  refine g_if_eq 42 dX12_take_13 (by decide) (fun q1 => ?_) (fun q1 => ?_)
  · refine g_iconst (v := -1) dX12_take_42 (by decide) ?_
    exact g_iret dX12_take_43 rfl enSH (h1 q1)
  · refine g_aload_n 0 dX12_take_16 rfl rfl ?_
    refine g_getR dX12_take_17 fl12_19 rfl c0 (w12_4 hW c0) ?_
    refine g_iload_n 2 dX12_take_20 rfl rfl ?_
    refine g_iald (j := x2.toNatClampNeg) dX12_take_21 (s12_4 c0) (h2 q1) rfl ?_
    refine g_bipush (v := 10) dX12_take_22 (by decide) ?_
    refine g_aload_n 0 dX12_take_24 rfl rfl ?_
    refine g_getR dX12_take_25 fl12_13 rfl c0 (w12_2 hW c0) ?_
    refine g_iload_n 1 dX12_take_28 rfl rfl ?_
    refine g_iald (j := x1.toNatClampNeg) dX12_take_29 (s12_2 c0) (h3 q1) rfl ?_
    refine g_iadd dX12_take_30 ?_
    refine g_icmp_ne 42 dX12_take_31 (by decide) (fun q2 => ?_) (fun q2 => ?_)
    · refine g_iconst (v := -1) dX12_take_42 (by decide) ?_
      exact g_iret dX12_take_43 rfl enSH (h4 q1 q2)
    · refine g_aload_n 0 dX12_take_34 rfl rfl ?_
      refine g_iload_n 1 dX12_take_35 rfl rfl ?_
      exact g_callV (As := [.int x1]) (st := []) dX12_take_36 clX12_398 c0 rfl rfl (Nat.le_of_ble_eq_true rfl) (rmSH (by decide) (by decide)) (h5 q1 q2)
theorem bX12_take_39 {X : pX} {Q : Option Value → pMem → Prop} {m : pMem} {a0 : Nat} {x1 : Int32} {x2 : Int32} {xs0 : Int32} (hW : Wf m) (c0 : SH[a0]? = some (.inl 12))
    (h1 : ¬ xs0 = 0 → Cl X 3 mX12_keepsAct [.ref a0] m (fun v m2 => Go X 4 mX12_take Q 48 [(0, .ref a0), (1, .int x1), (2, .int x2)] (v.toList ++ []) m2))
    (h2 : xs0 = 0 → Q (some (.int (-1 : Int32))) m) :
    Go X 4 mX12_take Q 39 [(0, .ref a0), (1, .int x1), (2, .int x2)] [.int xs0] m := by
  refine g_if_ne 44 dX12_take_39 (by decide) (fun q1 => ?_) (fun q1 => ?_)
  · refine g_aload_n 0 dX12_take_44 rfl rfl ?_
    exact g_callV (As := []) (st := []) dX12_take_45 clX12_392 c0 rfl rfl (Nat.le_of_ble_eq_true rfl) (rmSH (by decide) (by decide)) (h1 q1)
  · refine g_iconst (v := -1) dX12_take_42 (by decide) ?_
    exact g_iret dX12_take_43 rfl enSH (h2 q1)
theorem bX12_take_48 {X : pX} {Q : Option Value → pMem → Prop} {m : pMem} {a0 : Nat} {x1 : Int32} {x2 : Int32} (hW : Wf m) (c0 : SH[a0]? = some (.inl 12))
    (h1 : vp_in x2 6)
    (h2 : Cl X 0 mX12_thingsOf [.ref a0, .int x1] (uI m (a0 + 4) x2.toNatClampNeg x1) (fun v m2 => Go X 4 mX12_take Q 60 [(0, .ref a0), (1, .int x1), (2, .int x2)] (v.toList ++ []) m2)) :
    Go X 4 mX12_take Q 48 [(0, .ref a0), (1, .int x1), (2, .int x2)] [] m := by
  refine g_aload_n 0 dX12_take_48 rfl rfl ?_
  refine g_getR dX12_take_49 fl12_19 rfl c0 (w12_4 hW c0) ?_
  refine g_iload_n 2 dX12_take_52 rfl rfl ?_
  refine g_iload_n 1 dX12_take_53 rfl rfl ?_
  refine g_iast (j := x2.toNatClampNeg) dX12_take_54 (s12_4 c0) h1 rfl ?_
  refine g_aload_n 0 dX12_take_55 rfl rfl ?_
  refine g_iload_n 1 dX12_take_56 rfl rfl ?_
  exact g_callV (As := [.int x1]) (st := []) dX12_take_57 clX12_338 c0 rfl rfl (Nat.le_of_ble_eq_true rfl) (rmSH (by decide) (by decide)) h2
theorem bX12_take_60 {X : pX} {Q : Option Value → pMem → Prop} {m : pMem} {a0 : Nat} {x1 : Int32} {x2 : Int32} {xs0 : Int32} (hW : Wf m) (c0 : SH[a0]? = some (.inl 12))
    (h1 : Cl X 0 mX12_bits [.int xs0] m (fun v m2 => Go X 4 mX12_take Q 63 [(0, .ref a0), (1, .int x1), (2, .int x2)] (v.toList ++ []) m2)) :
    Go X 4 mX12_take Q 60 [(0, .ref a0), (1, .int x1), (2, .int x2)] [.int xs0] m := by
  exact g_callS (As := [.int xs0]) (st := []) dX12_take_60 clX12_355 rfl rfl (Nat.le_of_ble_eq_true rfl) (rmSH (by decide) (by decide)) h1
theorem bX12_take_63 {X : pX} {Q : Option Value → pMem → Prop} {m : pMem} {a0 : Nat} {x1 : Int32} {x2 : Int32} {xs0 : Int32} (hW : Wf m) (c0 : SH[a0]? = some (.inl 12))
    (h1 : Q (some (.int xs0)) m) :
    Go X 4 mX12_take Q 63 [(0, .ref a0), (1, .int x1), (2, .int x2)] [.int xs0] m := by
  exact g_iret dX12_take_63 rfl enSH h1
theorem bX12_give_0 {X : pX} {Q : Option Value → pMem → Prop} {m : pMem} {a0 : Nat} {x1 : Int32} {x2 : Int32} {x3 : Int32} (hW : Wf m) (c0 : SH[a0]? = some (.inl 12))
    (h1 : Cl X 3 mX12_areTogether [.ref a0, .int x1, .int x2] m (fun v m2 => Go X 4 mX12_give Q 6 [(0, .ref a0), (1, .int x1), (2, .int x2), (3, .int x3)] (v.toList ++ []) m2)) :
    Go X 4 mX12_give Q 0 [(0, .ref a0), (1, .int x1), (2, .int x2), (3, .int x3)] [] m := by
  refine g_aload_n 0 dX12_give_0 rfl rfl ?_
  refine g_iload_n 1 dX12_give_1 rfl rfl ?_
  refine g_iload_n 2 dX12_give_2 rfl rfl ?_
  exact g_callV (As := [.int x1, .int x2]) (st := []) dX12_give_3 clX12_401 c0 rfl rfl (Nat.le_of_ble_eq_true rfl) (rmSH (by decide) (by decide)) h1
theorem bX12_give_6 {X : pX} {Q : Option Value → pMem → Prop} {m : pMem} {a0 : Nat} {x1 : Int32} {x2 : Int32} {x3 : Int32} {xs0 : Int32} (hW : Wf m) (c0 : SH[a0]? = some (.inl 12))
    (h1 : xs0 = 0 → Q (some (.int (-1 : Int32))) m)
    (h2 : ¬ (xs0 = 0) → Cl X 1 mX12_isThing [.ref a0, .int x3] m (fun v m2 => Go X 4 mX12_give Q 14 [(0, .ref a0), (1, .int x1), (2, .int x2), (3, .int x3)] (v.toList ++ []) m2)) :
    Go X 4 mX12_give Q 6 [(0, .ref a0), (1, .int x1), (2, .int x2), (3, .int x3)] [.int xs0] m := by
  refine g_if_eq 35 dX12_give_6 (by decide) (fun q1 => ?_) (fun q1 => ?_)
  · refine g_iconst (v := -1) dX12_give_35 (by decide) ?_
    exact g_iret dX12_give_36 rfl enSH (h1 q1)
  · refine g_aload_n 0 dX12_give_9 rfl rfl ?_
    refine g_iload_n 3 dX12_give_10 rfl rfl ?_
    exact g_callV (As := [.int x3]) (st := []) dX12_give_11 clX12_347 c0 rfl rfl (Nat.le_of_ble_eq_true rfl) (rmSH (by decide) (by decide)) (h2 q1)
theorem bX12_give_14 {X : pX} {Q : Option Value → pMem → Prop} {m : pMem} {a0 : Nat} {x1 : Int32} {x2 : Int32} {x3 : Int32} {xs0 : Int32} (hW : Wf m) (c0 : SH[a0]? = some (.inl 12))
    (h1 : xs0 = 0 → Q (some (.int (-1 : Int32))) m)
    (h2 : ¬ (xs0 = 0) → vp_in x3 6)
    (h3 : ¬ (xs0 = 0) → ¬ (mI m (a0 + 4) x3.toNatClampNeg) = x1 → Q (some (.int (-1 : Int32))) m)
    (h4 : ¬ (xs0 = 0) → (mI m (a0 + 4) x3.toNatClampNeg) = x1 → Cl X 1 mX12_mayHaveMore [.ref a0, .int x2] m (fun v m2 => Go X 4 mX12_give Q 32 [(0, .ref a0), (1, .int x1), (2, .int x2), (3, .int x3)] (v.toList ++ []) m2)) :
    Go X 4 mX12_give Q 14 [(0, .ref a0), (1, .int x1), (2, .int x2), (3, .int x3)] [.int xs0] m := by
  refine g_if_eq 35 dX12_give_14 (by decide) (fun q1 => ?_) (fun q1 => ?_)
  · refine g_iconst (v := -1) dX12_give_35 (by decide) ?_
    exact g_iret dX12_give_36 rfl enSH (h1 q1)
  · refine g_aload_n 0 dX12_give_17 rfl rfl ?_
    refine g_getR dX12_give_18 fl12_19 rfl c0 (w12_4 hW c0) ?_
    refine g_iload_n 3 dX12_give_21 rfl rfl ?_
    refine g_iald (j := x3.toNatClampNeg) dX12_give_22 (s12_4 c0) (h2 q1) rfl ?_
    refine g_iload_n 1 dX12_give_23 rfl rfl ?_
    refine g_icmp_ne 35 dX12_give_24 (by decide) (fun q2 => ?_) (fun q2 => ?_)
    · refine g_iconst (v := -1) dX12_give_35 (by decide) ?_
      exact g_iret dX12_give_36 rfl enSH (h3 q1 q2)
    · refine g_aload_n 0 dX12_give_27 rfl rfl ?_
      refine g_iload_n 2 dX12_give_28 rfl rfl ?_
      exact g_callV (As := [.int x2]) (st := []) dX12_give_29 clX12_398 c0 rfl rfl (Nat.le_of_ble_eq_true rfl) (rmSH (by decide) (by decide)) (h4 q1 q2)
theorem bX12_give_32 {X : pX} {Q : Option Value → pMem → Prop} {m : pMem} {a0 : Nat} {x1 : Int32} {x2 : Int32} {x3 : Int32} {xs0 : Int32} (hW : Wf m) (c0 : SH[a0]? = some (.inl 12))
    (h1 : ¬ xs0 = 0 → Cl X 3 mX12_keepsAct [.ref a0] m (fun v m2 => Go X 4 mX12_give Q 41 [(0, .ref a0), (1, .int x1), (2, .int x2), (3, .int x3)] (v.toList ++ []) m2))
    (h2 : xs0 = 0 → Q (some (.int (-1 : Int32))) m) :
    Go X 4 mX12_give Q 32 [(0, .ref a0), (1, .int x1), (2, .int x2), (3, .int x3)] [.int xs0] m := by
  refine g_if_ne 37 dX12_give_32 (by decide) (fun q1 => ?_) (fun q1 => ?_)
  · refine g_aload_n 0 dX12_give_37 rfl rfl ?_
    exact g_callV (As := []) (st := []) dX12_give_38 clX12_392 c0 rfl rfl (Nat.le_of_ble_eq_true rfl) (rmSH (by decide) (by decide)) (h1 q1)
  · refine g_iconst (v := -1) dX12_give_35 (by decide) ?_
    exact g_iret dX12_give_36 rfl enSH (h2 q1)
theorem bX12_give_41 {X : pX} {Q : Option Value → pMem → Prop} {m : pMem} {a0 : Nat} {x1 : Int32} {x2 : Int32} {x3 : Int32} (hW : Wf m) (c0 : SH[a0]? = some (.inl 12))
    (h1 : vp_in x3 6)
    (h2 : Cl X 0 mX12_thingsOf [.ref a0, .int x2] (uI m (a0 + 4) x3.toNatClampNeg x2) (fun v m2 => Go X 4 mX12_give Q 53 [(0, .ref a0), (1, .int x1), (2, .int x2), (3, .int x3)] (v.toList ++ []) m2)) :
    Go X 4 mX12_give Q 41 [(0, .ref a0), (1, .int x1), (2, .int x2), (3, .int x3)] [] m := by
  refine g_aload_n 0 dX12_give_41 rfl rfl ?_
  refine g_getR dX12_give_42 fl12_19 rfl c0 (w12_4 hW c0) ?_
  refine g_iload_n 3 dX12_give_45 rfl rfl ?_
  refine g_iload_n 2 dX12_give_46 rfl rfl ?_
  refine g_iast (j := x3.toNatClampNeg) dX12_give_47 (s12_4 c0) h1 rfl ?_
  refine g_aload_n 0 dX12_give_48 rfl rfl ?_
  refine g_iload_n 2 dX12_give_49 rfl rfl ?_
  exact g_callV (As := [.int x2]) (st := []) dX12_give_50 clX12_338 c0 rfl rfl (Nat.le_of_ble_eq_true rfl) (rmSH (by decide) (by decide)) h2
theorem bX12_give_53 {X : pX} {Q : Option Value → pMem → Prop} {m : pMem} {a0 : Nat} {x1 : Int32} {x2 : Int32} {x3 : Int32} {xs0 : Int32} (hW : Wf m) (c0 : SH[a0]? = some (.inl 12))
    (h1 : Cl X 0 mX12_bits [.int xs0] m (fun v m2 => Go X 4 mX12_give Q 56 [(0, .ref a0), (1, .int x1), (2, .int x2), (3, .int x3)] (v.toList ++ []) m2)) :
    Go X 4 mX12_give Q 53 [(0, .ref a0), (1, .int x1), (2, .int x2), (3, .int x3)] [.int xs0] m := by
  exact g_callS (As := [.int xs0]) (st := []) dX12_give_53 clX12_355 rfl rfl (Nat.le_of_ble_eq_true rfl) (rmSH (by decide) (by decide)) h1
theorem bX12_give_56 {X : pX} {Q : Option Value → pMem → Prop} {m : pMem} {a0 : Nat} {x1 : Int32} {x2 : Int32} {x3 : Int32} {xs0 : Int32} (hW : Wf m) (c0 : SH[a0]? = some (.inl 12))
    (h1 : Q (some (.int xs0)) m) :
    Go X 4 mX12_give Q 56 [(0, .ref a0), (1, .int x1), (2, .int x2), (3, .int x3)] [.int xs0] m := by
  exact g_iret dX12_give_56 rfl enSH h1
theorem bX12_rob_0 {X : pX} {Q : Option Value → pMem → Prop} {m : pMem} {a0 : Nat} {x1 : Int32} (hW : Wf m) (c0 : SH[a0]? = some (.inl 12))
    (h1 : Cl X 1 mX12_isThing [.ref a0, .int x1] m (fun v m2 => Go X 4 mX12_rob Q 5 [(0, .ref a0), (1, .int x1)] (v.toList ++ []) m2)) :
    Go X 4 mX12_rob Q 0 [(0, .ref a0), (1, .int x1)] [] m := by
  refine g_aload_n 0 dX12_rob_0 rfl rfl ?_
  refine g_iload_n 1 dX12_rob_1 rfl rfl ?_
  exact g_callV (As := [.int x1]) (st := []) dX12_rob_2 clX12_347 c0 rfl rfl (Nat.le_of_ble_eq_true rfl) (rmSH (by decide) (by decide)) h1
theorem bX12_rob_5 {X : pX} {Q : Option Value → pMem → Prop} {m : pMem} {a0 : Nat} {x1 : Int32} {xs0 : Int32} (hW : Wf m) (c0 : SH[a0]? = some (.inl 12))
    (h1 : xs0 = 0 → Q (some (.int (-2 : Int32))) m)
    (h2 : ¬ (xs0 = 0) → vp_in x1 6)
    (h3 : ¬ (xs0 = 0) → ¬ (mI m (a0 + 4) x1.toNatClampNeg) = (-1 : Int32) → Cl X 3 mX12_keepsAct [.ref a0] m (fun v m2 => Go X 4 mX12_rob Q 25 [(0, .ref a0), (1, .int x1)] (v.toList ++ []) m2))
    (h4 : ¬ (xs0 = 0) → (mI m (a0 + 4) x1.toNatClampNeg) = (-1 : Int32) → Q (some (.int (-2 : Int32))) m) :
    Go X 4 mX12_rob Q 5 [(0, .ref a0), (1, .int x1)] [.int xs0] m := by
  refine g_if_eq 18 dX12_rob_5 (by decide) (fun q1 => ?_) (fun q1 => ?_)
  · refine g_bipush (v := -2) dX12_rob_18 (by decide) ?_
    exact g_iret dX12_rob_20 rfl enSH (h1 q1)
  · refine g_aload_n 0 dX12_rob_8 rfl rfl ?_
    refine g_getR dX12_rob_9 fl12_19 rfl c0 (w12_4 hW c0) ?_
    refine g_iload_n 1 dX12_rob_12 rfl rfl ?_
    refine g_iald (j := x1.toNatClampNeg) dX12_rob_13 (s12_4 c0) (h2 q1) rfl ?_
    refine g_iconst (v := -1) dX12_rob_14 (by decide) ?_
    refine g_icmp_ne 21 dX12_rob_15 (by decide) (fun q2 => ?_) (fun q2 => ?_)
    · refine g_aload_n 0 dX12_rob_21 rfl rfl ?_
      exact g_callV (As := []) (st := []) dX12_rob_22 clX12_392 c0 rfl rfl (Nat.le_of_ble_eq_true rfl) (rmSH (by decide) (by decide)) (h3 q1 q2)
    · refine g_bipush (v := -2) dX12_rob_18 (by decide) ?_
      exact g_iret dX12_rob_20 rfl enSH (h4 q1 q2)
theorem bX12_rob_25 {X : pX} {Q : Option Value → pMem → Prop} {m : pMem} {a0 : Nat} {x1 : Int32} (hW : Wf m) (c0 : SH[a0]? = some (.inl 12))
    (h1 : vp_in x1 6)
    (h2 : vp_in x1 6)
    (h3 : Q (some (.int (mI m (a0 + 4) x1.toNatClampNeg))) (uI m (a0 + 4) x1.toNatClampNeg (-1 : Int32))) :
    Go X 4 mX12_rob Q 25 [(0, .ref a0), (1, .int x1)] [] m := by
  refine g_aload_n 0 dX12_rob_25 rfl rfl ?_
  refine g_getR dX12_rob_26 fl12_19 rfl c0 (w12_4 hW c0) ?_
  refine g_iload_n 1 dX12_rob_29 rfl rfl ?_
  refine g_iald (j := x1.toNatClampNeg) dX12_rob_30 (s12_4 c0) h1 rfl ?_
  refine g_istore_n (ls2 := [(2, .int (mI m (a0 + 4) x1.toNatClampNeg)), (0, .ref a0), (1, .int x1)]) dX12_rob_31 rfl (by decide) rfl ?_
  refine g_aload_n 1 dX12_rob_32 rfl rfl ?_
  refine g_getR dX12_rob_33 fl12_19 rfl c0 (w12_4 hW c0) ?_
  refine g_iload_n 2 dX12_rob_36 rfl rfl ?_
  refine g_iconst (v := -1) dX12_rob_37 (by decide) ?_
  refine g_iast (j := x1.toNatClampNeg) dX12_rob_38 (s12_4 c0) h2 rfl ?_
  refine g_iload_n 0 dX12_rob_39 rfl rfl ?_
  exact g_iret dX12_rob_40 rfl enSH h3
theorem bX12_keepsAll_0 {X : pX} {Q : Option Value → pMem → Prop} {m : pMem} {a0 : Nat} (hW : Wf m) (c0 : SH[a0]? = some (.inl 12))
    (h1 : Cl X 1 mX12_carriesAll [.ref a0, .int (4 : Int32), .int (0 : Int32)] m (fun v m2 => Go X 2 mX12_keepsAll Q 6 [(0, .ref a0)] (v.toList ++ []) m2)) :
    Go X 2 mX12_keepsAll Q 0 [(0, .ref a0)] [] m := by
  refine g_aload_n 0 dX12_keepsAll_0 rfl rfl ?_
  refine g_iconst (v := 4) dX12_keepsAll_1 (by decide) ?_
  refine g_iconst (v := 0) dX12_keepsAll_2 (by decide) ?_
  exact g_callV (As := [.int (4 : Int32), .int (0 : Int32)]) (st := []) dX12_keepsAll_3 clX12_404 c0 rfl rfl (Nat.le_of_ble_eq_true rfl) (rmSH (by decide) (by decide)) h1
theorem bX12_keepsAll_6 {X : pX} {Q : Option Value → pMem → Prop} {m : pMem} {a0 : Nat} (hW : Wf m) (c0 : SH[a0]? = some (.inl 12))
    (h1 : Q none m) :
    Go X 2 mX12_keepsAll Q 6 [(0, .ref a0)] [] m := by
  exact g_vret dX12_keepsAll_6 rfl enSH h1
theorem bX12_laysBack_0 {X : pX} {Q : Option Value → pMem → Prop} {m : pMem} {a0 : Nat} (hW : Wf m) (c0 : SH[a0]? = some (.inl 12))
    (h1 : Cl X 1 mX12_carriesAll [.ref a0, .int (4 : Int32), .int (1 : Int32)] m (fun v m2 => Go X 2 mX12_laysBack Q 6 [(0, .ref a0)] (v.toList ++ []) m2)) :
    Go X 2 mX12_laysBack Q 0 [(0, .ref a0)] [] m := by
  refine g_aload_n 0 dX12_laysBack_0 rfl rfl ?_
  refine g_iconst (v := 4) dX12_laysBack_1 (by decide) ?_
  refine g_iconst (v := 1) dX12_laysBack_2 (by decide) ?_
  exact g_callV (As := [.int (4 : Int32), .int (1 : Int32)]) (st := []) dX12_laysBack_3 clX12_404 c0 rfl rfl (Nat.le_of_ble_eq_true rfl) (rmSH (by decide) (by decide)) h1
theorem bX12_laysBack_6 {X : pX} {Q : Option Value → pMem → Prop} {m : pMem} {a0 : Nat} (hW : Wf m) (c0 : SH[a0]? = some (.inl 12))
    (h1 : Q none m) :
    Go X 2 mX12_laysBack Q 6 [(0, .ref a0)] [] m := by
  exact g_vret dX12_laysBack_6 rfl enSH h1
theorem bX12_ahead_0 {X : pX} {Q : Option Value → pMem → Prop} {m : pMem} {a0 : Nat} {x1 : Int32} {x2 : Int32} {x3 : Int32} (hW : Wf m) (c0 : SH[a0]? = some (.inl 12))
    (h1 : Cl X 0 mX12_in [.long x3.toInt64, .long (0 : Int64), .long (1 : Int64)] m (fun v m2 => Go X 8 mX12_ahead Q 7 [(0, .ref a0), (1, .int x1), (2, .int x2), (3, .int x3)] (v.toList ++ []) m2)) :
    Go X 8 mX12_ahead Q 0 [(0, .ref a0), (1, .int x1), (2, .int x2), (3, .int x3)] [] m := by
  refine g_iload_n 3 dX12_ahead_0 rfl rfl ?_
  refine g_i2l dX12_ahead_1 ?_
  refine g_lconst (v := 0) dX12_ahead_2 (by decide) ?_
  refine g_lconst (v := 1) dX12_ahead_3 (by decide) ?_
  exact g_callS (As := [.long x3.toInt64, .long (0 : Int64), .long (1 : Int64)]) (st := []) dX12_ahead_4 clX12_128 rfl rfl (Nat.le_of_ble_eq_true rfl) (rmSH (by decide) (by decide)) h1
theorem bX12_ahead_7 {X : pX} {Q : Option Value → pMem → Prop} {m : pMem} {a0 : Nat} {x1 : Int32} {x2 : Int32} {x3 : Int32} {xs0 : Int32} (hW : Wf m) (c0 : SH[a0]? = some (.inl 12))
    (h1 : xs0 = 0 → Go X 8 mX12_ahead Q 18 [(0, .ref a0), (1, .int x1), (2, .int x2), (3, .int x3)] [] m)
    (h2 : ¬ (xs0 = 0) → Cl X 1 mX12_isPerson [.ref a0, .int x1] m (fun v m2 => Go X 8 mX12_ahead Q 15 [(0, .ref a0), (1, .int x1), (2, .int x2), (3, .int x3)] (v.toList ++ []) m2)) :
    Go X 8 mX12_ahead Q 7 [(0, .ref a0), (1, .int x1), (2, .int x2), (3, .int x3)] [.int xs0] m := by
  refine g_if_eq 18 dX12_ahead_7 (by decide) (fun q1 => ?_) (fun q1 => ?_)
  · exact g_ls [0, 1, 2, 3] rfl (h1 q1)
  · refine g_aload_n 0 dX12_ahead_10 rfl rfl ?_
    refine g_iload_n 1 dX12_ahead_11 rfl rfl ?_
    exact g_callV (As := [.int x1]) (st := []) dX12_ahead_12 clX12_334 c0 rfl rfl (Nat.le_of_ble_eq_true rfl) (rmSH (by decide) (by decide)) (h2 q1)
theorem bX12_ahead_18 {X : pX} {Q : Option Value → pMem → Prop} {m : pMem} {a0 : Nat} {x1 : Int32} {x2 : Int32} {x3 : Int32} (hW : Wf m) (c0 : SH[a0]? = some (.inl 12))
    (h1 : ¬ x3 = (2 : Int32) → Go X 8 mX12_ahead Q 35 [(0, .ref a0), (1, .int x1), (2, .int x2), (3, .int x3)] [] m)
    (h2 : x3 = (2 : Int32) → Cl X 1 mX12_isThing [.ref a0, .int x1] m (fun v m2 => Go X 8 mX12_ahead Q 28 [(0, .ref a0), (1, .int x1), (2, .int x2), (3, .int x3)] (v.toList ++ []) m2)) :
    Go X 8 mX12_ahead Q 18 [(0, .ref a0), (1, .int x1), (2, .int x2), (3, .int x3)] [] m := by
  refine g_iload_n 3 dX12_ahead_18 rfl rfl ?_
  refine g_iconst (v := 2) dX12_ahead_19 (by decide) ?_
  refine g_icmp_ne 35 dX12_ahead_20 (by decide) (fun q1 => ?_) (fun q1 => ?_)
  · exact g_ls [0, 1, 2, 3] rfl (h1 q1)
  · refine g_aload_n 0 dX12_ahead_23 rfl rfl ?_
    refine g_iload_n 1 dX12_ahead_24 rfl rfl ?_
    exact g_callV (As := [.int x1]) (st := []) dX12_ahead_25 clX12_347 c0 rfl rfl (Nat.le_of_ble_eq_true rfl) (rmSH (by decide) (by decide)) (h2 q1)
theorem bX12_ahead_15 {X : pX} {Q : Option Value → pMem → Prop} {m : pMem} {a0 : Nat} {x1 : Int32} {x2 : Int32} {x3 : Int32} {xs0 : Int32} (hW : Wf m) (c0 : SH[a0]? = some (.inl 12))
    (h1 : ¬ xs0 = 0 → Go X 8 mX12_ahead Q 31 [(0, .ref a0), (1, .int x1), (2, .int x2), (3, .int x3)] [] m)
    (h2 : xs0 = 0 → Go X 8 mX12_ahead Q 18 [(0, .ref a0), (1, .int x1), (2, .int x2), (3, .int x3)] [] m) :
    Go X 8 mX12_ahead Q 15 [(0, .ref a0), (1, .int x1), (2, .int x2), (3, .int x3)] [.int xs0] m := by
  refine g_if_ne 31 dX12_ahead_15 (by decide) (fun q1 => ?_) (fun q1 => ?_)
  · exact g_ls [0, 1, 2, 3] rfl (h1 q1)
  · exact g_ls [0, 1, 2, 3] rfl (h2 q1)
theorem bX12_ahead_35 {X : pX} {Q : Option Value → pMem → Prop} {m : pMem} {a0 : Nat} {x1 : Int32} {x2 : Int32} {x3 : Int32} (hW : Wf m) (c0 : SH[a0]? = some (.inl 12))
    (h1 : Go X 8 mX12_ahead Q 36 [(0, .ref a0), (1, .int x1), (2, .int x2), (3, .int x3)] [.int (0 : Int32)] m) :
    Go X 8 mX12_ahead Q 35 [(0, .ref a0), (1, .int x1), (2, .int x2), (3, .int x3)] [] m := by
  refine g_iconst (v := 0) dX12_ahead_35 (by decide) ?_
  exact g_ls [0, 1, 2, 3] rfl h1
theorem bX12_ahead_28 {X : pX} {Q : Option Value → pMem → Prop} {m : pMem} {a0 : Nat} {x1 : Int32} {x2 : Int32} {x3 : Int32} {xs0 : Int32} (hW : Wf m) (c0 : SH[a0]? = some (.inl 12))
    (h1 : xs0 = 0 → Go X 8 mX12_ahead Q 35 [(0, .ref a0), (1, .int x1), (2, .int x2), (3, .int x3)] [] m)
    (h2 : ¬ (xs0 = 0) → Go X 8 mX12_ahead Q 31 [(0, .ref a0), (1, .int x1), (2, .int x2), (3, .int x3)] [] m) :
    Go X 8 mX12_ahead Q 28 [(0, .ref a0), (1, .int x1), (2, .int x2), (3, .int x3)] [.int xs0] m := by
  refine g_if_eq 35 dX12_ahead_28 (by decide) (fun q1 => ?_) (fun q1 => ?_)
  · exact g_ls [0, 1, 2, 3] rfl (h1 q1)
  · exact g_ls [0, 1, 2, 3] rfl (h2 q1)
theorem bX12_ahead_31 {X : pX} {Q : Option Value → pMem → Prop} {m : pMem} {a0 : Nat} {x1 : Int32} {x2 : Int32} {x3 : Int32} (hW : Wf m) (c0 : SH[a0]? = some (.inl 12))
    (h1 : Go X 8 mX12_ahead Q 36 [(0, .ref a0), (1, .int x1), (2, .int x2), (3, .int x3)] [.int (1 : Int32)] m) :
    Go X 8 mX12_ahead Q 31 [(0, .ref a0), (1, .int x1), (2, .int x2), (3, .int x3)] [] m := by
  refine g_iconst (v := 1) dX12_ahead_31 (by decide) ?_
  refine g_goto 36 dX12_ahead_32 (by decide) ?_
  exact g_ls [0, 1, 2, 3] rfl h1
theorem bX12_ahead_36 {X : pX} {Q : Option Value → pMem → Prop} {m : pMem} {a0 : Nat} {x1 : Int32} {x2 : Int32} {x3 : Int32} (hW : Wf m) (c0 : SH[a0]? = some (.inl 12))
    (h1 : (0 : Int32) = 0 → Q (some (.int (-2 : Int32))) m)
    (h2 : ¬ ((0 : Int32) = 0) → Cl X 0 mX12_in [.long x2.toInt64, .long (0 : Int64), .long (100 : Int64)] m (fun v m2 => Go X 8 mX12_ahead Q 52 [(0, .ref a0), (1, .int x1), (2, .int x2), (3, .int x3), (4, .int (0 : Int32))] (v.toList ++ []) m2)) :
    Go X 8 mX12_ahead Q 36 [(0, .ref a0), (1, .int x1), (2, .int x2), (3, .int x3)] [.int (0 : Int32)] m := by
  refine g_istore (ls2 := [(4, .int (0 : Int32)), (0, .ref a0), (1, .int x1), (2, .int x2), (3, .int x3)]) dX12_ahead_36 (by decide) rfl ?_
  refine g_iload 0 dX12_ahead_38 rfl ?_
  refine g_if_eq 55 dX12_ahead_40 (by decide) (fun q1 => ?_) (fun q1 => ?_)
  · refine g_bipush (v := -2) dX12_ahead_55 (by decide) ?_
    exact g_iret dX12_ahead_57 rfl enSH (h1 q1)
  · refine g_iload_n 3 dX12_ahead_43 rfl rfl ?_
    refine g_i2l dX12_ahead_44 ?_
    refine g_lconst (v := 0) dX12_ahead_45 (by decide) ?_
    refine g_ldc2 (v := 100) dX12_ahead_46 cjX12_407 ?_
    refine g_ls [1, 2, 3, 4, 0] (ls2 := [(0, .ref a0), (1, .int x1), (2, .int x2), (3, .int x3), (4, .int (0 : Int32))]) rfl ?_
    exact g_callS (As := [.long x2.toInt64, .long (0 : Int64), .long (100 : Int64)]) (st := []) dX12_ahead_49 clX12_128 rfl rfl (Nat.le_of_ble_eq_true rfl) (rmSH (by decide) (by decide)) (h2 q1)
theorem bX12_ahead_36v1 {X : pX} {Q : Option Value → pMem → Prop} {m : pMem} {a0 : Nat} {x1 : Int32} {x2 : Int32} {x3 : Int32} (hW : Wf m) (c0 : SH[a0]? = some (.inl 12))
    (h1 : (1 : Int32) = 0 → Q (some (.int (-2 : Int32))) m)
    (h2 : ¬ ((1 : Int32) = 0) → Cl X 0 mX12_in [.long x2.toInt64, .long (0 : Int64), .long (100 : Int64)] m (fun v m2 => Go X 8 mX12_ahead Q 52 [(0, .ref a0), (1, .int x1), (2, .int x2), (3, .int x3), (4, .int (1 : Int32))] (v.toList ++ []) m2)) :
    Go X 8 mX12_ahead Q 36 [(0, .ref a0), (1, .int x1), (2, .int x2), (3, .int x3)] [.int (1 : Int32)] m := by
  refine g_istore (ls2 := [(4, .int (1 : Int32)), (0, .ref a0), (1, .int x1), (2, .int x2), (3, .int x3)]) dX12_ahead_36 (by decide) rfl ?_
  refine g_iload 0 dX12_ahead_38 rfl ?_
  refine g_if_eq 55 dX12_ahead_40 (by decide) (fun q1 => ?_) (fun q1 => ?_)
  · refine g_bipush (v := -2) dX12_ahead_55 (by decide) ?_
    exact g_iret dX12_ahead_57 rfl enSH (h1 q1)
  · refine g_iload_n 3 dX12_ahead_43 rfl rfl ?_
    refine g_i2l dX12_ahead_44 ?_
    refine g_lconst (v := 0) dX12_ahead_45 (by decide) ?_
    refine g_ldc2 (v := 100) dX12_ahead_46 cjX12_407 ?_
    refine g_ls [1, 2, 3, 4, 0] (ls2 := [(0, .ref a0), (1, .int x1), (2, .int x2), (3, .int x3), (4, .int (1 : Int32))]) rfl ?_
    exact g_callS (As := [.long x2.toInt64, .long (0 : Int64), .long (100 : Int64)]) (st := []) dX12_ahead_49 clX12_128 rfl rfl (Nat.le_of_ble_eq_true rfl) (rmSH (by decide) (by decide)) (h2 q1)
theorem bX12_ahead_52 {X : pX} {Q : Option Value → pMem → Prop} {m : pMem} {a0 : Nat} {x1 : Int32} {x2 : Int32} {x3 : Int32} {x4 : Int32} {xs0 : Int32} (hW : Wf m) (c0 : SH[a0]? = some (.inl 12))
    (h1 : ¬ xs0 = 0 → Cl X 2 mX12_keepsAll [.ref a0] m (fun v m2 => Go X 8 mX12_ahead Q 62 [(0, .ref a0), (1, .int x1), (2, .int x2), (3, .int x3), (4, .int x4)] (v.toList ++ []) m2))
    (h2 : xs0 = 0 → Q (some (.int (-2 : Int32))) m) :
    Go X 8 mX12_ahead Q 52 [(0, .ref a0), (1, .int x1), (2, .int x2), (3, .int x3), (4, .int x4)] [.int xs0] m := by
  refine g_if_ne 58 dX12_ahead_52 (by decide) (fun q1 => ?_) (fun q1 => ?_)
  · refine g_aload_n 0 dX12_ahead_58 rfl rfl ?_
    exact g_callV (As := []) (st := []) dX12_ahead_59 clX12_409 c0 rfl rfl (Nat.le_of_ble_eq_true rfl) (rmSH (by decide) (by decide)) (h1 q1)
  · refine g_bipush (v := -2) dX12_ahead_55 (by decide) ?_
    exact g_iret dX12_ahead_57 rfl enSH (h2 q1)
theorem bX12_ahead_62 {X : pX} {Q : Option Value → pMem → Prop} {m : pMem} {a0 : Nat} {x1 : Int32} {x2 : Int32} {x3 : Int32} {x4 : Int32} (hW : Wf m) (c0 : SH[a0]? = some (.inl 12))
    (h1 : Cl X 7 mX12_goFor [.ref a0, .int x2] m (fun v m2 => Go X 8 mX12_ahead Q 67 [(0, .ref a0), (1, .int x1), (2, .int x2), (3, .int x3), (4, .int x4)] (v.toList ++ []) m2)) :
    Go X 8 mX12_ahead Q 62 [(0, .ref a0), (1, .int x1), (2, .int x2), (3, .int x3), (4, .int x4)] [] m := by
  refine g_aload_n 0 dX12_ahead_62 rfl rfl ?_
  refine g_iload_n 2 dX12_ahead_63 rfl rfl ?_
  exact g_callV (As := [.int x2]) (st := []) dX12_ahead_64 clX12_412 c0 rfl rfl (Nat.le_of_ble_eq_true rfl) (rmSH (by decide) (by decide)) h1
theorem bX12_ahead_67 {X : pX} {Q : Option Value → pMem → Prop} {m : pMem} {a0 : Nat} {x1 : Int32} {x2 : Int32} {x3 : Int32} {x4 : Int32} (hW : Wf m) (c0 : SH[a0]? = some (.inl 12))
    (h1 : ¬ x3 = 0 → ¬ x3 = (1 : Int32) → vp_in x1 6)
    (h2 : ¬ x3 = 0 → ¬ x3 = (1 : Int32) → Cl X 2 mX12_laysBack [.ref a0] m (fun v m2 => Go X 8 mX12_ahead Q 106 [(0, .ref a0), (1, .int x1), (2, .int x2), (3, .int x3), (4, .int x4), (5, .int (mI m (a0 + 4) x1.toNatClampNeg))] (v.toList ++ []) m2))
    (h3 : ¬ x3 = 0 → x3 = (1 : Int32) → vp_in x1 4)
    (h4 : ¬ x3 = 0 → x3 = (1 : Int32) → Cl X 2 mX12_laysBack [.ref a0] m (fun v m2 => Go X 8 mX12_ahead Q 106 [(0, .ref a0), (1, .int x1), (2, .int x2), (3, .int x3), (4, .int x4), (5, .int (mI m (a0 + 3) x1.toNatClampNeg))] (v.toList ++ []) m2))
    (h5 : x3 = 0 → vp_in x1 4)
    (h6 : x3 = 0 → Cl X 2 mX12_laysBack [.ref a0] m (fun v m2 => Go X 8 mX12_ahead Q 106 [(0, .ref a0), (1, .int x1), (2, .int x2), (3, .int x3), (4, .int x4), (5, .int (mI m (a0 + 2) x1.toNatClampNeg))] (v.toList ++ []) m2)) :
    Go X 8 mX12_ahead Q 67 [(0, .ref a0), (1, .int x1), (2, .int x2), (3, .int x3), (4, .int x4)] [] m := by
  refine g_iload_n 3 dX12_ahead_67 rfl rfl ?_
  refine g_if_ne 80 dX12_ahead_68 (by decide) (fun q1 => ?_) (fun q1 => ?_)
  · refine g_iload_n 3 dX12_ahead_80 rfl rfl ?_
    refine g_iconst (v := 1) dX12_ahead_81 (by decide) ?_
    refine g_icmp_ne 94 dX12_ahead_82 (by decide) (fun q2 => ?_) (fun q2 => ?_)
    · refine g_aload_n 0 dX12_ahead_94 rfl rfl ?_
      refine g_getR dX12_ahead_95 fl12_19 rfl c0 (w12_4 hW c0) ?_
      refine g_iload_n 1 dX12_ahead_98 rfl rfl ?_
      refine g_iald (j := x1.toNatClampNeg) dX12_ahead_99 (s12_4 c0) (h1 q1 q2) rfl ?_
      refine g_istore (ls2 := [(5, .int (mI m (a0 + 4) x1.toNatClampNeg)), (0, .ref a0), (1, .int x1), (2, .int x2), (3, .int x3), (4, .int x4)]) dX12_ahead_100 (by decide) rfl ?_
      refine g_aload_n 1 dX12_ahead_102 rfl rfl ?_
      refine g_ls [1, 2, 3, 4, 5, 0] (ls2 := [(0, .ref a0), (1, .int x1), (2, .int x2), (3, .int x3), (4, .int x4), (5, .int (mI m (a0 + 4) x1.toNatClampNeg))]) rfl ?_
      exact g_callV (As := []) (st := []) dX12_ahead_103 clX12_415 c0 rfl rfl (Nat.le_of_ble_eq_true rfl) (rmSH (by decide) (by decide)) (h2 q1 q2)
    · refine g_aload_n 0 dX12_ahead_85 rfl rfl ?_
      refine g_getR dX12_ahead_86 fl12_16 rfl c0 (w12_3 hW c0) ?_
      refine g_iload_n 1 dX12_ahead_89 rfl rfl ?_
      refine g_iald (j := x1.toNatClampNeg) dX12_ahead_90 (s12_3 c0) (h3 q1 q2) rfl ?_
      refine g_goto 100 dX12_ahead_91 (by decide) ?_
      refine g_istore (ls2 := [(5, .int (mI m (a0 + 3) x1.toNatClampNeg)), (0, .ref a0), (1, .int x1), (2, .int x2), (3, .int x3), (4, .int x4)]) dX12_ahead_100 (by decide) rfl ?_
      refine g_aload_n 1 dX12_ahead_102 rfl rfl ?_
      refine g_ls [1, 2, 3, 4, 5, 0] (ls2 := [(0, .ref a0), (1, .int x1), (2, .int x2), (3, .int x3), (4, .int x4), (5, .int (mI m (a0 + 3) x1.toNatClampNeg))]) rfl ?_
      exact g_callV (As := []) (st := []) dX12_ahead_103 clX12_415 c0 rfl rfl (Nat.le_of_ble_eq_true rfl) (rmSH (by decide) (by decide)) (h4 q1 q2)
  · refine g_aload_n 0 dX12_ahead_71 rfl rfl ?_
    refine g_getR dX12_ahead_72 fl12_13 rfl c0 (w12_2 hW c0) ?_
    refine g_iload_n 1 dX12_ahead_75 rfl rfl ?_
    refine g_iald (j := x1.toNatClampNeg) dX12_ahead_76 (s12_2 c0) (h5 q1) rfl ?_
    refine g_goto 100 dX12_ahead_77 (by decide) ?_
    refine g_istore (ls2 := [(5, .int (mI m (a0 + 2) x1.toNatClampNeg)), (0, .ref a0), (1, .int x1), (2, .int x2), (3, .int x3), (4, .int x4)]) dX12_ahead_100 (by decide) rfl ?_
    refine g_aload_n 1 dX12_ahead_102 rfl rfl ?_
    refine g_ls [1, 2, 3, 4, 5, 0] (ls2 := [(0, .ref a0), (1, .int x1), (2, .int x2), (3, .int x3), (4, .int x4), (5, .int (mI m (a0 + 2) x1.toNatClampNeg))]) rfl ?_
    exact g_callV (As := []) (st := []) dX12_ahead_103 clX12_415 c0 rfl rfl (Nat.le_of_ble_eq_true rfl) (rmSH (by decide) (by decide)) (h6 q1)
theorem bX12_ahead_106 {X : pX} {Q : Option Value → pMem → Prop} {m : pMem} {a0 : Nat} {x1 : Int32} {x2 : Int32} {x3 : Int32} {x4 : Int32} {x5 : Int32} (hW : Wf m) (c0 : SH[a0]? = some (.inl 12))
    (h1 : Q (some (.int x5)) m) :
    Go X 8 mX12_ahead Q 106 [(0, .ref a0), (1, .int x1), (2, .int x2), (3, .int x3), (4, .int x4), (5, .int x5)] [] m := by
  refine g_iload 5 dX12_ahead_106 rfl ?_
  exact g_iret dX12_ahead_108 rfl enSH h1
theorem bX12_comes_0 {X : pX} {Q : Option Value → pMem → Prop} {m : pMem} {a0 : Nat} {x1 : Int32} (hW : Wf m) (c0 : SH[a0]? = some (.inl 12))
    (h1 : Cl X 1 mX12_isPerson [.ref a0, .int x1] m (fun v m2 => Go X 7 mX12_comes Q 5 [(0, .ref a0), (1, .int x1)] (v.toList ++ []) m2)) :
    Go X 7 mX12_comes Q 0 [(0, .ref a0), (1, .int x1)] [] m := by
  refine g_aload_n 0 dX12_comes_0 rfl rfl ?_
  refine g_iload_n 1 dX12_comes_1 rfl rfl ?_
  exact g_callV (As := [.int x1]) (st := []) dX12_comes_2 clX12_334 c0 rfl rfl (Nat.le_of_ble_eq_true rfl) (rmSH (by decide) (by decide)) h1
theorem bX12_comes_5 {X : pX} {Q : Option Value → pMem → Prop} {m : pMem} {a0 : Nat} {x1 : Int32} {xs0 : Int32} (hW : Wf m) (c0 : SH[a0]? = some (.inl 12))
    (h1 : ¬ xs0 = 0 → Cl X 2 mX12_keepsAll [.ref a0] m (fun v m2 => Go X 7 mX12_comes Q 14 [(0, .ref a0), (1, .int x1)] (v.toList ++ []) m2))
    (h2 : xs0 = 0 → Q (some (.int (-1 : Int32))) m) :
    Go X 7 mX12_comes Q 5 [(0, .ref a0), (1, .int x1)] [.int xs0] m := by
  refine g_if_ne 10 dX12_comes_5 (by decide) (fun q1 => ?_) (fun q1 => ?_)
  · refine g_aload_n 0 dX12_comes_10 rfl rfl ?_
    exact g_callV (As := []) (st := []) dX12_comes_11 clX12_409 c0 rfl rfl (Nat.le_of_ble_eq_true rfl) (rmSH (by decide) (by decide)) (h1 q1)
  · refine g_iconst (v := -1) dX12_comes_8 (by decide) ?_
    exact g_iret dX12_comes_9 rfl enSH (h2 q1)
theorem bX12_comes_14 {X : pX} {Q : Option Value → pMem → Prop} {m : pMem} {a0 : Nat} {x1 : Int32} (hW : Wf m) (c0 : SH[a0]? = some (.inl 12))
    (h1 : Go X 7 mX12_comes Q 19 [(0, .ref a0), (1, .int x1), (2, .int (-2 : Int32)), (3, .int (0 : Int32))] [] m) :
    Go X 7 mX12_comes Q 14 [(0, .ref a0), (1, .int x1)] [] m := by
  refine g_bipush (v := -2) dX12_comes_14 (by decide) ?_
  refine g_istore_n (ls2 := [(2, .int (-2 : Int32)), (0, .ref a0), (1, .int x1)]) dX12_comes_16 rfl (by decide) rfl ?_
  refine g_iconst (v := 0) dX12_comes_17 (by decide) ?_
  refine g_istore_n (ls2 := [(3, .int (0 : Int32)), (2, .int (-2 : Int32)), (0, .ref a0), (1, .int x1)]) dX12_comes_18 rfl (by decide) rfl ?_
  exact g_ls [2, 3, 1, 0] rfl h1
theorem bX12_comes_19 {X : pX} {Q : Option Value → pMem → Prop} {m : pMem} {a0 : Nat} {x1 : Int32} {x2 : Int32} {x3 : Int32} (hW : Wf m) (c0 : SH[a0]? = some (.inl 12))
    (h1 : (200 : Int32) ≤ x3 → Cl X 2 mX12_laysBack [.ref a0] m (fun v m2 => Go X 7 mX12_comes Q 72 [(0, .ref a0), (1, .int x1), (2, .int x2), (3, .int x3)] (v.toList ++ []) m2))
    (h2 : ¬ ((200 : Int32) ≤ x3) → ¬ x2 = (-2 : Int32) → Cl X 2 mX12_laysBack [.ref a0] m (fun v m2 => Go X 7 mX12_comes Q 72 [(0, .ref a0), (1, .int x1), (2, .int x2), (3, .int x3)] (v.toList ++ []) m2))
    (h3 : ¬ ((200 : Int32) ≤ x3) → x2 = (-2 : Int32) → vp_in x1 4)
    (h4 : ¬ ((200 : Int32) ≤ x3) → x2 = (-2 : Int32) → Cl X 0 mX12_town [.ref a0] m (fun v m2 => Go X 7 mX12_comes Q 42 [(0, .ref a0), (1, .int x1), (2, .int x2), (3, .int x3)] (v.toList ++ [.int (mI m (a0 + 2) x1.toNatClampNeg)]) m2)) :
    Go X 7 mX12_comes Q 19 [(0, .ref a0), (1, .int x1), (2, .int x2), (3, .int x3)] [] m := by
  refine g_iload_n 3 dX12_comes_19 rfl rfl ?_
  refine g_sipush (v := 200) dX12_comes_20 (by decide) ?_
  refine g_icmp_ge 68 dX12_comes_23 (by decide) (fun q1 => ?_) (fun q1 => ?_)
  · refine g_aload_n 0 dX12_comes_68 rfl rfl ?_
    exact g_callV (As := []) (st := []) dX12_comes_69 clX12_415 c0 rfl rfl (Nat.le_of_ble_eq_true rfl) (rmSH (by decide) (by decide)) (h1 q1)
  · refine g_iload_n 2 dX12_comes_26 rfl rfl ?_
    refine g_bipush (v := -2) dX12_comes_27 (by decide) ?_
    refine g_icmp_ne 68 dX12_comes_29 (by decide) (fun q2 => ?_) (fun q2 => ?_)
    · refine g_aload_n 0 dX12_comes_68 rfl rfl ?_
      exact g_callV (As := []) (st := []) dX12_comes_69 clX12_415 c0 rfl rfl (Nat.le_of_ble_eq_true rfl) (rmSH (by decide) (by decide)) (h2 q1 q2)
    · refine g_aload_n 0 dX12_comes_32 rfl rfl ?_
      refine g_getR dX12_comes_33 fl12_13 rfl c0 (w12_2 hW c0) ?_
      refine g_iload_n 1 dX12_comes_36 rfl rfl ?_
      refine g_iald (j := x1.toNatClampNeg) dX12_comes_37 (s12_2 c0) (h3 q1 q2) rfl ?_
      refine g_aload_n 0 dX12_comes_38 rfl rfl ?_
      exact g_callV (As := []) (st := [.int (mI m (a0 + 2) x1.toNatClampNeg)]) dX12_comes_39 clX12_352 c0 rfl rfl (Nat.le_of_ble_eq_true rfl) (rmSH (by decide) (by decide)) (h4 q1 q2)
theorem bX12_comes_72 {X : pX} {Q : Option Value → pMem → Prop} {m : pMem} {a0 : Nat} {x1 : Int32} {x2 : Int32} {x3 : Int32} (hW : Wf m) (c0 : SH[a0]? = some (.inl 12))
    (h1 : Q (some (.int x2)) m) :
    Go X 7 mX12_comes Q 72 [(0, .ref a0), (1, .int x1), (2, .int x2), (3, .int x3)] [] m := by
  refine g_iload_n 2 dX12_comes_72 rfl rfl ?_
  exact g_iret dX12_comes_73 rfl enSH h1
theorem bX12_comes_42 {X : pX} {Q : Option Value → pMem → Prop} {m : pMem} {a0 : Nat} {x1 : Int32} {x2 : Int32} {x3 : Int32} {xs0 : Int32} {xs1 : Int32} (hW : Wf m) (c0 : SH[a0]? = some (.inl 12))
    (h1 : ¬ xs1 = xs0 → Cl X 6 mX12_goes [.ref a0] m (fun v m2 => Go X 7 mX12_comes Q 61 [(0, .ref a0), (1, .int x1), (2, .int (-2 : Int32)), (3, .int x3)] (v.toList ++ []) m2))
    (h2 : xs1 = xs0 → Cl X 6 mX12_goes [.ref a0] m (fun v m2 => Go X 7 mX12_comes Q 61 [(0, .ref a0), (1, .int x1), (2, .int (mI m (a0 + 1) 5)), (3, .int x3)] (v.toList ++ []) m2)) :
    Go X 7 mX12_comes Q 42 [(0, .ref a0), (1, .int x1), (2, .int x2), (3, .int x3)] [.int xs0, .int xs1] m := by
  refine g_icmp_ne 54 dX12_comes_42 (by decide) (fun q1 => ?_) (fun q1 => ?_)
  · refine g_bipush (v := -2) dX12_comes_54 (by decide) ?_
    refine g_istore_n (ls2 := [(2, .int (-2 : Int32)), (0, .ref a0), (1, .int x1), (3, .int x3)]) dX12_comes_56 rfl (by decide) rfl ?_
    refine g_aload_n 1 dX12_comes_57 rfl rfl ?_
    refine g_ls [1, 2, 0, 3] (ls2 := [(0, .ref a0), (1, .int x1), (2, .int (-2 : Int32)), (3, .int x3)]) rfl ?_
    exact g_callV (As := []) (st := []) dX12_comes_58 clX12_368 c0 rfl rfl (Nat.le_of_ble_eq_true rfl) (rmSH (by decide) (by decide)) (h1 q1)
  · refine g_aload_n 0 dX12_comes_45 rfl rfl ?_
    refine g_getR dX12_comes_46 fl12_9 rfl c0 (w12_1 hW c0) ?_
    refine g_iconst (v := 5) dX12_comes_49 (by decide) ?_
    refine g_iald (j := 5) dX12_comes_50 (s12_1 c0) (by unfold vp_in; decide) (by decide) ?_
    refine g_goto 56 dX12_comes_51 (by decide) ?_
    refine g_istore_n (ls2 := [(2, .int (mI m (a0 + 1) 5)), (0, .ref a0), (1, .int x1), (3, .int x3)]) dX12_comes_56 rfl (by decide) rfl ?_
    refine g_aload_n 1 dX12_comes_57 rfl rfl ?_
    refine g_ls [1, 2, 0, 3] (ls2 := [(0, .ref a0), (1, .int x1), (2, .int (mI m (a0 + 1) 5)), (3, .int x3)]) rfl ?_
    exact g_callV (As := []) (st := []) dX12_comes_58 clX12_368 c0 rfl rfl (Nat.le_of_ble_eq_true rfl) (rmSH (by decide) (by decide)) (h2 q1)
theorem bX12_comes_61 {X : pX} {Q : Option Value → pMem → Prop} {m : pMem} {a0 : Nat} {x1 : Int32} {x2 : Int32} {x3 : Int32} {xs0 : Int32} (hW : Wf m) (c0 : SH[a0]? = some (.inl 12))
    (h1 : Go X 7 mX12_comes Q 19 [(0, .ref a0), (1, .int x1), (2, .int x2), (3, .int (x3 + (1 : Int32)))] [] m) :
    Go X 7 mX12_comes Q 61 [(0, .ref a0), (1, .int x1), (2, .int x2), (3, .int x3)] [.int xs0] m := by
  refine g_pop dX12_comes_61 rfl ?_
  refine g_iinc (v := x3 + (1 : Int32)) (ls2 := [(3, .int (x3 + (1 : Int32))), (0, .ref a0), (1, .int x1), (2, .int x2)]) 3 dX12_comes_62 rfl rfl (by decide) rfl ?_
  refine g_goto 19 dX12_comes_65 (by decide) ?_
  exact g_ls [1, 2, 3, 0] rfl h1
theorem bX12_wealthIn_0 {X : pX} {Q : Option Value → pMem → Prop} {m : pMem} {a0 : Nat} {x1 : Int32} (hW : Wf m) (c0 : SH[a0]? = some (.inl 12))
    (h1 : Cl X 7 mX12_goFor [.ref a0, .int x1] m (fun v m2 => Go X 8 mX12_wealthIn Q 5 [(0, .ref a0), (1, .int x1)] (v.toList ++ []) m2)) :
    Go X 8 mX12_wealthIn Q 0 [(0, .ref a0), (1, .int x1)] [] m := by
  refine g_aload_n 0 dX12_wealthIn_0 rfl rfl ?_
  refine g_iload_n 1 dX12_wealthIn_1 rfl rfl ?_
  exact g_callV (As := [.int x1]) (st := []) dX12_wealthIn_2 clX12_412 c0 rfl rfl (Nat.le_of_ble_eq_true rfl) (rmSH (by decide) (by decide)) h1
theorem bX12_wealthIn_5 {X : pX} {Q : Option Value → pMem → Prop} {m : pMem} {a0 : Nat} {x1 : Int32} (hW : Wf m) (c0 : SH[a0]? = some (.inl 12))
    (h1 : Cl X 2 mX12_wealthNow [.ref a0] m (fun v m2 => Go X 8 mX12_wealthIn Q 9 [(0, .ref a0), (1, .int x1)] (v.toList ++ []) m2)) :
    Go X 8 mX12_wealthIn Q 5 [(0, .ref a0), (1, .int x1)] [] m := by
  refine g_aload_n 0 dX12_wealthIn_5 rfl rfl ?_
  exact g_callV (As := []) (st := []) dX12_wealthIn_6 clX12_418 c0 rfl rfl (Nat.le_of_ble_eq_true rfl) (rmSH (by decide) (by decide)) h1
theorem bX12_wealthIn_9 {X : pX} {Q : Option Value → pMem → Prop} {m : pMem} {a0 : Nat} {x1 : Int32} {xs0 : Int32} (hW : Wf m) (c0 : SH[a0]? = some (.inl 12))
    (h1 : Cl X 2 mX12_laysBack [.ref a0] m (fun v m2 => Go X 8 mX12_wealthIn Q 14 [(0, .ref a0), (1, .int x1), (2, .int xs0)] (v.toList ++ []) m2)) :
    Go X 8 mX12_wealthIn Q 9 [(0, .ref a0), (1, .int x1)] [.int xs0] m := by
  refine g_istore_n (ls2 := [(2, .int xs0), (0, .ref a0), (1, .int x1)]) dX12_wealthIn_9 rfl (by decide) rfl ?_
  refine g_aload_n 1 dX12_wealthIn_10 rfl rfl ?_
  refine g_ls [1, 2, 0] (ls2 := [(0, .ref a0), (1, .int x1), (2, .int xs0)]) rfl ?_
  exact g_callV (As := []) (st := []) dX12_wealthIn_11 clX12_415 c0 rfl rfl (Nat.le_of_ble_eq_true rfl) (rmSH (by decide) (by decide)) h1
theorem bX12_wealthIn_14 {X : pX} {Q : Option Value → pMem → Prop} {m : pMem} {a0 : Nat} {x1 : Int32} {x2 : Int32} (hW : Wf m) (c0 : SH[a0]? = some (.inl 12))
    (h1 : Q (some (.int x2)) m) :
    Go X 8 mX12_wealthIn Q 14 [(0, .ref a0), (1, .int x1), (2, .int x2)] [] m := by
  refine g_iload_n 2 dX12_wealthIn_14 rfl rfl ?_
  exact g_iret dX12_wealthIn_15 rfl enSH h1
theorem bX12_wealth_0 {X : pX} {Q : Option Value → pMem → Prop} {m : pMem} {a0 : Nat} {x1 : Int32} (hW : Wf m) (c0 : SH[a0]? = some (.inl 12))
    (h1 : Cl X 0 mX12_isRoad [.ref a0] m (fun v m2 => Go X 9 mX12_wealth Q 4 [(0, .ref a0), (1, .int x1)] (v.toList ++ []) m2)) :
    Go X 9 mX12_wealth Q 0 [(0, .ref a0), (1, .int x1)] [] m := by
  refine g_aload_n 0 dX12_wealth_0 rfl rfl ?_
  exact g_callV (As := []) (st := []) dX12_wealth_1 clX12_389 c0 rfl rfl (Nat.le_of_ble_eq_true rfl) (rmSH (by decide) (by decide)) h1
theorem bX12_wealth_4 {X : pX} {Q : Option Value → pMem → Prop} {m : pMem} {a0 : Nat} {x1 : Int32} {xs0 : Int32} (hW : Wf m) (c0 : SH[a0]? = some (.inl 12))
    (h1 : xs0 = 0 → Q (some (.int (-1 : Int32))) m)
    (h2 : ¬ (xs0 = 0) → Cl X 0 mX12_in [.long x1.toInt64, .long (0 : Int64), .long (100 : Int64)] m (fun v m2 => Go X 9 mX12_wealth Q 16 [(0, .ref a0), (1, .int x1)] (v.toList ++ []) m2)) :
    Go X 9 mX12_wealth Q 4 [(0, .ref a0), (1, .int x1)] [.int xs0] m := by
  refine g_if_eq 19 dX12_wealth_4 (by decide) (fun q1 => ?_) (fun q1 => ?_)
  · refine g_iconst (v := -1) dX12_wealth_19 (by decide) ?_
    exact g_iret dX12_wealth_20 rfl enSH (h1 q1)
  · refine g_iload_n 1 dX12_wealth_7 rfl rfl ?_
    refine g_i2l dX12_wealth_8 ?_
    refine g_lconst (v := 0) dX12_wealth_9 (by decide) ?_
    refine g_ldc2 (v := 100) dX12_wealth_10 cjX12_407 ?_
    exact g_callS (As := [.long x1.toInt64, .long (0 : Int64), .long (100 : Int64)]) (st := []) dX12_wealth_13 clX12_128 rfl rfl (Nat.le_of_ble_eq_true rfl) (rmSH (by decide) (by decide)) (h2 q1)
theorem bX12_wealth_16 {X : pX} {Q : Option Value → pMem → Prop} {m : pMem} {a0 : Nat} {x1 : Int32} {xs0 : Int32} (hW : Wf m) (c0 : SH[a0]? = some (.inl 12))
    (h1 : ¬ xs0 = 0 → Cl X 2 mX12_keepsAll [.ref a0] m (fun v m2 => Go X 9 mX12_wealth Q 25 [(0, .ref a0), (1, .int x1)] (v.toList ++ []) m2))
    (h2 : xs0 = 0 → Q (some (.int (-1 : Int32))) m) :
    Go X 9 mX12_wealth Q 16 [(0, .ref a0), (1, .int x1)] [.int xs0] m := by
  refine g_if_ne 21 dX12_wealth_16 (by decide) (fun q1 => ?_) (fun q1 => ?_)
  · refine g_aload_n 0 dX12_wealth_21 rfl rfl ?_
    exact g_callV (As := []) (st := []) dX12_wealth_22 clX12_409 c0 rfl rfl (Nat.le_of_ble_eq_true rfl) (rmSH (by decide) (by decide)) (h1 q1)
  · refine g_iconst (v := -1) dX12_wealth_19 (by decide) ?_
    exact g_iret dX12_wealth_20 rfl enSH (h2 q1)
theorem bX12_wealth_25 {X : pX} {Q : Option Value → pMem → Prop} {m : pMem} {a0 : Nat} {x1 : Int32} (hW : Wf m) (c0 : SH[a0]? = some (.inl 12))
    (h1 : Cl X 8 mX12_wealthIn [.ref a0, .int x1] m (fun v m2 => Go X 9 mX12_wealth Q 30 [(0, .ref a0), (1, .int x1)] (v.toList ++ []) m2)) :
    Go X 9 mX12_wealth Q 25 [(0, .ref a0), (1, .int x1)] [] m := by
  refine g_aload_n 0 dX12_wealth_25 rfl rfl ?_
  refine g_iload_n 1 dX12_wealth_26 rfl rfl ?_
  exact g_callV (As := [.int x1]) (st := []) dX12_wealth_27 clX12_421 c0 rfl rfl (Nat.le_of_ble_eq_true rfl) (rmSH (by decide) (by decide)) h1
theorem bX12_wealth_30 {X : pX} {Q : Option Value → pMem → Prop} {m : pMem} {a0 : Nat} {x1 : Int32} {xs0 : Int32} (hW : Wf m) (c0 : SH[a0]? = some (.inl 12))
    (h1 : Q (some (.int xs0)) m) :
    Go X 9 mX12_wealth Q 30 [(0, .ref a0), (1, .int x1)] [.int xs0] m := by
  exact g_iret dX12_wealth_30 rfl enSH h1
theorem bX12_daysOf_0 {X : pX} {Q : Option Value → pMem → Prop} {m : pMem} {a0 : Nat} {x1 : Int32} {x2 : Int32} {x3 : Int32} {x4 : Int32} (hW : Wf m) (c0 : SH[a0]? = some (.inl 12))
    (h1 : Go X 0 mX12_daysOf Q 6 [(0, .ref a0), (1, .int x1), (3, .int x3), (4, .int x4), (5, .int (0 : Int32)), (6, .int x2)] [] m) :
    Go X 0 mX12_daysOf Q 0 [(0, .ref a0), (1, .int x1), (2, .int x2), (3, .int x3), (4, .int x4)] [] m := by
  refine g_iconst (v := 0) dX12_daysOf_0 (by decide) ?_
  refine g_istore (ls2 := [(5, .int (0 : Int32)), (0, .ref a0), (1, .int x1), (2, .int x2), (3, .int x3), (4, .int x4)]) dX12_daysOf_1 (by decide) rfl ?_
  refine g_iload_n 3 dX12_daysOf_3 rfl rfl ?_
  refine g_istore (ls2 := [(6, .int x2), (5, .int (0 : Int32)), (0, .ref a0), (1, .int x1), (2, .int x2), (3, .int x3), (4, .int x4)]) dX12_daysOf_4 (by decide) rfl ?_
  exact g_ls [2, 3, 5, 6, 1, 0] rfl h1
theorem bX12_daysOf_6 {X : pX} {Q : Option Value → pMem → Prop} {m : pMem} {a0 : Nat} {x1 : Int32} {x3 : Int32} {x4 : Int32} {x5 : Int32} {x6 : Int32} (hW : Wf m) (c0 : SH[a0]? = some (.inl 12))
    (h1 : x3 ≤ x6 → Q (some (.int x5)) m)
    (h2 : ¬ (x3 ≤ x6) → vp_in x6 8)
    (h3 : ¬ (x3 ≤ x6) → vp_in x1 4)
    (h4 : ¬ (x3 ≤ x6) → vp_in x1 4)
    (h5 : ¬ (x3 ≤ x6) → ¬ (mI m (a0 + 6) x1.toNatClampNeg) = 0)
    (h6 : ¬ (x3 ≤ x6) → Go X 0 mX12_daysOf Q 6 [(0, .ref a0), (1, .int x1), (3, .int x3), (4, .int x4), (5, .int (x5 + (((((mI m (a0 + 5) x6.toNatClampNeg) + x4) + (mI m (a0 + 6) x1.toNatClampNeg)) - (1 : Int32)) / (mI m (a0 + 6) x1.toNatClampNeg)))), (6, .int (x6 + (1 : Int32)))] [] m) :
    Go X 0 mX12_daysOf Q 6 [(0, .ref a0), (1, .int x1), (3, .int x3), (4, .int x4), (5, .int x5), (6, .int x6)] [] m := by
  refine g_iload 5 dX12_daysOf_6 rfl ?_
  refine g_iload_n 2 dX12_daysOf_8 rfl rfl ?_
  refine g_icmp_ge 49 dX12_daysOf_9 (by decide) (fun q1 => ?_) (fun q1 => ?_)
  · refine g_iload 4 dX12_daysOf_49 rfl ?_
    exact g_iret dX12_daysOf_51 rfl enSH (h1 q1)
  · refine g_iload 4 dX12_daysOf_12 rfl ?_
    refine g_aload_n 0 dX12_daysOf_14 rfl rfl ?_
    refine g_getR dX12_daysOf_15 fl12_22 rfl c0 (w12_5 hW c0) ?_
    refine g_iload 5 dX12_daysOf_18 rfl ?_
    refine g_iald (j := x6.toNatClampNeg) dX12_daysOf_20 (s12_5 c0) (h2 q1) rfl ?_
    refine g_iload 3 dX12_daysOf_21 rfl ?_
    refine g_iadd dX12_daysOf_23 ?_
    refine g_aload_n 0 dX12_daysOf_24 rfl rfl ?_
    refine g_getR dX12_daysOf_25 fl12_25 rfl c0 (w12_6 hW c0) ?_
    refine g_iload_n 1 dX12_daysOf_28 rfl rfl ?_
    refine g_iald (j := x1.toNatClampNeg) dX12_daysOf_29 (s12_6 c0) (h3 q1) rfl ?_
    refine g_iadd dX12_daysOf_30 ?_
    refine g_iconst (v := 1) dX12_daysOf_31 (by decide) ?_
    refine g_isub dX12_daysOf_32 ?_
    refine g_aload_n 0 dX12_daysOf_33 rfl rfl ?_
    refine g_getR dX12_daysOf_34 fl12_25 rfl c0 (w12_6 hW c0) ?_
    refine g_iload_n 1 dX12_daysOf_37 rfl rfl ?_
    refine g_iald (j := x1.toNatClampNeg) dX12_daysOf_38 (s12_6 c0) (h4 q1) rfl ?_
    refine g_idiv dX12_daysOf_39 (h5 q1) ?_
    refine g_iadd dX12_daysOf_40 ?_
    refine g_istore (ls2 := [(5, .int (x5 + (((((mI m (a0 + 5) x6.toNatClampNeg) + x4) + (mI m (a0 + 6) x1.toNatClampNeg)) - (1 : Int32)) / (mI m (a0 + 6) x1.toNatClampNeg)))), (0, .ref a0), (1, .int x1), (3, .int x3), (4, .int x4), (6, .int x6)]) dX12_daysOf_41 (by decide) rfl ?_
    refine g_iinc (v := x6 + (1 : Int32)) (ls2 := [(6, .int (x6 + (1 : Int32))), (5, .int (x5 + (((((mI m (a0 + 5) x6.toNatClampNeg) + x4) + (mI m (a0 + 6) x1.toNatClampNeg)) - (1 : Int32)) / (mI m (a0 + 6) x1.toNatClampNeg)))), (0, .ref a0), (1, .int x1), (3, .int x3), (4, .int x4)]) 5 dX12_daysOf_43 rfl rfl (by decide) rfl ?_
    refine g_goto 6 dX12_daysOf_46 (by decide) ?_
    exact g_ls [2, 3, 4, 5, 1, 0] rfl (h6 q1)
theorem bX12_daysHome_0 {X : pX} {Q : Option Value → pMem → Prop} {m : pMem} {a0 : Nat} {x1 : Int32} {x2 : Int32} (hW : Wf m) (c0 : SH[a0]? = some (.inl 12))
    (h1 : vp_in x1 4)
    (h2 : Cl X 0 mX12_town [.ref a0] m (fun v m2 => Go X 2 mX12_daysHome Q 12 [(0, .ref a0), (1, .int x1), (2, .int x2)] (v.toList ++ [.int (mI m (a0 + 2) x1.toNatClampNeg), .int x1, .ref a0]) m2)) :
    Go X 2 mX12_daysHome Q 0 [(0, .ref a0), (1, .int x1), (2, .int x2)] [] m := by
  refine g_aload_n 0 dX12_daysHome_0 rfl rfl ?_
  refine g_iload_n 1 dX12_daysHome_1 rfl rfl ?_
  refine g_aload_n 0 dX12_daysHome_2 rfl rfl ?_
  refine g_getR dX12_daysHome_3 fl12_13 rfl c0 (w12_2 hW c0) ?_
  refine g_iload_n 1 dX12_daysHome_6 rfl rfl ?_
  refine g_iald (j := x1.toNatClampNeg) dX12_daysHome_7 (s12_2 c0) h1 rfl ?_
  refine g_aload_n 0 dX12_daysHome_8 rfl rfl ?_
  exact g_callV (As := []) (st := [.int (mI m (a0 + 2) x1.toNatClampNeg), .int x1, .ref a0]) dX12_daysHome_9 clX12_352 c0 rfl rfl (Nat.le_of_ble_eq_true rfl) (rmSH (by decide) (by decide)) h2
theorem bX12_daysHome_12 {X : pX} {Q : Option Value → pMem → Prop} {m : pMem} {a0 : Nat} {x1 : Int32} {x2 : Int32} {xs0 : Int32} {xs1 : Int32} {xs2 : Int32} {as3 : Nat} (hW : Wf m) (c0 : SH[a0]? = some (.inl 12)) (cs3 : SH[as3]? = some (.inl 12))
    (h1 : Cl X 1 mX12_weightOf [.ref a0, .int x2] m (fun v m2 => Go X 2 mX12_daysHome Q 17 [(0, .ref a0), (1, .int x1), (2, .int x2)] (v.toList ++ [.int xs0, .int xs1, .int xs2, .ref as3]) m2)) :
    Go X 2 mX12_daysHome Q 12 [(0, .ref a0), (1, .int x1), (2, .int x2)] [.int xs0, .int xs1, .int xs2, .ref as3] m := by
  refine g_aload_n 0 dX12_daysHome_12 rfl rfl ?_
  refine g_iload_n 2 dX12_daysHome_13 rfl rfl ?_
  exact g_callV (As := [.int x2]) (st := [.int xs0, .int xs1, .int xs2, .ref as3]) dX12_daysHome_14 clX12_341 c0 rfl rfl (Nat.le_of_ble_eq_true rfl) (rmSH (by decide) (by decide)) h1
theorem bX12_daysHome_17 {X : pX} {Q : Option Value → pMem → Prop} {m : pMem} {a0 : Nat} {x1 : Int32} {x2 : Int32} {xs0 : Int32} {xs1 : Int32} {xs2 : Int32} {xs3 : Int32} {as4 : Nat} (hW : Wf m) (c0 : SH[a0]? = some (.inl 12)) (cs4 : SH[as4]? = some (.inl 12))
    (h1 : Cl X 0 mX12_daysOf [.ref as4, .int xs3, .int xs2, .int xs1, .int xs0] m (fun v m2 => Go X 2 mX12_daysHome Q 20 [(0, .ref a0), (1, .int x1), (2, .int x2)] (v.toList ++ []) m2)) :
    Go X 2 mX12_daysHome Q 17 [(0, .ref a0), (1, .int x1), (2, .int x2)] [.int xs0, .int xs1, .int xs2, .int xs3, .ref as4] m := by
  exact g_callV (As := [.int xs3, .int xs2, .int xs1, .int xs0]) (st := []) dX12_daysHome_17 clX12_424 cs4 rfl rfl (Nat.le_of_ble_eq_true rfl) (rmSH (by decide) (by decide)) h1
theorem bX12_daysHome_20 {X : pX} {Q : Option Value → pMem → Prop} {m : pMem} {a0 : Nat} {x1 : Int32} {x2 : Int32} {xs0 : Int32} (hW : Wf m) (c0 : SH[a0]? = some (.inl 12))
    (h1 : Q (some (.int xs0)) m) :
    Go X 2 mX12_daysHome Q 20 [(0, .ref a0), (1, .int x1), (2, .int x2)] [.int xs0] m := by
  exact g_iret dX12_daysHome_20 rfl enSH h1
theorem bX12_far_0 {X : pX} {Q : Option Value → pMem → Prop} {m : pMem} {a0 : Nat} {x1 : Int32} {x2 : Int32} (hW : Wf m) (c0 : SH[a0]? = some (.inl 12))
    (h1 : Cl X 2 mX12_isAtPlace [.ref a0, .int x1] m (fun v m2 => Go X 3 mX12_far Q 5 [(0, .ref a0), (1, .int x1), (2, .int x2)] (v.toList ++ []) m2)) :
    Go X 3 mX12_far Q 0 [(0, .ref a0), (1, .int x1), (2, .int x2)] [] m := by
  refine g_aload_n 0 dX12_far_0 rfl rfl ?_
  refine g_iload_n 1 dX12_far_1 rfl rfl ?_
  exact g_callV (As := [.int x1]) (st := []) dX12_far_2 clX12_395 c0 rfl rfl (Nat.le_of_ble_eq_true rfl) (rmSH (by decide) (by decide)) h1
theorem bX12_far_5 {X : pX} {Q : Option Value → pMem → Prop} {m : pMem} {a0 : Nat} {x1 : Int32} {x2 : Int32} {xs0 : Int32} (hW : Wf m) (c0 : SH[a0]? = some (.inl 12))
    (h1 : xs0 = 0 → Q (some (.int (-1 : Int32))) m)
    (h2 : ¬ (xs0 = 0) → Cl X 0 mX12_in [.long x2.toInt64, .long (0 : Int64), .long ((((1 : Int32) <<< ((mI m (a0 + 1) 4) &&& 31)) - (1 : Int32)).toInt64)] m (fun v m2 => Go X 3 mX12_far Q 25 [(0, .ref a0), (1, .int x1), (2, .int x2)] (v.toList ++ []) m2)) :
    Go X 3 mX12_far Q 5 [(0, .ref a0), (1, .int x1), (2, .int x2)] [.int xs0] m := by
  refine g_if_eq 41 dX12_far_5 (by decide) (fun q1 => ?_) (fun q1 => ?_)
  · refine g_iconst (v := -1) dX12_far_41 (by decide) ?_
    exact g_iret dX12_far_42 rfl enSH (h1 q1)
  · refine g_iload_n 2 dX12_far_8 rfl rfl ?_
    refine g_i2l dX12_far_9 ?_
    refine g_lconst (v := 0) dX12_far_10 (by decide) ?_
    refine g_iconst (v := 1) dX12_far_11 (by decide) ?_
    refine g_aload_n 0 dX12_far_12 rfl rfl ?_
    refine g_getR dX12_far_13 fl12_9 rfl c0 (w12_1 hW c0) ?_
    refine g_iconst (v := 4) dX12_far_16 (by decide) ?_
    refine g_iald (j := 4) dX12_far_17 (s12_1 c0) (by unfold vp_in; decide) (by decide) ?_
    refine g_ishl dX12_far_18 ?_
    refine g_iconst (v := 1) dX12_far_19 (by decide) ?_
    refine g_isub dX12_far_20 ?_
    refine g_i2l dX12_far_21 ?_
    exact g_callS (As := [.long x2.toInt64, .long (0 : Int64), .long ((((1 : Int32) <<< ((mI m (a0 + 1) 4) &&& 31)) - (1 : Int32)).toInt64)]) (st := []) dX12_far_22 clX12_128 rfl rfl (Nat.le_of_ble_eq_true rfl) (rmSH (by decide) (by decide)) (h2 q1)
theorem bX12_far_25 {X : pX} {Q : Option Value → pMem → Prop} {m : pMem} {a0 : Nat} {x1 : Int32} {x2 : Int32} {xs0 : Int32} (hW : Wf m) (c0 : SH[a0]? = some (.inl 12))
    (h1 : xs0 = 0 → Q (some (.int (-1 : Int32))) m)
    (h2 : ¬ (xs0 = 0) → Cl X 0 mX12_bits [.int x2] m (fun v m2 => Go X 3 mX12_far Q 32 [(0, .ref a0), (1, .int x1), (2, .int x2)] (v.toList ++ []) m2)) :
    Go X 3 mX12_far Q 25 [(0, .ref a0), (1, .int x1), (2, .int x2)] [.int xs0] m := by
  refine g_if_eq 41 dX12_far_25 (by decide) (fun q1 => ?_) (fun q1 => ?_)
  · refine g_iconst (v := -1) dX12_far_41 (by decide) ?_
    exact g_iret dX12_far_42 rfl enSH (h1 q1)
  · refine g_iload_n 2 dX12_far_28 rfl rfl ?_
    exact g_callS (As := [.int x2]) (st := []) dX12_far_29 clX12_355 rfl rfl (Nat.le_of_ble_eq_true rfl) (rmSH (by decide) (by decide)) (h2 q1)
theorem bX12_far_32 {X : pX} {Q : Option Value → pMem → Prop} {m : pMem} {a0 : Nat} {x1 : Int32} {x2 : Int32} {xs0 : Int32} (hW : Wf m) (c0 : SH[a0]? = some (.inl 12))
    (h1 : xs0 ≤ (mI m (a0 + 1) 1) → Cl X 2 mX12_daysHome [.ref a0, .int x1, .int x2] m (fun v m2 => Go X 3 mX12_far Q 49 [(0, .ref a0), (1, .int x1), (2, .int x2)] (v.toList ++ []) m2))
    (h2 : ¬ (xs0 ≤ (mI m (a0 + 1) 1)) → Q (some (.int (-1 : Int32))) m) :
    Go X 3 mX12_far Q 32 [(0, .ref a0), (1, .int x1), (2, .int x2)] [.int xs0] m := by
  refine g_aload_n 0 dX12_far_32 rfl rfl ?_
  refine g_getR dX12_far_33 fl12_9 rfl c0 (w12_1 hW c0) ?_
  refine g_iconst (v := 1) dX12_far_36 (by decide) ?_
  refine g_iald (j := 1) dX12_far_37 (s12_1 c0) (by unfold vp_in; decide) (by decide) ?_
  refine g_icmp_le 43 dX12_far_38 (by decide) (fun q1 => ?_) (fun q1 => ?_)
  · refine g_aload_n 0 dX12_far_43 rfl rfl ?_
    refine g_iload_n 1 dX12_far_44 rfl rfl ?_
    refine g_iload_n 2 dX12_far_45 rfl rfl ?_
    exact g_callV (As := [.int x1, .int x2]) (st := []) dX12_far_46 clX12_428 c0 rfl rfl (Nat.le_of_ble_eq_true rfl) (rmSH (by decide) (by decide)) (h1 q1)
  · refine g_iconst (v := -1) dX12_far_41 (by decide) ?_
    exact g_iret dX12_far_42 rfl enSH (h2 q1)
theorem bX12_far_49 {X : pX} {Q : Option Value → pMem → Prop} {m : pMem} {a0 : Nat} {x1 : Int32} {x2 : Int32} {xs0 : Int32} (hW : Wf m) (c0 : SH[a0]? = some (.inl 12))
    (h1 : Q (some (.int xs0)) m) :
    Go X 3 mX12_far Q 49 [(0, .ref a0), (1, .int x1), (2, .int x2)] [.int xs0] m := by
  exact g_iret dX12_far_49 rfl enSH h1
theorem bX12_load_0 {X : pX} {Q : Option Value → pMem → Prop} {m : pMem} {a0 : Nat} {x1 : Int32} {x2 : Int32} {x3 : Int32} (hW : Wf m) (c0 : SH[a0]? = some (.inl 12))
    (h1 : Cl X 2 mX12_isAtPlace [.ref a0, .int x1] m (fun v m2 => Go X 3 mX12_load Q 5 [(0, .ref a0), (1, .int x1), (2, .int x2), (3, .int x3)] (v.toList ++ []) m2)) :
    Go X 3 mX12_load Q 0 [(0, .ref a0), (1, .int x1), (2, .int x2), (3, .int x3)] [] m := by
  refine g_aload_n 0 dX12_load_0 rfl rfl ?_
  refine g_iload_n 1 dX12_load_1 rfl rfl ?_
  exact g_callV (As := [.int x1]) (st := []) dX12_load_2 clX12_395 c0 rfl rfl (Nat.le_of_ble_eq_true rfl) (rmSH (by decide) (by decide)) h1
theorem bX12_load_5 {X : pX} {Q : Option Value → pMem → Prop} {m : pMem} {a0 : Nat} {x1 : Int32} {x2 : Int32} {x3 : Int32} {xs0 : Int32} (hW : Wf m) (c0 : SH[a0]? = some (.inl 12))
    (h1 : xs0 = 0 → Q (some (.int (-1 : Int32))) m)
    (h2 : ¬ (xs0 = 0) → Cl X 0 mX12_in [.long x2.toInt64, .long (1 : Int64), .long (60 : Int64)] m (fun v m2 => Go X 3 mX12_load Q 17 [(0, .ref a0), (1, .int x1), (2, .int x2), (3, .int x3)] (v.toList ++ []) m2)) :
    Go X 3 mX12_load Q 5 [(0, .ref a0), (1, .int x1), (2, .int x2), (3, .int x3)] [.int xs0] m := by
  refine g_if_eq 32 dX12_load_5 (by decide) (fun q1 => ?_) (fun q1 => ?_)
  · refine g_iconst (v := -1) dX12_load_32 (by decide) ?_
    exact g_iret dX12_load_33 rfl enSH (h1 q1)
  · refine g_iload_n 2 dX12_load_8 rfl rfl ?_
    refine g_i2l dX12_load_9 ?_
    refine g_lconst (v := 1) dX12_load_10 (by decide) ?_
    refine g_ldc2 (v := 60) dX12_load_11 cjX12_431 ?_
    exact g_callS (As := [.long x2.toInt64, .long (1 : Int64), .long (60 : Int64)]) (st := []) dX12_load_14 clX12_128 rfl rfl (Nat.le_of_ble_eq_true rfl) (rmSH (by decide) (by decide)) (h2 q1)
theorem bX12_load_17 {X : pX} {Q : Option Value → pMem → Prop} {m : pMem} {a0 : Nat} {x1 : Int32} {x2 : Int32} {x3 : Int32} {xs0 : Int32} (hW : Wf m) (c0 : SH[a0]? = some (.inl 12))
    (h1 : xs0 = 0 → Q (some (.int (-1 : Int32))) m)
    (h2 : ¬ (xs0 = 0) → Cl X 0 mX12_in [.long x3.toInt64, .long (0 : Int64), .long (2 : Int64)] m (fun v m2 => Go X 3 mX12_load Q 29 [(0, .ref a0), (1, .int x1), (2, .int x2), (3, .int x3)] (v.toList ++ []) m2)) :
    Go X 3 mX12_load Q 17 [(0, .ref a0), (1, .int x1), (2, .int x2), (3, .int x3)] [.int xs0] m := by
  refine g_if_eq 32 dX12_load_17 (by decide) (fun q1 => ?_) (fun q1 => ?_)
  · refine g_iconst (v := -1) dX12_load_32 (by decide) ?_
    exact g_iret dX12_load_33 rfl enSH (h1 q1)
  · refine g_iload_n 3 dX12_load_20 rfl rfl ?_
    refine g_i2l dX12_load_21 ?_
    refine g_lconst (v := 0) dX12_load_22 (by decide) ?_
    refine g_ldc2 (v := 2) dX12_load_23 cjX12_350 ?_
    exact g_callS (As := [.long x3.toInt64, .long (0 : Int64), .long (2 : Int64)]) (st := []) dX12_load_26 clX12_128 rfl rfl (Nat.le_of_ble_eq_true rfl) (rmSH (by decide) (by decide)) (h2 q1)
theorem bX12_load_29 {X : pX} {Q : Option Value → pMem → Prop} {m : pMem} {a0 : Nat} {x1 : Int32} {x2 : Int32} {x3 : Int32} {xs0 : Int32} (hW : Wf m) (c0 : SH[a0]? = some (.inl 12))
    (h1 : ¬ xs0 = 0 → Cl X 0 mX12_thingsOf [.ref a0, .int x1] m (fun v m2 => Go X 3 mX12_load Q 39 [(0, .ref a0), (1, .int x1), (2, .int x2), (3, .int x3)] (v.toList ++ []) m2))
    (h2 : xs0 = 0 → Q (some (.int (-1 : Int32))) m) :
    Go X 3 mX12_load Q 29 [(0, .ref a0), (1, .int x1), (2, .int x2), (3, .int x3)] [.int xs0] m := by
  refine g_if_ne 34 dX12_load_29 (by decide) (fun q1 => ?_) (fun q1 => ?_)
  · refine g_aload_n 0 dX12_load_34 rfl rfl ?_
    refine g_iload_n 1 dX12_load_35 rfl rfl ?_
    exact g_callV (As := [.int x1]) (st := []) dX12_load_36 clX12_338 c0 rfl rfl (Nat.le_of_ble_eq_true rfl) (rmSH (by decide) (by decide)) (h1 q1)
  · refine g_iconst (v := -1) dX12_load_32 (by decide) ?_
    exact g_iret dX12_load_33 rfl enSH (h2 q1)
theorem bX12_load_39 {X : pX} {Q : Option Value → pMem → Prop} {m : pMem} {a0 : Nat} {x1 : Int32} {x2 : Int32} {x3 : Int32} {xs0 : Int32} (hW : Wf m) (c0 : SH[a0]? = some (.inl 12))
    (h1 : vp_in x1 4)
    (h2 : Cl X 0 mX12_thingsOf [.ref a0, .int ((10 : Int32) + (mI m (a0 + 2) x1.toNatClampNeg))] m (fun v m2 => Go X 3 mX12_load Q 52 [(0, .ref a0), (1, .int x1), (2, .int x2), (3, .int x3)] (v.toList ++ [.int xs0]) m2)) :
    Go X 3 mX12_load Q 39 [(0, .ref a0), (1, .int x1), (2, .int x2), (3, .int x3)] [.int xs0] m := by
  refine g_aload_n 0 dX12_load_39 rfl rfl ?_
  refine g_bipush (v := 10) dX12_load_40 (by decide) ?_
  refine g_aload_n 0 dX12_load_42 rfl rfl ?_
  refine g_getR dX12_load_43 fl12_13 rfl c0 (w12_2 hW c0) ?_
  refine g_iload_n 1 dX12_load_46 rfl rfl ?_
  refine g_iald (j := x1.toNatClampNeg) dX12_load_47 (s12_2 c0) h1 rfl ?_
  refine g_iadd dX12_load_48 ?_
  exact g_callV (As := [.int ((10 : Int32) + (mI m (a0 + 2) x1.toNatClampNeg))]) (st := [.int xs0]) dX12_load_49 clX12_338 c0 rfl rfl (Nat.le_of_ble_eq_true rfl) (rmSH (by decide) (by decide)) h2
theorem bX12_load_52 {X : pX} {Q : Option Value → pMem → Prop} {m : pMem} {a0 : Nat} {x1 : Int32} {x2 : Int32} {x3 : Int32} {xs0 : Int32} {xs1 : Int32} (hW : Wf m) (c0 : SH[a0]? = some (.inl 12))
    (h1 : Go X 3 mX12_load Q 62 [(0, .ref a0), (1, .int x1), (2, .int x2), (3, .int x3), (4, .int (xs1 ||| xs0)), (5, .int (-2 : Int32)), (6, .int (0 : Int32))] [] m) :
    Go X 3 mX12_load Q 52 [(0, .ref a0), (1, .int x1), (2, .int x2), (3, .int x3)] [.int xs0, .int xs1] m := by
  refine g_ior dX12_load_52 ?_
  refine g_istore (ls2 := [(4, .int (xs1 ||| xs0)), (0, .ref a0), (1, .int x1), (2, .int x2), (3, .int x3)]) dX12_load_53 (by decide) rfl ?_
  refine g_bipush (v := -2) dX12_load_55 (by decide) ?_
  refine g_istore (ls2 := [(5, .int (-2 : Int32)), (4, .int (xs1 ||| xs0)), (0, .ref a0), (1, .int x1), (2, .int x2), (3, .int x3)]) dX12_load_57 (by decide) rfl ?_
  refine g_iconst (v := 0) dX12_load_59 (by decide) ?_
  refine g_istore (ls2 := [(6, .int (0 : Int32)), (5, .int (-2 : Int32)), (4, .int (xs1 ||| xs0)), (0, .ref a0), (1, .int x1), (2, .int x2), (3, .int x3)]) dX12_load_60 (by decide) rfl ?_
  exact g_ls [3, 4, 5, 6, 2, 1, 0] rfl h1
theorem bX12_load_62 {X : pX} {Q : Option Value → pMem → Prop} {m : pMem} {a0 : Nat} {x1 : Int32} {x2 : Int32} {x3 : Int32} {x4 : Int32} {x5 : Int32} {x6 : Int32} (hW : Wf m) (c0 : SH[a0]? = some (.inl 12))
    (h1 : ((1 : Int32) <<< ((mI m (a0 + 1) 4) &&& 31)) ≤ x6 → x5 = (-2 : Int32) → Q (some (.int x5)) m)
    (h2 : ((1 : Int32) <<< ((mI m (a0 + 1) 4) &&& 31)) ≤ x6 → ¬ (x5 = (-2 : Int32)) → ¬ x3 = 0 → ¬ x3 = (1 : Int32) → Cl X 2 mX12_daysHome [.ref a0, .int x1, .int x5] m (fun v m2 => Go X 3 mX12_load Q 215 [(0, .ref a0), (1, .int x1), (2, .int x2), (3, .int x3), (4, .int x4), (5, .int x5), (6, .int x6)] (v.toList ++ []) m2))
    (h3 : ((1 : Int32) <<< ((mI m (a0 + 1) 4) &&& 31)) ≤ x6 → ¬ (x5 = (-2 : Int32)) → ¬ x3 = 0 → x3 = (1 : Int32) → Cl X 1 mX12_worthOf [.ref a0, .int x5] m (fun v m2 => Go X 3 mX12_load Q 205 [(0, .ref a0), (1, .int x1), (2, .int x2), (3, .int x3), (4, .int x4), (5, .int x5), (6, .int x6)] (v.toList ++ []) m2))
    (h4 : ((1 : Int32) <<< ((mI m (a0 + 1) 4) &&& 31)) ≤ x6 → ¬ (x5 = (-2 : Int32)) → x3 = 0 → Q (some (.int x5)) m)
    (h5 : ¬ (((1 : Int32) <<< ((mI m (a0 + 1) 4) &&& 31)) ≤ x6) → ¬ (x6 &&& (x4 ^^^ (-1 : Int32))) = 0 → Go X 3 mX12_load Q 62 [(0, .ref a0), (1, .int x1), (2, .int x2), (3, .int x3), (4, .int x4), (5, .int x5), (6, .int (x6 + (1 : Int32)))] [] m)
    (h6 : ¬ (((1 : Int32) <<< ((mI m (a0 + 1) 4) &&& 31)) ≤ x6) → (x6 &&& (x4 ^^^ (-1 : Int32))) = 0 → Cl X 0 mX12_bits [.int x6] m (fun v m2 => Go X 3 mX12_load Q 90 [(0, .ref a0), (1, .int x1), (2, .int x2), (3, .int x3), (4, .int x4), (5, .int x5), (6, .int x6)] (v.toList ++ []) m2)) :
    Go X 3 mX12_load Q 62 [(0, .ref a0), (1, .int x1), (2, .int x2), (3, .int x3), (4, .int x4), (5, .int x5), (6, .int x6)] [] m := by
  refine g_iload 6 dX12_load_62 rfl ?_
  refine g_iconst (v := 1) dX12_load_64 (by decide) ?_
  refine g_aload_n 0 dX12_load_65 rfl rfl ?_
  refine g_getR dX12_load_66 fl12_9 rfl c0 (w12_1 hW c0) ?_
  refine g_iconst (v := 4) dX12_load_69 (by decide) ?_
  refine g_iald (j := 4) dX12_load_70 (s12_1 c0) (by unfold vp_in; decide) (by decide) ?_
  refine g_ishl dX12_load_71 ?_
  refine g_icmp_ge 178 dX12_load_72 (by decide) (fun q1 => ?_) (fun q1 => ?_)
  · refine g_iload 5 dX12_load_178 rfl ?_
    refine g_bipush (v := -2) dX12_load_180 (by decide) ?_
    refine g_icmp_eq 189 dX12_load_182 (by decide) (fun q2 => ?_) (fun q2 => ?_)
    · refine g_iload 5 dX12_load_189 rfl ?_
      refine g_goto 215 dX12_load_191 (by decide) ?_
      exact g_iret dX12_load_215 rfl enSH (h1 q1 q2)
    · refine g_iload_n 3 dX12_load_185 rfl rfl ?_
      refine g_if_ne 194 dX12_load_186 (by decide) (fun q3 => ?_) (fun q3 => ?_)
      · refine g_iload_n 3 dX12_load_194 rfl rfl ?_
        refine g_iconst (v := 1) dX12_load_195 (by decide) ?_
        refine g_icmp_ne 208 dX12_load_196 (by decide) (fun q4 => ?_) (fun q4 => ?_)
        · refine g_aload_n 0 dX12_load_208 rfl rfl ?_
          refine g_iload_n 1 dX12_load_209 rfl rfl ?_
          refine g_iload 5 dX12_load_210 rfl ?_
          exact g_callV (As := [.int x1, .int x5]) (st := []) dX12_load_212 clX12_428 c0 rfl rfl (Nat.le_of_ble_eq_true rfl) (rmSH (by decide) (by decide)) (h2 q1 q2 q3 q4)
        · refine g_aload_n 0 dX12_load_199 rfl rfl ?_
          refine g_iload 5 dX12_load_200 rfl ?_
          exact g_callV (As := [.int x5]) (st := []) dX12_load_202 clX12_344 c0 rfl rfl (Nat.le_of_ble_eq_true rfl) (rmSH (by decide) (by decide)) (h3 q1 q2 q3 q4)
      · refine g_iload 5 dX12_load_189 rfl ?_
        refine g_goto 215 dX12_load_191 (by decide) ?_
        exact g_iret dX12_load_215 rfl enSH (h4 q1 q2 q3)
  · refine g_iload 6 dX12_load_75 rfl ?_
    refine g_iload 4 dX12_load_77 rfl ?_
    refine g_iconst (v := -1) dX12_load_79 (by decide) ?_
    refine g_ixor dX12_load_80 ?_
    refine g_iand dX12_load_81 ?_
    refine g_if_ne 172 dX12_load_82 (by decide) (fun q5 => ?_) (fun q5 => ?_)
    · refine g_iinc (v := x6 + (1 : Int32)) (ls2 := [(6, .int (x6 + (1 : Int32))), (0, .ref a0), (1, .int x1), (2, .int x2), (3, .int x3), (4, .int x4), (5, .int x5)]) 6 dX12_load_172 rfl rfl (by decide) rfl ?_
      refine g_goto 62 dX12_load_175 (by decide) ?_
      exact g_ls [1, 2, 3, 4, 5, 6, 0] rfl (h5 q1 q5)
    · refine g_iload 6 dX12_load_85 rfl ?_
      exact g_callS (As := [.int x6]) (st := []) dX12_load_87 clX12_355 rfl rfl (Nat.le_of_ble_eq_true rfl) (rmSH (by decide) (by decide)) (h6 q1 q5)
theorem bX12_load_215 {X : pX} {Q : Option Value → pMem → Prop} {m : pMem} {a0 : Nat} {x1 : Int32} {x2 : Int32} {x3 : Int32} {x4 : Int32} {x5 : Int32} {x6 : Int32} {xs0 : Int32} (hW : Wf m) (c0 : SH[a0]? = some (.inl 12))
    (h1 : Q (some (.int xs0)) m) :
    Go X 3 mX12_load Q 215 [(0, .ref a0), (1, .int x1), (2, .int x2), (3, .int x3), (4, .int x4), (5, .int x5), (6, .int x6)] [.int xs0] m := by
  exact g_iret dX12_load_215 rfl enSH h1
theorem bX12_load_205 {X : pX} {Q : Option Value → pMem → Prop} {m : pMem} {a0 : Nat} {x1 : Int32} {x2 : Int32} {x3 : Int32} {x4 : Int32} {x5 : Int32} {x6 : Int32} {xs0 : Int32} (hW : Wf m) (c0 : SH[a0]? = some (.inl 12))
    (h1 : Q (some (.int xs0)) m) :
    Go X 3 mX12_load Q 205 [(0, .ref a0), (1, .int x1), (2, .int x2), (3, .int x3), (4, .int x4), (5, .int x5), (6, .int x6)] [.int xs0] m := by
  refine g_goto 215 dX12_load_205 (by decide) ?_
  exact g_iret dX12_load_215 rfl enSH h1
theorem bX12_load_90 {X : pX} {Q : Option Value → pMem → Prop} {m : pMem} {a0 : Nat} {x1 : Int32} {x2 : Int32} {x3 : Int32} {x4 : Int32} {x5 : Int32} {x6 : Int32} {xs0 : Int32} (hW : Wf m) (c0 : SH[a0]? = some (.inl 12))
    (h1 : (mI m (a0 + 1) 1) < xs0 → Go X 3 mX12_load Q 62 [(0, .ref a0), (1, .int x1), (2, .int x2), (3, .int x3), (4, .int x4), (5, .int x5), (6, .int (x6 + (1 : Int32)))] [] m)
    (h2 : ¬ ((mI m (a0 + 1) 1) < xs0) → Cl X 2 mX12_daysHome [.ref a0, .int x1, .int x6] m (fun v m2 => Go X 3 mX12_load Q 106 [(0, .ref a0), (1, .int x1), (2, .int x2), (3, .int x3), (4, .int x4), (5, .int x5), (6, .int x6)] (v.toList ++ []) m2)) :
    Go X 3 mX12_load Q 90 [(0, .ref a0), (1, .int x1), (2, .int x2), (3, .int x3), (4, .int x4), (5, .int x5), (6, .int x6)] [.int xs0] m := by
  refine g_aload_n 0 dX12_load_90 rfl rfl ?_
  refine g_getR dX12_load_91 fl12_9 rfl c0 (w12_1 hW c0) ?_
  refine g_iconst (v := 1) dX12_load_94 (by decide) ?_
  refine g_iald (j := 1) dX12_load_95 (s12_1 c0) (by unfold vp_in; decide) (by decide) ?_
  refine g_icmp_gt 172 dX12_load_96 (by decide) (fun q1 => ?_) (fun q1 => ?_)
  · refine g_iinc (v := x6 + (1 : Int32)) (ls2 := [(6, .int (x6 + (1 : Int32))), (0, .ref a0), (1, .int x1), (2, .int x2), (3, .int x3), (4, .int x4), (5, .int x5)]) 6 dX12_load_172 rfl rfl (by decide) rfl ?_
    refine g_goto 62 dX12_load_175 (by decide) ?_
    exact g_ls [1, 2, 3, 4, 5, 6, 0] rfl (h1 q1)
  · refine g_aload_n 0 dX12_load_99 rfl rfl ?_
    refine g_iload_n 1 dX12_load_100 rfl rfl ?_
    refine g_iload 6 dX12_load_101 rfl ?_
    exact g_callV (As := [.int x1, .int x6]) (st := []) dX12_load_103 clX12_428 c0 rfl rfl (Nat.le_of_ble_eq_true rfl) (rmSH (by decide) (by decide)) (h2 q1)
theorem bX12_load_106 {X : pX} {Q : Option Value → pMem → Prop} {m : pMem} {a0 : Nat} {x1 : Int32} {x2 : Int32} {x3 : Int32} {x4 : Int32} {x5 : Int32} {x6 : Int32} {xs0 : Int32} (hW : Wf m) (c0 : SH[a0]? = some (.inl 12))
    (h1 : x2 < xs0 → Go X 3 mX12_load Q 62 [(0, .ref a0), (1, .int x1), (2, .int x2), (3, .int x3), (4, .int x4), (5, .int x5), (6, .int (x6 + (1 : Int32)))] [] m)
    (h2 : ¬ (x2 < xs0) → ¬ x5 = (-2 : Int32) → Cl X 1 mX12_worthOf [.ref a0, .int x6] m (fun v m2 => Go X 3 mX12_load Q 127 [(0, .ref a0), (1, .int x1), (2, .int x2), (3, .int x3), (4, .int x4), (5, .int x5), (6, .int x6)] (v.toList ++ []) m2))
    (h3 : ¬ (x2 < xs0) → x5 = (-2 : Int32) → Go X 3 mX12_load Q 134 [(0, .ref a0), (1, .int x1), (2, .int x2), (3, .int x3), (4, .int x4), (5, .int x5), (6, .int x6)] [.int (1 : Int32)] m) :
    Go X 3 mX12_load Q 106 [(0, .ref a0), (1, .int x1), (2, .int x2), (3, .int x3), (4, .int x4), (5, .int x5), (6, .int x6)] [.int xs0] m := by
  refine g_iload_n 2 dX12_load_106 rfl rfl ?_
  refine g_icmp_gt 172 dX12_load_107 (by decide) (fun q1 => ?_) (fun q1 => ?_)
  · refine g_iinc (v := x6 + (1 : Int32)) (ls2 := [(6, .int (x6 + (1 : Int32))), (0, .ref a0), (1, .int x1), (2, .int x2), (3, .int x3), (4, .int x4), (5, .int x5)]) 6 dX12_load_172 rfl rfl (by decide) rfl ?_
    refine g_goto 62 dX12_load_175 (by decide) ?_
    exact g_ls [1, 2, 3, 4, 5, 6, 0] rfl (h1 q1)
  · refine g_iload 5 dX12_load_110 rfl ?_
    refine g_bipush (v := -2) dX12_load_112 (by decide) ?_
    refine g_icmp_ne 121 dX12_load_114 (by decide) (fun q2 => ?_) (fun q2 => ?_)
    · refine g_aload_n 0 dX12_load_121 rfl rfl ?_
      refine g_iload 6 dX12_load_122 rfl ?_
      exact g_callV (As := [.int x6]) (st := []) dX12_load_124 clX12_344 c0 rfl rfl (Nat.le_of_ble_eq_true rfl) (rmSH (by decide) (by decide)) (h2 q1 q2)
    · refine g_iconst (v := 1) dX12_load_117 (by decide) ?_
      refine g_goto 134 dX12_load_118 (by decide) ?_
      exact g_ls [0, 1, 2, 3, 4, 5, 6] rfl (h3 q1 q2)
theorem bX12_load_127 {X : pX} {Q : Option Value → pMem → Prop} {m : pMem} {a0 : Nat} {x1 : Int32} {x2 : Int32} {x3 : Int32} {x4 : Int32} {x5 : Int32} {x6 : Int32} {xs0 : Int32} (hW : Wf m) (c0 : SH[a0]? = some (.inl 12))
    (h1 : Cl X 1 mX12_worthOf [.ref a0, .int x5] m (fun v m2 => Go X 3 mX12_load Q 133 [(0, .ref a0), (1, .int x1), (2, .int x2), (3, .int x3), (4, .int x4), (5, .int x5), (6, .int x6)] (v.toList ++ [.int xs0]) m2)) :
    Go X 3 mX12_load Q 127 [(0, .ref a0), (1, .int x1), (2, .int x2), (3, .int x3), (4, .int x4), (5, .int x5), (6, .int x6)] [.int xs0] m := by
  refine g_aload_n 0 dX12_load_127 rfl rfl ?_
  refine g_iload 5 dX12_load_128 rfl ?_
  exact g_callV (As := [.int x5]) (st := [.int xs0]) dX12_load_130 clX12_344 c0 rfl rfl (Nat.le_of_ble_eq_true rfl) (rmSH (by decide) (by decide)) h1
theorem bX12_load_134 {X : pX} {Q : Option Value → pMem → Prop} {m : pMem} {a0 : Nat} {x1 : Int32} {x2 : Int32} {x3 : Int32} {x4 : Int32} {x5 : Int32} {x6 : Int32} (hW : Wf m) (c0 : SH[a0]? = some (.inl 12))
    (h1 : 0 < (1 : Int32) → Go X 3 mX12_load Q 62 [(0, .ref a0), (1, .int x1), (2, .int x2), (3, .int x3), (4, .int x4), (5, .int x6), (6, .int (x6 + (1 : Int32)))] [] m)
    (h2 : ¬ (0 < (1 : Int32)) → ¬ (1 : Int32) = 0 → Go X 3 mX12_load Q 62 [(0, .ref a0), (1, .int x1), (2, .int x2), (3, .int x3), (4, .int x4), (5, .int x5), (6, .int (x6 + (1 : Int32)))] [] m)
    (h3 : ¬ (0 < (1 : Int32)) → (1 : Int32) = 0 → Cl X 2 mX12_daysHome [.ref a0, .int x1, .int x6] m (fun v m2 => Go X 3 mX12_load Q 153 [(0, .ref a0), (1, .int x1), (2, .int x2), (3, .int x3), (4, .int x4), (5, .int x5), (6, .int x6), (7, .int (1 : Int32))] (v.toList ++ []) m2)) :
    Go X 3 mX12_load Q 134 [(0, .ref a0), (1, .int x1), (2, .int x2), (3, .int x3), (4, .int x4), (5, .int x5), (6, .int x6)] [.int (1 : Int32)] m := by
  refine g_istore (ls2 := [(7, .int (1 : Int32)), (0, .ref a0), (1, .int x1), (2, .int x2), (3, .int x3), (4, .int x4), (5, .int x5), (6, .int x6)]) dX12_load_134 (by decide) rfl ?_
  refine g_iload 0 dX12_load_136 rfl ?_
  refine g_if_gt 163 dX12_load_138 (by decide) (fun q1 => ?_) (fun q1 => ?_)
  · refine g_iload 7 dX12_load_163 rfl ?_
    refine g_goto 170 dX12_load_165 (by decide) ?_
    refine g_istore (ls2 := [(5, .int x6), (7, .int (1 : Int32)), (0, .ref a0), (1, .int x1), (2, .int x2), (3, .int x3), (4, .int x4), (6, .int x6)]) dX12_load_170 (by decide) rfl ?_
    refine g_iinc (v := x6 + (1 : Int32)) (ls2 := [(6, .int (x6 + (1 : Int32))), (5, .int x6), (7, .int (1 : Int32)), (0, .ref a0), (1, .int x1), (2, .int x2), (3, .int x3), (4, .int x4)]) 7 dX12_load_172 rfl rfl (by decide) rfl ?_
    refine g_goto 62 dX12_load_175 (by decide) ?_
    exact g_ls [3, 4, 5, 6, 7, 1, 0] rfl (h1 q1)
  · refine g_iload 0 dX12_load_141 rfl ?_
    refine g_if_ne 168 dX12_load_143 (by decide) (fun q2 => ?_) (fun q2 => ?_)
    · refine g_iload 6 dX12_load_168 rfl ?_
      refine g_istore (ls2 := [(5, .int x5), (7, .int (1 : Int32)), (0, .ref a0), (1, .int x1), (2, .int x2), (3, .int x3), (4, .int x4), (6, .int x6)]) dX12_load_170 (by decide) rfl ?_
      refine g_iinc (v := x6 + (1 : Int32)) (ls2 := [(6, .int (x6 + (1 : Int32))), (5, .int x5), (7, .int (1 : Int32)), (0, .ref a0), (1, .int x1), (2, .int x2), (3, .int x3), (4, .int x4)]) 7 dX12_load_172 rfl rfl (by decide) rfl ?_
      refine g_goto 62 dX12_load_175 (by decide) ?_
      exact g_ls [3, 4, 5, 6, 7, 1, 0] rfl (h2 q1 q2)
    · refine g_aload_n 1 dX12_load_146 rfl rfl ?_
      refine g_iload_n 2 dX12_load_147 rfl rfl ?_
      refine g_iload 7 dX12_load_148 rfl ?_
      refine g_ls [1, 2, 3, 4, 5, 6, 7, 0] (ls2 := [(0, .ref a0), (1, .int x1), (2, .int x2), (3, .int x3), (4, .int x4), (5, .int x5), (6, .int x6), (7, .int (1 : Int32))]) rfl ?_
      exact g_callV (As := [.int x1, .int x6]) (st := []) dX12_load_150 clX12_428 c0 rfl rfl (Nat.le_of_ble_eq_true rfl) (rmSH (by decide) (by decide)) (h3 q1 q2)
theorem bX12_load_133 {X : pX} {Q : Option Value → pMem → Prop} {m : pMem} {a0 : Nat} {x1 : Int32} {x2 : Int32} {x3 : Int32} {x4 : Int32} {x5 : Int32} {x6 : Int32} {xs0 : Int32} {xs1 : Int32} (hW : Wf m) (c0 : SH[a0]? = some (.inl 12))
    (h1 : Go X 3 mX12_load Q 134 [(0, .ref a0), (1, .int x1), (2, .int x2), (3, .int x3), (4, .int x4), (5, .int x5), (6, .int x6)] [.int (xs1 - xs0)] m) :
    Go X 3 mX12_load Q 133 [(0, .ref a0), (1, .int x1), (2, .int x2), (3, .int x3), (4, .int x4), (5, .int x5), (6, .int x6)] [.int xs0, .int xs1] m := by
  refine g_isub dX12_load_133 ?_
  exact g_ls [0, 1, 2, 3, 4, 5, 6] rfl h1
theorem bX12_load_153 {X : pX} {Q : Option Value → pMem → Prop} {m : pMem} {a0 : Nat} {x1 : Int32} {x2 : Int32} {x3 : Int32} {x4 : Int32} {x5 : Int32} {x6 : Int32} {x7 : Int32} {xs0 : Int32} (hW : Wf m) (c0 : SH[a0]? = some (.inl 12))
    (h1 : Cl X 2 mX12_daysHome [.ref a0, .int x1, .int x5] m (fun v m2 => Go X 3 mX12_load Q 160 [(0, .ref a0), (1, .int x1), (2, .int x2), (3, .int x3), (4, .int x4), (5, .int x5), (6, .int x6), (7, .int x7)] (v.toList ++ [.int xs0]) m2)) :
    Go X 3 mX12_load Q 153 [(0, .ref a0), (1, .int x1), (2, .int x2), (3, .int x3), (4, .int x4), (5, .int x5), (6, .int x6), (7, .int x7)] [.int xs0] m := by
  refine g_aload_n 0 dX12_load_153 rfl rfl ?_
  refine g_iload_n 1 dX12_load_154 rfl rfl ?_
  refine g_iload 5 dX12_load_155 rfl ?_
  exact g_callV (As := [.int x1, .int x5]) (st := [.int xs0]) dX12_load_157 clX12_428 c0 rfl rfl (Nat.le_of_ble_eq_true rfl) (rmSH (by decide) (by decide)) h1
theorem bX12_load_134v1 {X : pX} {Q : Option Value → pMem → Prop} {m : pMem} {a0 : Nat} {x1 : Int32} {x2 : Int32} {x3 : Int32} {x4 : Int32} {x5 : Int32} {x6 : Int32} {xs0 : Int32} (hW : Wf m) (c0 : SH[a0]? = some (.inl 12))
    (h1 : 0 < xs0 → Go X 3 mX12_load Q 62 [(0, .ref a0), (1, .int x1), (2, .int x2), (3, .int x3), (4, .int x4), (5, .int x6), (6, .int (x6 + (1 : Int32)))] [] m)
    (h2 : ¬ (0 < xs0) → ¬ xs0 = 0 → Go X 3 mX12_load Q 62 [(0, .ref a0), (1, .int x1), (2, .int x2), (3, .int x3), (4, .int x4), (5, .int x5), (6, .int (x6 + (1 : Int32)))] [] m)
    (h3 : ¬ (0 < xs0) → xs0 = 0 → Cl X 2 mX12_daysHome [.ref a0, .int x1, .int x6] m (fun v m2 => Go X 3 mX12_load Q 153 [(0, .ref a0), (1, .int x1), (2, .int x2), (3, .int x3), (4, .int x4), (5, .int x5), (6, .int x6), (7, .int xs0)] (v.toList ++ []) m2)) :
    Go X 3 mX12_load Q 134 [(0, .ref a0), (1, .int x1), (2, .int x2), (3, .int x3), (4, .int x4), (5, .int x5), (6, .int x6)] [.int xs0] m := by
  refine g_istore (ls2 := [(7, .int xs0), (0, .ref a0), (1, .int x1), (2, .int x2), (3, .int x3), (4, .int x4), (5, .int x5), (6, .int x6)]) dX12_load_134 (by decide) rfl ?_
  refine g_iload 0 dX12_load_136 rfl ?_
  refine g_if_gt 163 dX12_load_138 (by decide) (fun q1 => ?_) (fun q1 => ?_)
  · refine g_iload 7 dX12_load_163 rfl ?_
    refine g_goto 170 dX12_load_165 (by decide) ?_
    refine g_istore (ls2 := [(5, .int x6), (7, .int xs0), (0, .ref a0), (1, .int x1), (2, .int x2), (3, .int x3), (4, .int x4), (6, .int x6)]) dX12_load_170 (by decide) rfl ?_
    refine g_iinc (v := x6 + (1 : Int32)) (ls2 := [(6, .int (x6 + (1 : Int32))), (5, .int x6), (7, .int xs0), (0, .ref a0), (1, .int x1), (2, .int x2), (3, .int x3), (4, .int x4)]) 7 dX12_load_172 rfl rfl (by decide) rfl ?_
    refine g_goto 62 dX12_load_175 (by decide) ?_
    exact g_ls [3, 4, 5, 6, 7, 1, 0] rfl (h1 q1)
  · refine g_iload 0 dX12_load_141 rfl ?_
    refine g_if_ne 168 dX12_load_143 (by decide) (fun q2 => ?_) (fun q2 => ?_)
    · refine g_iload 6 dX12_load_168 rfl ?_
      refine g_istore (ls2 := [(5, .int x5), (7, .int xs0), (0, .ref a0), (1, .int x1), (2, .int x2), (3, .int x3), (4, .int x4), (6, .int x6)]) dX12_load_170 (by decide) rfl ?_
      refine g_iinc (v := x6 + (1 : Int32)) (ls2 := [(6, .int (x6 + (1 : Int32))), (5, .int x5), (7, .int xs0), (0, .ref a0), (1, .int x1), (2, .int x2), (3, .int x3), (4, .int x4)]) 7 dX12_load_172 rfl rfl (by decide) rfl ?_
      refine g_goto 62 dX12_load_175 (by decide) ?_
      exact g_ls [3, 4, 5, 6, 7, 1, 0] rfl (h2 q1 q2)
    · refine g_aload_n 1 dX12_load_146 rfl rfl ?_
      refine g_iload_n 2 dX12_load_147 rfl rfl ?_
      refine g_iload 7 dX12_load_148 rfl ?_
      refine g_ls [1, 2, 3, 4, 5, 6, 7, 0] (ls2 := [(0, .ref a0), (1, .int x1), (2, .int x2), (3, .int x3), (4, .int x4), (5, .int x5), (6, .int x6), (7, .int xs0)]) rfl ?_
      exact g_callV (As := [.int x1, .int x6]) (st := []) dX12_load_150 clX12_428 c0 rfl rfl (Nat.le_of_ble_eq_true rfl) (rmSH (by decide) (by decide)) (h3 q1 q2)
theorem bX12_load_160 {X : pX} {Q : Option Value → pMem → Prop} {m : pMem} {a0 : Nat} {x1 : Int32} {x2 : Int32} {x3 : Int32} {x4 : Int32} {x5 : Int32} {x6 : Int32} {x7 : Int32} {xs0 : Int32} {xs1 : Int32} (hW : Wf m) (c0 : SH[a0]? = some (.inl 12))
    (h1 : xs0 ≤ xs1 → Go X 3 mX12_load Q 62 [(0, .ref a0), (1, .int x1), (2, .int x2), (3, .int x3), (4, .int x4), (5, .int x5), (6, .int (x6 + (1 : Int32)))] [] m)
    (h2 : ¬ (xs0 ≤ xs1) → Go X 3 mX12_load Q 62 [(0, .ref a0), (1, .int x1), (2, .int x2), (3, .int x3), (4, .int x4), (5, .int x6), (6, .int (x6 + (1 : Int32)))] [] m) :
    Go X 3 mX12_load Q 160 [(0, .ref a0), (1, .int x1), (2, .int x2), (3, .int x3), (4, .int x4), (5, .int x5), (6, .int x6), (7, .int x7)] [.int xs0, .int xs1] m := by
  refine g_icmp_ge 168 dX12_load_160 (by decide) (fun q1 => ?_) (fun q1 => ?_)
  · refine g_iload 5 dX12_load_168 rfl ?_
    refine g_istore (ls2 := [(5, .int x5), (0, .ref a0), (1, .int x1), (2, .int x2), (3, .int x3), (4, .int x4), (6, .int x6), (7, .int x7)]) dX12_load_170 (by decide) rfl ?_
    refine g_iinc (v := x6 + (1 : Int32)) (ls2 := [(6, .int (x6 + (1 : Int32))), (5, .int x5), (0, .ref a0), (1, .int x1), (2, .int x2), (3, .int x3), (4, .int x4), (7, .int x7)]) 6 dX12_load_172 rfl rfl (by decide) rfl ?_
    refine g_goto 62 dX12_load_175 (by decide) ?_
    exact g_ls [2, 3, 4, 5, 6, 1, 0] rfl (h1 q1)
  · refine g_iload 6 dX12_load_163 rfl ?_
    refine g_goto 170 dX12_load_165 (by decide) ?_
    refine g_istore (ls2 := [(5, .int x6), (0, .ref a0), (1, .int x1), (2, .int x2), (3, .int x3), (4, .int x4), (6, .int x6), (7, .int x7)]) dX12_load_170 (by decide) rfl ?_
    refine g_iinc (v := x6 + (1 : Int32)) (ls2 := [(6, .int (x6 + (1 : Int32))), (5, .int x6), (0, .ref a0), (1, .int x1), (2, .int x2), (3, .int x3), (4, .int x4), (7, .int x7)]) 6 dX12_load_172 rfl rfl (by decide) rfl ?_
    refine g_goto 62 dX12_load_175 (by decide) ?_
    exact g_ls [2, 3, 4, 5, 6, 1, 0] rfl (h2 q1)
theorem bX12_had_0 {X : pX} {Q : Option Value → pMem → Prop} {m : pMem} {a0 : Nat} {x1 : Int32} {x2 : Int32} {x3 : Int32} {x4 : Int32} {x5 : Int32} (hW : Wf m) (c0 : SH[a0]? = some (.inl 12))
    (h1 : Cl X 1 mX12_isPerson [.ref a0, .int x1] m (fun v m2 => Go X 2 mX12_had Q 5 [(0, .ref a0), (1, .int x1), (2, .int x2), (3, .int x3), (4, .int x4), (5, .int x5)] (v.toList ++ []) m2)) :
    Go X 2 mX12_had Q 0 [(0, .ref a0), (1, .int x1), (2, .int x2), (3, .int x3), (4, .int x4), (5, .int x5)] [] m := by
  refine g_aload_n 0 dX12_had_0 rfl rfl ?_
  refine g_iload_n 1 dX12_had_1 rfl rfl ?_
  exact g_callV (As := [.int x1]) (st := []) dX12_had_2 clX12_334 c0 rfl rfl (Nat.le_of_ble_eq_true rfl) (rmSH (by decide) (by decide)) h1
theorem bX12_had_5 {X : pX} {Q : Option Value → pMem → Prop} {m : pMem} {a0 : Nat} {x1 : Int32} {x2 : Int32} {x3 : Int32} {x4 : Int32} {x5 : Int32} {xs0 : Int32} (hW : Wf m) (c0 : SH[a0]? = some (.inl 12))
    (h1 : xs0 = 0 → Q (some (.int (-3 : Int32))) m)
    (h2 : ¬ (xs0 = 0) → x2 < 0 → Q (some (.int (-3 : Int32))) m)
    (h3 : ¬ (xs0 = 0) → ¬ (x2 < 0) → Cl X 0 mX12_town [.ref a0] m (fun v m2 => Go X 2 mX12_had Q 17 [(0, .ref a0), (1, .int x1), (2, .int x2), (3, .int x3), (4, .int x4), (5, .int x5)] (v.toList ++ [.int x3]) m2)) :
    Go X 2 mX12_had Q 5 [(0, .ref a0), (1, .int x1), (2, .int x2), (3, .int x3), (4, .int x4), (5, .int x5)] [.int xs0] m := by
  refine g_if_eq 51 dX12_had_5 (by decide) (fun q1 => ?_) (fun q1 => ?_)
  · refine g_bipush (v := -3) dX12_had_51 (by decide) ?_
    exact g_iret dX12_had_53 rfl enSH (h1 q1)
  · refine g_iload_n 2 dX12_had_8 rfl rfl ?_
    refine g_if_lt 51 dX12_had_9 (by decide) (fun q2 => ?_) (fun q2 => ?_)
    · refine g_bipush (v := -3) dX12_had_51 (by decide) ?_
      exact g_iret dX12_had_53 rfl enSH (h2 q1 q2)
    · refine g_iload_n 3 dX12_had_12 rfl rfl ?_
      refine g_aload_n 0 dX12_had_13 rfl rfl ?_
      exact g_callV (As := []) (st := [.int x3]) dX12_had_14 clX12_352 c0 rfl rfl (Nat.le_of_ble_eq_true rfl) (rmSH (by decide) (by decide)) (h3 q1 q2)
theorem bX12_had_17 {X : pX} {Q : Option Value → pMem → Prop} {m : pMem} {a0 : Nat} {x1 : Int32} {x2 : Int32} {x3 : Int32} {x4 : Int32} {x5 : Int32} {xs0 : Int32} {xs1 : Int32} (hW : Wf m) (c0 : SH[a0]? = some (.inl 12))
    (h1 : xs0 < xs1 → Q (some (.int (-3 : Int32))) m)
    (h2 : ¬ (xs0 < xs1) → x3 ≤ x2 → Q (some (.int (-3 : Int32))) m)
    (h3 : ¬ (xs0 < xs1) → ¬ (x3 ≤ x2) → Cl X 0 mX12_in [.long x4.toInt64, .long (1 : Int64), .long (100 : Int64)] m (fun v m2 => Go X 2 mX12_had Q 35 [(0, .ref a0), (1, .int x1), (2, .int x2), (3, .int x3), (4, .int x4), (5, .int x5)] (v.toList ++ []) m2)) :
    Go X 2 mX12_had Q 17 [(0, .ref a0), (1, .int x1), (2, .int x2), (3, .int x3), (4, .int x4), (5, .int x5)] [.int xs0, .int xs1] m := by
  refine g_icmp_gt 51 dX12_had_17 (by decide) (fun q1 => ?_) (fun q1 => ?_)
  · refine g_bipush (v := -3) dX12_had_51 (by decide) ?_
    exact g_iret dX12_had_53 rfl enSH (h1 q1)
  · refine g_iload_n 2 dX12_had_20 rfl rfl ?_
    refine g_iload_n 3 dX12_had_21 rfl rfl ?_
    refine g_icmp_ge 51 dX12_had_22 (by decide) (fun q2 => ?_) (fun q2 => ?_)
    · refine g_bipush (v := -3) dX12_had_51 (by decide) ?_
      exact g_iret dX12_had_53 rfl enSH (h2 q1 q2)
    · refine g_iload 4 dX12_had_25 rfl ?_
      refine g_i2l dX12_had_27 ?_
      refine g_lconst (v := 1) dX12_had_28 (by decide) ?_
      refine g_ldc2 (v := 100) dX12_had_29 cjX12_407 ?_
      exact g_callS (As := [.long x4.toInt64, .long (1 : Int64), .long (100 : Int64)]) (st := []) dX12_had_32 clX12_128 rfl rfl (Nat.le_of_ble_eq_true rfl) (rmSH (by decide) (by decide)) (h3 q1 q2)
theorem bX12_had_35 {X : pX} {Q : Option Value → pMem → Prop} {m : pMem} {a0 : Nat} {x1 : Int32} {x2 : Int32} {x3 : Int32} {x4 : Int32} {x5 : Int32} {xs0 : Int32} (hW : Wf m) (c0 : SH[a0]? = some (.inl 12))
    (h1 : xs0 = 0 → Q (some (.int (-3 : Int32))) m)
    (h2 : ¬ (xs0 = 0) → Cl X 0 mX12_in [.long x5.toInt64, .long (0 : Int64), .long (2 : Int64)] m (fun v m2 => Go X 2 mX12_had Q 48 [(0, .ref a0), (1, .int x1), (2, .int x2), (3, .int x3), (4, .int x4), (5, .int x5)] (v.toList ++ []) m2)) :
    Go X 2 mX12_had Q 35 [(0, .ref a0), (1, .int x1), (2, .int x2), (3, .int x3), (4, .int x4), (5, .int x5)] [.int xs0] m := by
  refine g_if_eq 51 dX12_had_35 (by decide) (fun q1 => ?_) (fun q1 => ?_)
  · refine g_bipush (v := -3) dX12_had_51 (by decide) ?_
    exact g_iret dX12_had_53 rfl enSH (h1 q1)
  · refine g_iload 5 dX12_had_38 rfl ?_
    refine g_i2l dX12_had_40 ?_
    refine g_lconst (v := 0) dX12_had_41 (by decide) ?_
    refine g_ldc2 (v := 2) dX12_had_42 cjX12_350 ?_
    exact g_callS (As := [.long x5.toInt64, .long (0 : Int64), .long (2 : Int64)]) (st := []) dX12_had_45 clX12_128 rfl rfl (Nat.le_of_ble_eq_true rfl) (rmSH (by decide) (by decide)) (h2 q1)
theorem bX12_had_48 {X : pX} {Q : Option Value → pMem → Prop} {m : pMem} {a0 : Nat} {x1 : Int32} {x2 : Int32} {x3 : Int32} {x4 : Int32} {x5 : Int32} {xs0 : Int32} (hW : Wf m) (c0 : SH[a0]? = some (.inl 12))
    (h1 : ¬ xs0 = 0 → Go X 2 mX12_had Q 67 [(0, .ref a0), (1, .int x1), (2, .int x2), (3, .int x3), (4, .int x4), (5, .int x5), (6, .int (0 : Int32)), (7, .int (-2 : Int32)), (8, .int (0 : Int32)), (9, .int (0 : Int32))] [] m)
    (h2 : xs0 = 0 → Q (some (.int (-3 : Int32))) m) :
    Go X 2 mX12_had Q 48 [(0, .ref a0), (1, .int x1), (2, .int x2), (3, .int x3), (4, .int x4), (5, .int x5)] [.int xs0] m := by
  refine g_if_ne 54 dX12_had_48 (by decide) (fun q1 => ?_) (fun q1 => ?_)
  · refine g_iconst (v := 0) dX12_had_54 (by decide) ?_
    refine g_istore (ls2 := [(6, .int (0 : Int32)), (0, .ref a0), (1, .int x1), (2, .int x2), (3, .int x3), (4, .int x4), (5, .int x5)]) dX12_had_55 (by decide) rfl ?_
    refine g_bipush (v := -2) dX12_had_57 (by decide) ?_
    refine g_istore (ls2 := [(7, .int (-2 : Int32)), (6, .int (0 : Int32)), (0, .ref a0), (1, .int x1), (2, .int x2), (3, .int x3), (4, .int x4), (5, .int x5)]) dX12_had_59 (by decide) rfl ?_
    refine g_iconst (v := 0) dX12_had_61 (by decide) ?_
    refine g_istore (ls2 := [(8, .int (0 : Int32)), (7, .int (-2 : Int32)), (6, .int (0 : Int32)), (0, .ref a0), (1, .int x1), (2, .int x2), (3, .int x3), (4, .int x4), (5, .int x5)]) dX12_had_62 (by decide) rfl ?_
    refine g_iconst (v := 0) dX12_had_64 (by decide) ?_
    refine g_istore (ls2 := [(9, .int (0 : Int32)), (8, .int (0 : Int32)), (7, .int (-2 : Int32)), (6, .int (0 : Int32)), (0, .ref a0), (1, .int x1), (2, .int x2), (3, .int x3), (4, .int x4), (5, .int x5)]) dX12_had_65 (by decide) rfl ?_
    exact g_ls [4, 5, 6, 7, 8, 9, 3, 2, 1, 0] rfl (h1 q1)
  · refine g_bipush (v := -3) dX12_had_51 (by decide) ?_
    exact g_iret dX12_had_53 rfl enSH (h2 q1)
theorem bX12_had_67 {X : pX} {Q : Option Value → pMem → Prop} {m : pMem} {a0 : Nat} {x1 : Int32} {x2 : Int32} {x3 : Int32} {x4 : Int32} {x5 : Int32} {x6 : Int32} {x7 : Int32} {x8 : Int32} {x9 : Int32} (hW : Wf m) (c0 : SH[a0]? = some (.inl 12))
    (h1 : ((1 : Int32) <<< ((mI m (a0 + 1) 4) &&& 31)) ≤ x9 → ¬ x5 = 0 → ¬ x5 = (1 : Int32) → Q (some (.int x8)) m)
    (h2 : ((1 : Int32) <<< ((mI m (a0 + 1) 4) &&& 31)) ≤ x9 → ¬ x5 = 0 → x5 = (1 : Int32) → Q (some (.int x7)) m)
    (h3 : ((1 : Int32) <<< ((mI m (a0 + 1) 4) &&& 31)) ≤ x9 → x5 = 0 → Q (some (.int x6)) m)
    (h4 : ¬ (((1 : Int32) <<< ((mI m (a0 + 1) 4) &&& 31)) ≤ x9) → Cl X 0 mX12_bits [.int x9] m (fun v m2 => Go X 2 mX12_had Q 85 [(0, .ref a0), (1, .int x1), (2, .int x2), (3, .int x3), (4, .int x4), (5, .int x5), (6, .int x6), (7, .int x7), (8, .int x8), (9, .int x9)] (v.toList ++ []) m2)) :
    Go X 2 mX12_had Q 67 [(0, .ref a0), (1, .int x1), (2, .int x2), (3, .int x3), (4, .int x4), (5, .int x5), (6, .int x6), (7, .int x7), (8, .int x8), (9, .int x9)] [] m := by
  refine g_iload 9 dX12_had_67 rfl ?_
  refine g_iconst (v := 1) dX12_had_69 (by decide) ?_
  refine g_aload_n 0 dX12_had_70 rfl rfl ?_
  refine g_getR dX12_had_71 fl12_9 rfl c0 (w12_1 hW c0) ?_
  refine g_iconst (v := 4) dX12_had_74 (by decide) ?_
  refine g_iald (j := 4) dX12_had_75 (s12_1 c0) (by unfold vp_in; decide) (by decide) ?_
  refine g_ishl dX12_had_76 ?_
  refine g_icmp_ge 152 dX12_had_77 (by decide) (fun q1 => ?_) (fun q1 => ?_)
  · refine g_iload 5 dX12_had_152 rfl ?_
    refine g_if_ne 162 dX12_had_154 (by decide) (fun q2 => ?_) (fun q2 => ?_)
    · refine g_iload 5 dX12_had_162 rfl ?_
      refine g_iconst (v := 1) dX12_had_164 (by decide) ?_
      refine g_icmp_ne 173 dX12_had_165 (by decide) (fun q3 => ?_) (fun q3 => ?_)
      · refine g_iload 8 dX12_had_173 rfl ?_
        exact g_iret dX12_had_175 rfl enSH (h1 q1 q2 q3)
      · refine g_iload 7 dX12_had_168 rfl ?_
        refine g_goto 175 dX12_had_170 (by decide) ?_
        exact g_iret dX12_had_175 rfl enSH (h2 q1 q2 q3)
    · refine g_iload 6 dX12_had_157 rfl ?_
      refine g_goto 175 dX12_had_159 (by decide) ?_
      exact g_iret dX12_had_175 rfl enSH (h3 q1 q2)
  · refine g_iload 9 dX12_had_80 rfl ?_
    exact g_callS (As := [.int x9]) (st := []) dX12_had_82 clX12_355 rfl rfl (Nat.le_of_ble_eq_true rfl) (rmSH (by decide) (by decide)) (h4 q1)
theorem bX12_had_85 {X : pX} {Q : Option Value → pMem → Prop} {m : pMem} {a0 : Nat} {x1 : Int32} {x2 : Int32} {x3 : Int32} {x4 : Int32} {x5 : Int32} {x6 : Int32} {x7 : Int32} {x8 : Int32} {x9 : Int32} {xs0 : Int32} (hW : Wf m) (c0 : SH[a0]? = some (.inl 12))
    (h1 : (mI m (a0 + 1) 1) < xs0 → Go X 2 mX12_had Q 67 [(0, .ref a0), (1, .int x1), (2, .int x2), (3, .int x3), (4, .int x4), (5, .int x5), (6, .int x6), (7, .int x7), (8, .int x8), (9, .int (x9 + (1 : Int32)))] [] m)
    (h2 : ¬ ((mI m (a0 + 1) 1) < xs0) → Cl X 1 mX12_weightOf [.ref a0, .int x9] m (fun v m2 => Go X 2 mX12_had Q 104 [(0, .ref a0), (1, .int x1), (2, .int x2), (3, .int x3), (4, .int x4), (5, .int x5), (6, .int x6), (7, .int x7), (8, .int x8), (9, .int x9)] (v.toList ++ [.int x3, .int x2, .int x1, .ref a0]) m2)) :
    Go X 2 mX12_had Q 85 [(0, .ref a0), (1, .int x1), (2, .int x2), (3, .int x3), (4, .int x4), (5, .int x5), (6, .int x6), (7, .int x7), (8, .int x8), (9, .int x9)] [.int xs0] m := by
  refine g_aload_n 0 dX12_had_85 rfl rfl ?_
  refine g_getR dX12_had_86 fl12_9 rfl c0 (w12_1 hW c0) ?_
  refine g_iconst (v := 1) dX12_had_89 (by decide) ?_
  refine g_iald (j := 1) dX12_had_90 (s12_1 c0) (by unfold vp_in; decide) (by decide) ?_
  refine g_icmp_gt 146 dX12_had_91 (by decide) (fun q1 => ?_) (fun q1 => ?_)
  · refine g_iinc (v := x9 + (1 : Int32)) (ls2 := [(9, .int (x9 + (1 : Int32))), (0, .ref a0), (1, .int x1), (2, .int x2), (3, .int x3), (4, .int x4), (5, .int x5), (6, .int x6), (7, .int x7), (8, .int x8)]) 9 dX12_had_146 rfl rfl (by decide) rfl ?_
    refine g_goto 67 dX12_had_149 (by decide) ?_
    exact g_ls [1, 2, 3, 4, 5, 6, 7, 8, 9, 0] rfl (h1 q1)
  · refine g_aload_n 0 dX12_had_94 rfl rfl ?_
    refine g_iload_n 1 dX12_had_95 rfl rfl ?_
    refine g_iload_n 2 dX12_had_96 rfl rfl ?_
    refine g_iload_n 3 dX12_had_97 rfl rfl ?_
    refine g_aload_n 0 dX12_had_98 rfl rfl ?_
    refine g_iload 9 dX12_had_99 rfl ?_
    exact g_callV (As := [.int x9]) (st := [.int x3, .int x2, .int x1, .ref a0]) dX12_had_101 clX12_341 c0 rfl rfl (Nat.le_of_ble_eq_true rfl) (rmSH (by decide) (by decide)) (h2 q1)
theorem bX12_had_104 {X : pX} {Q : Option Value → pMem → Prop} {m : pMem} {a0 : Nat} {x1 : Int32} {x2 : Int32} {x3 : Int32} {x4 : Int32} {x5 : Int32} {x6 : Int32} {x7 : Int32} {x8 : Int32} {x9 : Int32} {xs0 : Int32} {xs1 : Int32} {xs2 : Int32} {xs3 : Int32} {as4 : Nat} (hW : Wf m) (c0 : SH[a0]? = some (.inl 12)) (cs4 : SH[as4]? = some (.inl 12))
    (h1 : Cl X 0 mX12_daysOf [.ref as4, .int xs3, .int xs2, .int xs1, .int xs0] m (fun v m2 => Go X 2 mX12_had Q 107 [(0, .ref a0), (1, .int x1), (2, .int x2), (3, .int x3), (4, .int x4), (5, .int x5), (6, .int x6), (7, .int x7), (8, .int x8), (9, .int x9)] (v.toList ++ []) m2)) :
    Go X 2 mX12_had Q 104 [(0, .ref a0), (1, .int x1), (2, .int x2), (3, .int x3), (4, .int x4), (5, .int x5), (6, .int x6), (7, .int x7), (8, .int x8), (9, .int x9)] [.int xs0, .int xs1, .int xs2, .int xs3, .ref as4] m := by
  exact g_callV (As := [.int xs3, .int xs2, .int xs1, .int xs0]) (st := []) dX12_had_104 clX12_424 cs4 rfl rfl (Nat.le_of_ble_eq_true rfl) (rmSH (by decide) (by decide)) h1
theorem bX12_had_107 {X : pX} {Q : Option Value → pMem → Prop} {m : pMem} {a0 : Nat} {x1 : Int32} {x2 : Int32} {x3 : Int32} {x4 : Int32} {x5 : Int32} {x6 : Int32} {x7 : Int32} {x8 : Int32} {x9 : Int32} {xs0 : Int32} (hW : Wf m) (c0 : SH[a0]? = some (.inl 12))
    (h1 : ¬ xs0 = x4 → Go X 2 mX12_had Q 67 [(0, .ref a0), (1, .int x1), (2, .int x2), (3, .int x3), (4, .int x4), (5, .int x5), (6, .int x6), (7, .int x7), (8, .int x8), (9, .int (x9 + (1 : Int32)))] [] m)
    (h2 : xs0 = x4 → ¬ x6 = 0 → Go X 2 mX12_had Q 124 [(0, .ref a0), (1, .int x1), (2, .int x2), (3, .int x3), (4, .int x4), (5, .int x5), (6, .int x6), (8, .int x8), (9, .int x9)] [.int x7] m)
    (h3 : xs0 = x4 → x6 = 0 → Go X 2 mX12_had Q 124 [(0, .ref a0), (1, .int x1), (2, .int x2), (3, .int x3), (4, .int x4), (5, .int x5), (6, .int x6), (8, .int x8), (9, .int x9)] [.int x9] m) :
    Go X 2 mX12_had Q 107 [(0, .ref a0), (1, .int x1), (2, .int x2), (3, .int x3), (4, .int x4), (5, .int x5), (6, .int x6), (7, .int x7), (8, .int x8), (9, .int x9)] [.int xs0] m := by
  refine g_iload 4 dX12_had_107 rfl ?_
  refine g_icmp_ne 146 dX12_had_109 (by decide) (fun q1 => ?_) (fun q1 => ?_)
  · refine g_iinc (v := x9 + (1 : Int32)) (ls2 := [(9, .int (x9 + (1 : Int32))), (0, .ref a0), (1, .int x1), (2, .int x2), (3, .int x3), (4, .int x4), (5, .int x5), (6, .int x6), (7, .int x7), (8, .int x8)]) 9 dX12_had_146 rfl rfl (by decide) rfl ?_
    refine g_goto 67 dX12_had_149 (by decide) ?_
    exact g_ls [1, 2, 3, 4, 5, 6, 7, 8, 9, 0] rfl (h1 q1)
  · refine g_iload 6 dX12_had_112 rfl ?_
    refine g_if_ne 122 dX12_had_114 (by decide) (fun q2 => ?_) (fun q2 => ?_)
    · refine g_iload 7 dX12_had_122 rfl ?_
      exact g_ls [0, 1, 2, 3, 4, 5, 6, 8, 9] rfl (h2 q1 q2)
    · refine g_iload 9 dX12_had_117 rfl ?_
      refine g_goto 124 dX12_had_119 (by decide) ?_
      exact g_ls [0, 1, 2, 3, 4, 5, 6, 8, 9] rfl (h3 q1 q2)
theorem bX12_had_124 {X : pX} {Q : Option Value → pMem → Prop} {m : pMem} {a0 : Nat} {x1 : Int32} {x2 : Int32} {x3 : Int32} {x4 : Int32} {x5 : Int32} {x6 : Int32} {x8 : Int32} {x9 : Int32} {xs0 : Int32} (hW : Wf m) (c0 : SH[a0]? = some (.inl 12))
    (h1 : ¬ x6 = 0 → Go X 2 mX12_had Q 67 [(0, .ref a0), (1, .int x1), (2, .int x2), (3, .int x3), (4, .int x4), (5, .int x5), (6, .int (x6 + (1 : Int32))), (7, .int xs0), (8, .int (x8 &&& x9)), (9, .int (x9 + (1 : Int32)))] [] m)
    (h2 : x6 = 0 → Go X 2 mX12_had Q 67 [(0, .ref a0), (1, .int x1), (2, .int x2), (3, .int x3), (4, .int x4), (5, .int x5), (6, .int (x6 + (1 : Int32))), (7, .int xs0), (8, .int x9), (9, .int (x9 + (1 : Int32)))] [] m) :
    Go X 2 mX12_had Q 124 [(0, .ref a0), (1, .int x1), (2, .int x2), (3, .int x3), (4, .int x4), (5, .int x5), (6, .int x6), (8, .int x8), (9, .int x9)] [.int xs0] m := by
  refine g_istore (ls2 := [(7, .int xs0), (0, .ref a0), (1, .int x1), (2, .int x2), (3, .int x3), (4, .int x4), (5, .int x5), (6, .int x6), (8, .int x8), (9, .int x9)]) dX12_had_124 (by decide) rfl ?_
  refine g_iload 7 dX12_had_126 rfl ?_
  refine g_if_ne 136 dX12_had_128 (by decide) (fun q1 => ?_) (fun q1 => ?_)
  · refine g_iload 8 dX12_had_136 rfl ?_
    refine g_iload 9 dX12_had_138 rfl ?_
    refine g_iand dX12_had_140 ?_
    refine g_istore (ls2 := [(8, .int (x8 &&& x9)), (7, .int xs0), (0, .ref a0), (1, .int x1), (2, .int x2), (3, .int x3), (4, .int x4), (5, .int x5), (6, .int x6), (9, .int x9)]) dX12_had_141 (by decide) rfl ?_
    refine g_iinc (v := x6 + (1 : Int32)) (ls2 := [(6, .int (x6 + (1 : Int32))), (8, .int (x8 &&& x9)), (7, .int xs0), (0, .ref a0), (1, .int x1), (2, .int x2), (3, .int x3), (4, .int x4), (5, .int x5), (9, .int x9)]) 8 dX12_had_143 rfl rfl (by decide) rfl ?_
    refine g_iinc (v := x9 + (1 : Int32)) (ls2 := [(9, .int (x9 + (1 : Int32))), (6, .int (x6 + (1 : Int32))), (8, .int (x8 &&& x9)), (7, .int xs0), (0, .ref a0), (1, .int x1), (2, .int x2), (3, .int x3), (4, .int x4), (5, .int x5)]) 9 dX12_had_146 rfl rfl (by decide) rfl ?_
    refine g_goto 67 dX12_had_149 (by decide) ?_
    exact g_ls [4, 5, 6, 7, 8, 9, 1, 3, 2, 0] rfl (h1 q1)
  · refine g_iload 9 dX12_had_131 rfl ?_
    refine g_goto 141 dX12_had_133 (by decide) ?_
    refine g_istore (ls2 := [(8, .int x9), (7, .int xs0), (0, .ref a0), (1, .int x1), (2, .int x2), (3, .int x3), (4, .int x4), (5, .int x5), (6, .int x6), (9, .int x9)]) dX12_had_141 (by decide) rfl ?_
    refine g_iinc (v := x6 + (1 : Int32)) (ls2 := [(6, .int (x6 + (1 : Int32))), (8, .int x9), (7, .int xs0), (0, .ref a0), (1, .int x1), (2, .int x2), (3, .int x3), (4, .int x4), (5, .int x5), (9, .int x9)]) 8 dX12_had_143 rfl rfl (by decide) rfl ?_
    refine g_iinc (v := x9 + (1 : Int32)) (ls2 := [(9, .int (x9 + (1 : Int32))), (6, .int (x6 + (1 : Int32))), (8, .int x9), (7, .int xs0), (0, .ref a0), (1, .int x1), (2, .int x2), (3, .int x3), (4, .int x4), (5, .int x5)]) 9 dX12_had_146 rfl rfl (by decide) rfl ?_
    refine g_goto 67 dX12_had_149 (by decide) ?_
    exact g_ls [4, 5, 6, 7, 8, 9, 1, 3, 2, 0] rfl (h2 q1)
theorem bX12_exchange_0 {X : pX} {Q : Option Value → pMem → Prop} {m : pMem} {a0 : Nat} {x1 : Int32} {x2 : Int32} {x3 : Int32} (hW : Wf m) (c0 : SH[a0]? = some (.inl 12))
    (h1 : Cl X 3 mX12_areTogether [.ref a0, .int x1, .int x2] m (fun v m2 => Go X 4 mX12_exchange Q 6 [(0, .ref a0), (1, .int x1), (2, .int x2), (3, .int x3)] (v.toList ++ []) m2)) :
    Go X 4 mX12_exchange Q 0 [(0, .ref a0), (1, .int x1), (2, .int x2), (3, .int x3)] [] m := by
  refine g_aload_n 0 dX12_exchange_0 rfl rfl ?_
  refine g_iload_n 1 dX12_exchange_1 rfl rfl ?_
  refine g_iload_n 2 dX12_exchange_2 rfl rfl ?_
  exact g_callV (As := [.int x1, .int x2]) (st := []) dX12_exchange_3 clX12_401 c0 rfl rfl (Nat.le_of_ble_eq_true rfl) (rmSH (by decide) (by decide)) h1
theorem bX12_exchange_6 {X : pX} {Q : Option Value → pMem → Prop} {m : pMem} {a0 : Nat} {x1 : Int32} {x2 : Int32} {x3 : Int32} {xs0 : Int32} (hW : Wf m) (c0 : SH[a0]? = some (.inl 12))
    (h1 : xs0 = 0 → Q (some (.int (-2 : Int32))) m)
    (h2 : ¬ (xs0 = 0) → Cl X 0 mX12_in [.long x3.toInt64, .long (0 : Int64), .long (2 : Int64)] m (fun v m2 => Go X 4 mX12_exchange Q 18 [(0, .ref a0), (1, .int x1), (2, .int x2), (3, .int x3)] (v.toList ++ []) m2)) :
    Go X 4 mX12_exchange Q 6 [(0, .ref a0), (1, .int x1), (2, .int x2), (3, .int x3)] [.int xs0] m := by
  refine g_if_eq 21 dX12_exchange_6 (by decide) (fun q1 => ?_) (fun q1 => ?_)
  · refine g_bipush (v := -2) dX12_exchange_21 (by decide) ?_
    exact g_iret dX12_exchange_23 rfl enSH (h1 q1)
  · refine g_iload_n 3 dX12_exchange_9 rfl rfl ?_
    refine g_i2l dX12_exchange_10 ?_
    refine g_lconst (v := 0) dX12_exchange_11 (by decide) ?_
    refine g_ldc2 (v := 2) dX12_exchange_12 cjX12_350 ?_
    exact g_callS (As := [.long x3.toInt64, .long (0 : Int64), .long (2 : Int64)]) (st := []) dX12_exchange_15 clX12_128 rfl rfl (Nat.le_of_ble_eq_true rfl) (rmSH (by decide) (by decide)) (h2 q1)
theorem bX12_exchange_18 {X : pX} {Q : Option Value → pMem → Prop} {m : pMem} {a0 : Nat} {x1 : Int32} {x2 : Int32} {x3 : Int32} {xs0 : Int32} (hW : Wf m) (c0 : SH[a0]? = some (.inl 12))
    (h1 : ¬ xs0 = 0 → Cl X 0 mX12_thingsOf [.ref a0, .int x1] m (fun v m2 => Go X 4 mX12_exchange Q 29 [(0, .ref a0), (1, .int x1), (2, .int x2), (3, .int x3)] (v.toList ++ []) m2))
    (h2 : xs0 = 0 → Q (some (.int (-2 : Int32))) m) :
    Go X 4 mX12_exchange Q 18 [(0, .ref a0), (1, .int x1), (2, .int x2), (3, .int x3)] [.int xs0] m := by
  refine g_if_ne 24 dX12_exchange_18 (by decide) (fun q1 => ?_) (fun q1 => ?_)
  · refine g_aload_n 0 dX12_exchange_24 rfl rfl ?_
    refine g_iload_n 1 dX12_exchange_25 rfl rfl ?_
    exact g_callV (As := [.int x1]) (st := []) dX12_exchange_26 clX12_338 c0 rfl rfl (Nat.le_of_ble_eq_true rfl) (rmSH (by decide) (by decide)) (h1 q1)
  · refine g_bipush (v := -2) dX12_exchange_21 (by decide) ?_
    exact g_iret dX12_exchange_23 rfl enSH (h2 q1)
theorem bX12_exchange_29 {X : pX} {Q : Option Value → pMem → Prop} {m : pMem} {a0 : Nat} {x1 : Int32} {x2 : Int32} {x3 : Int32} {xs0 : Int32} (hW : Wf m) (c0 : SH[a0]? = some (.inl 12))
    (h1 : Cl X 0 mX12_thingsOf [.ref a0, .int x2] m (fun v m2 => Go X 4 mX12_exchange Q 36 [(0, .ref a0), (1, .int x1), (2, .int x2), (3, .int x3), (4, .int xs0)] (v.toList ++ []) m2)) :
    Go X 4 mX12_exchange Q 29 [(0, .ref a0), (1, .int x1), (2, .int x2), (3, .int x3)] [.int xs0] m := by
  refine g_istore (ls2 := [(4, .int xs0), (0, .ref a0), (1, .int x1), (2, .int x2), (3, .int x3)]) dX12_exchange_29 (by decide) rfl ?_
  refine g_aload_n 1 dX12_exchange_31 rfl rfl ?_
  refine g_iload_n 3 dX12_exchange_32 rfl rfl ?_
  refine g_ls [1, 2, 3, 4, 0] (ls2 := [(0, .ref a0), (1, .int x1), (2, .int x2), (3, .int x3), (4, .int xs0)]) rfl ?_
  exact g_callV (As := [.int x2]) (st := []) dX12_exchange_33 clX12_338 c0 rfl rfl (Nat.le_of_ble_eq_true rfl) (rmSH (by decide) (by decide)) h1
theorem bX12_exchange_36 {X : pX} {Q : Option Value → pMem → Prop} {m : pMem} {a0 : Nat} {x1 : Int32} {x2 : Int32} {x3 : Int32} {x4 : Int32} {xs0 : Int32} (hW : Wf m) (c0 : SH[a0]? = some (.inl 12))
    (h1 : Cl X 2 mX12_daysHome [.ref a0, .int x1, .int x4] m (fun v m2 => Go X 4 mX12_exchange Q 45 [(0, .ref a0), (1, .int x1), (2, .int x2), (3, .int x3), (4, .int x4), (5, .int xs0)] (v.toList ++ []) m2)) :
    Go X 4 mX12_exchange Q 36 [(0, .ref a0), (1, .int x1), (2, .int x2), (3, .int x3), (4, .int x4)] [.int xs0] m := by
  refine g_istore (ls2 := [(5, .int xs0), (0, .ref a0), (1, .int x1), (2, .int x2), (3, .int x3), (4, .int x4)]) dX12_exchange_36 (by decide) rfl ?_
  refine g_aload_n 1 dX12_exchange_38 rfl rfl ?_
  refine g_iload_n 2 dX12_exchange_39 rfl rfl ?_
  refine g_iload 5 dX12_exchange_40 rfl ?_
  refine g_ls [1, 2, 3, 4, 5, 0] (ls2 := [(0, .ref a0), (1, .int x1), (2, .int x2), (3, .int x3), (4, .int x4), (5, .int xs0)]) rfl ?_
  exact g_callV (As := [.int x1, .int x4]) (st := []) dX12_exchange_42 clX12_428 c0 rfl rfl (Nat.le_of_ble_eq_true rfl) (rmSH (by decide) (by decide)) h1
theorem bX12_exchange_45 {X : pX} {Q : Option Value → pMem → Prop} {m : pMem} {a0 : Nat} {x1 : Int32} {x2 : Int32} {x3 : Int32} {x4 : Int32} {x5 : Int32} {xs0 : Int32} (hW : Wf m) (c0 : SH[a0]? = some (.inl 12))
    (h1 : Cl X 2 mX12_daysHome [.ref a0, .int x2, .int x5] m (fun v m2 => Go X 4 mX12_exchange Q 52 [(0, .ref a0), (1, .int x1), (2, .int x2), (3, .int x3), (4, .int x4), (5, .int x5)] (v.toList ++ [.int xs0]) m2)) :
    Go X 4 mX12_exchange Q 45 [(0, .ref a0), (1, .int x1), (2, .int x2), (3, .int x3), (4, .int x4), (5, .int x5)] [.int xs0] m := by
  refine g_aload_n 0 dX12_exchange_45 rfl rfl ?_
  refine g_iload_n 2 dX12_exchange_46 rfl rfl ?_
  refine g_iload 5 dX12_exchange_47 rfl ?_
  exact g_callV (As := [.int x2, .int x5]) (st := [.int xs0]) dX12_exchange_49 clX12_428 c0 rfl rfl (Nat.le_of_ble_eq_true rfl) (rmSH (by decide) (by decide)) h1
theorem bX12_exchange_52 {X : pX} {Q : Option Value → pMem → Prop} {m : pMem} {a0 : Nat} {x1 : Int32} {x2 : Int32} {x3 : Int32} {x4 : Int32} {x5 : Int32} {xs0 : Int32} {xs1 : Int32} (hW : Wf m) (c0 : SH[a0]? = some (.inl 12))
    (h1 : Go X 4 mX12_exchange Q 64 [(0, .ref a0), (1, .int x1), (2, .int x2), (3, .int x3), (4, .int x4), (5, .int x5), (6, .int (xs1 + xs0)), (7, .int (-1 : Int32)), (8, .int (-1 : Int32)), (9, .int (0 : Int32))] [] m) :
    Go X 4 mX12_exchange Q 52 [(0, .ref a0), (1, .int x1), (2, .int x2), (3, .int x3), (4, .int x4), (5, .int x5)] [.int xs0, .int xs1] m := by
  refine g_iadd dX12_exchange_52 ?_
  refine g_istore (ls2 := [(6, .int (xs1 + xs0)), (0, .ref a0), (1, .int x1), (2, .int x2), (3, .int x3), (4, .int x4), (5, .int x5)]) dX12_exchange_53 (by decide) rfl ?_
  refine g_iconst (v := -1) dX12_exchange_55 (by decide) ?_
  refine g_istore (ls2 := [(7, .int (-1 : Int32)), (6, .int (xs1 + xs0)), (0, .ref a0), (1, .int x1), (2, .int x2), (3, .int x3), (4, .int x4), (5, .int x5)]) dX12_exchange_56 (by decide) rfl ?_
  refine g_iconst (v := -1) dX12_exchange_58 (by decide) ?_
  refine g_istore (ls2 := [(8, .int (-1 : Int32)), (7, .int (-1 : Int32)), (6, .int (xs1 + xs0)), (0, .ref a0), (1, .int x1), (2, .int x2), (3, .int x3), (4, .int x4), (5, .int x5)]) dX12_exchange_59 (by decide) rfl ?_
  refine g_iconst (v := 0) dX12_exchange_61 (by decide) ?_
  refine g_istore (ls2 := [(9, .int (0 : Int32)), (8, .int (-1 : Int32)), (7, .int (-1 : Int32)), (6, .int (xs1 + xs0)), (0, .ref a0), (1, .int x1), (2, .int x2), (3, .int x3), (4, .int x4), (5, .int x5)]) dX12_exchange_62 (by decide) rfl ?_
  exact g_ls [4, 5, 6, 7, 8, 9, 3, 2, 1, 0] rfl h1
theorem bX12_exchange_64 {X : pX} {Q : Option Value → pMem → Prop} {m : pMem} {a0 : Nat} {x1 : Int32} {x2 : Int32} {x3 : Int32} {x4 : Int32} {x5 : Int32} {x6 : Int32} {x7 : Int32} {x8 : Int32} {x9 : Int32} (hW : Wf m) (c0 : SH[a0]? = some (.inl 12))
    (h1 : (mI m (a0 + 1) 4) ≤ x9 → ¬ x3 = 0 → ¬ x3 = (1 : Int32) → Q (some (.int x8)) m)
    (h2 : (mI m (a0 + 1) 4) ≤ x9 → ¬ x3 = 0 → x3 = (1 : Int32) → Q (some (.int x7)) m)
    (h3 : (mI m (a0 + 1) 4) ≤ x9 → x3 = 0 → Q (some (.int x6)) m)
    (h4 : ¬ ((mI m (a0 + 1) 4) ≤ x9) → Go X 4 mX12_exchange Q 78 [(0, .ref a0), (1, .int x1), (2, .int x2), (3, .int x3), (4, .int x4), (5, .int x5), (6, .int x6), (7, .int x7), (8, .int x8), (9, .int x9), (10, .int (0 : Int32))] [] m) :
    Go X 4 mX12_exchange Q 64 [(0, .ref a0), (1, .int x1), (2, .int x2), (3, .int x3), (4, .int x4), (5, .int x5), (6, .int x6), (7, .int x7), (8, .int x8), (9, .int x9)] [] m := by
  refine g_iload 9 dX12_exchange_64 rfl ?_
  refine g_aload_n 0 dX12_exchange_66 rfl rfl ?_
  refine g_getR dX12_exchange_67 fl12_9 rfl c0 (w12_1 hW c0) ?_
  refine g_iconst (v := 4) dX12_exchange_70 (by decide) ?_
  refine g_iald (j := 4) dX12_exchange_71 (s12_1 c0) (by unfold vp_in; decide) (by decide) ?_
  refine g_icmp_ge 174 dX12_exchange_72 (by decide) (fun q1 => ?_) (fun q1 => ?_)
  · refine g_iload_n 3 dX12_exchange_174 rfl rfl ?_
    refine g_if_ne 183 dX12_exchange_175 (by decide) (fun q2 => ?_) (fun q2 => ?_)
    · refine g_iload_n 3 dX12_exchange_183 rfl rfl ?_
      refine g_iconst (v := 1) dX12_exchange_184 (by decide) ?_
      refine g_icmp_ne 193 dX12_exchange_185 (by decide) (fun q3 => ?_) (fun q3 => ?_)
      · refine g_iload 8 dX12_exchange_193 rfl ?_
        exact g_iret dX12_exchange_195 rfl enSH (h1 q1 q2 q3)
      · refine g_iload 7 dX12_exchange_188 rfl ?_
        refine g_goto 195 dX12_exchange_190 (by decide) ?_
        exact g_iret dX12_exchange_195 rfl enSH (h2 q1 q2 q3)
    · refine g_iload 6 dX12_exchange_178 rfl ?_
      refine g_goto 195 dX12_exchange_180 (by decide) ?_
      exact g_iret dX12_exchange_195 rfl enSH (h3 q1 q2)
  · refine g_iconst (v := 0) dX12_exchange_75 (by decide) ?_
    refine g_istore (ls2 := [(10, .int (0 : Int32)), (0, .ref a0), (1, .int x1), (2, .int x2), (3, .int x3), (4, .int x4), (5, .int x5), (6, .int x6), (7, .int x7), (8, .int x8), (9, .int x9)]) dX12_exchange_76 (by decide) rfl ?_
    exact g_ls [1, 2, 3, 4, 5, 6, 7, 8, 9, 10, 0] rfl (h4 q1)
theorem bX12_exchange_78 {X : pX} {Q : Option Value → pMem → Prop} {m : pMem} {a0 : Nat} {x1 : Int32} {x2 : Int32} {x3 : Int32} {x4 : Int32} {x5 : Int32} {x6 : Int32} {x7 : Int32} {x8 : Int32} {x9 : Int32} {x10 : Int32} (hW : Wf m) (c0 : SH[a0]? = some (.inl 12))
    (h1 : (mI m (a0 + 1) 4) ≤ x10 → Go X 4 mX12_exchange Q 64 [(0, .ref a0), (1, .int x1), (2, .int x2), (3, .int x3), (4, .int x4), (5, .int x5), (6, .int x6), (7, .int x7), (8, .int x8), (9, .int (x9 + (1 : Int32)))] [] m)
    (h2 : ¬ ((mI m (a0 + 1) 4) ≤ x10) → Cl X 0 mX12_has [.int x4, .int x9] m (fun v m2 => Go X 4 mX12_exchange Q 96 [(0, .ref a0), (1, .int x1), (2, .int x2), (3, .int x3), (4, .int x4), (5, .int x5), (6, .int x6), (7, .int x7), (8, .int x8), (9, .int x9), (10, .int x10)] (v.toList ++ []) m2)) :
    Go X 4 mX12_exchange Q 78 [(0, .ref a0), (1, .int x1), (2, .int x2), (3, .int x3), (4, .int x4), (5, .int x5), (6, .int x6), (7, .int x7), (8, .int x8), (9, .int x9), (10, .int x10)] [] m := by
  refine g_iload 10 dX12_exchange_78 rfl ?_
  refine g_aload_n 0 dX12_exchange_80 rfl rfl ?_
  refine g_getR dX12_exchange_81 fl12_9 rfl c0 (w12_1 hW c0) ?_
  refine g_iconst (v := 4) dX12_exchange_84 (by decide) ?_
  refine g_iald (j := 4) dX12_exchange_85 (s12_1 c0) (by unfold vp_in; decide) (by decide) ?_
  refine g_icmp_ge 168 dX12_exchange_86 (by decide) (fun q1 => ?_) (fun q1 => ?_)
  · refine g_iinc (v := x9 + (1 : Int32)) (ls2 := [(9, .int (x9 + (1 : Int32))), (0, .ref a0), (1, .int x1), (2, .int x2), (3, .int x3), (4, .int x4), (5, .int x5), (6, .int x6), (7, .int x7), (8, .int x8), (10, .int x10)]) 9 dX12_exchange_168 rfl rfl (by decide) rfl ?_
    refine g_goto 64 dX12_exchange_171 (by decide) ?_
    exact g_ls [1, 2, 3, 4, 5, 6, 7, 8, 9, 0] rfl (h1 q1)
  · refine g_iload 4 dX12_exchange_89 rfl ?_
    refine g_iload 9 dX12_exchange_91 rfl ?_
    exact g_callS (As := [.int x4, .int x9]) (st := []) dX12_exchange_93 clX12_332 rfl rfl (Nat.le_of_ble_eq_true rfl) (rmSH (by decide) (by decide)) (h2 q1)
theorem bX12_exchange_96 {X : pX} {Q : Option Value → pMem → Prop} {m : pMem} {a0 : Nat} {x1 : Int32} {x2 : Int32} {x3 : Int32} {x4 : Int32} {x5 : Int32} {x6 : Int32} {x7 : Int32} {x8 : Int32} {x9 : Int32} {x10 : Int32} {xs0 : Int32} (hW : Wf m) (c0 : SH[a0]? = some (.inl 12))
    (h1 : xs0 = 0 → Go X 4 mX12_exchange Q 78 [(0, .ref a0), (1, .int x1), (2, .int x2), (3, .int x3), (4, .int x4), (5, .int x5), (6, .int x6), (7, .int x7), (8, .int x8), (9, .int x9), (10, .int (x10 + (1 : Int32)))] [] m)
    (h2 : ¬ (xs0 = 0) → Cl X 0 mX12_has [.int x5, .int x10] m (fun v m2 => Go X 4 mX12_exchange Q 106 [(0, .ref a0), (1, .int x1), (2, .int x2), (3, .int x3), (4, .int x4), (5, .int x5), (6, .int x6), (7, .int x7), (8, .int x8), (9, .int x9), (10, .int x10)] (v.toList ++ []) m2)) :
    Go X 4 mX12_exchange Q 96 [(0, .ref a0), (1, .int x1), (2, .int x2), (3, .int x3), (4, .int x4), (5, .int x5), (6, .int x6), (7, .int x7), (8, .int x8), (9, .int x9), (10, .int x10)] [.int xs0] m := by
  refine g_if_eq 162 dX12_exchange_96 (by decide) (fun q1 => ?_) (fun q1 => ?_)
  · refine g_iinc (v := x10 + (1 : Int32)) (ls2 := [(10, .int (x10 + (1 : Int32))), (0, .ref a0), (1, .int x1), (2, .int x2), (3, .int x3), (4, .int x4), (5, .int x5), (6, .int x6), (7, .int x7), (8, .int x8), (9, .int x9)]) 10 dX12_exchange_162 rfl rfl (by decide) rfl ?_
    refine g_goto 78 dX12_exchange_165 (by decide) ?_
    exact g_ls [1, 2, 3, 4, 5, 6, 7, 8, 9, 10, 0] rfl (h1 q1)
  · refine g_iload 5 dX12_exchange_99 rfl ?_
    refine g_iload 10 dX12_exchange_101 rfl ?_
    exact g_callS (As := [.int x5, .int x10]) (st := []) dX12_exchange_103 clX12_332 rfl rfl (Nat.le_of_ble_eq_true rfl) (rmSH (by decide) (by decide)) (h2 q1)
theorem bX12_exchange_106 {X : pX} {Q : Option Value → pMem → Prop} {m : pMem} {a0 : Nat} {x1 : Int32} {x2 : Int32} {x3 : Int32} {x4 : Int32} {x5 : Int32} {x6 : Int32} {x7 : Int32} {x8 : Int32} {x9 : Int32} {x10 : Int32} {xs0 : Int32} (hW : Wf m) (c0 : SH[a0]? = some (.inl 12))
    (h1 : xs0 = 0 → Go X 4 mX12_exchange Q 78 [(0, .ref a0), (1, .int x1), (2, .int x2), (3, .int x3), (4, .int x4), (5, .int x5), (6, .int x6), (7, .int x7), (8, .int x8), (9, .int x9), (10, .int (x10 + (1 : Int32)))] [] m)
    (h2 : ¬ (xs0 = 0) → Cl X 2 mX12_daysHome [.ref a0, .int x1, .int (x4 ^^^ (((1 : Int32) <<< (x9 &&& 31)) ||| ((1 : Int32) <<< (x10 &&& 31))))] m (fun v m2 => Go X 4 mX12_exchange Q 130 [(0, .ref a0), (1, .int x1), (2, .int x2), (3, .int x3), (4, .int x4), (5, .int x5), (6, .int x6), (7, .int x7), (8, .int x8), (9, .int x9), (10, .int x10), (11, .int (((1 : Int32) <<< (x9 &&& 31)) ||| ((1 : Int32) <<< (x10 &&& 31))))] (v.toList ++ []) m2)) :
    Go X 4 mX12_exchange Q 106 [(0, .ref a0), (1, .int x1), (2, .int x2), (3, .int x3), (4, .int x4), (5, .int x5), (6, .int x6), (7, .int x7), (8, .int x8), (9, .int x9), (10, .int x10)] [.int xs0] m := by
  refine g_if_eq 162 dX12_exchange_106 (by decide) (fun q1 => ?_) (fun q1 => ?_)
  · refine g_iinc (v := x10 + (1 : Int32)) (ls2 := [(10, .int (x10 + (1 : Int32))), (0, .ref a0), (1, .int x1), (2, .int x2), (3, .int x3), (4, .int x4), (5, .int x5), (6, .int x6), (7, .int x7), (8, .int x8), (9, .int x9)]) 10 dX12_exchange_162 rfl rfl (by decide) rfl ?_
    refine g_goto 78 dX12_exchange_165 (by decide) ?_
    exact g_ls [1, 2, 3, 4, 5, 6, 7, 8, 9, 10, 0] rfl (h1 q1)
  · refine g_iconst (v := 1) dX12_exchange_109 (by decide) ?_
    refine g_iload 9 dX12_exchange_110 rfl ?_
    refine g_ishl dX12_exchange_112 ?_
    refine g_iconst (v := 1) dX12_exchange_113 (by decide) ?_
    refine g_iload 10 dX12_exchange_114 rfl ?_
    refine g_ishl dX12_exchange_116 ?_
    refine g_ior dX12_exchange_117 ?_
    refine g_istore (ls2 := [(11, .int (((1 : Int32) <<< (x9 &&& 31)) ||| ((1 : Int32) <<< (x10 &&& 31)))), (0, .ref a0), (1, .int x1), (2, .int x2), (3, .int x3), (4, .int x4), (5, .int x5), (6, .int x6), (7, .int x7), (8, .int x8), (9, .int x9), (10, .int x10)]) dX12_exchange_118 (by decide) rfl ?_
    refine g_aload_n 1 dX12_exchange_120 rfl rfl ?_
    refine g_iload_n 2 dX12_exchange_121 rfl rfl ?_
    refine g_iload 5 dX12_exchange_122 rfl ?_
    refine g_iload 0 dX12_exchange_124 rfl ?_
    refine g_ixor dX12_exchange_126 ?_
    refine g_ls [1, 2, 3, 4, 5, 6, 7, 8, 9, 10, 11, 0] (ls2 := [(0, .ref a0), (1, .int x1), (2, .int x2), (3, .int x3), (4, .int x4), (5, .int x5), (6, .int x6), (7, .int x7), (8, .int x8), (9, .int x9), (10, .int x10), (11, .int (((1 : Int32) <<< (x9 &&& 31)) ||| ((1 : Int32) <<< (x10 &&& 31))))]) rfl ?_
    exact g_callV (As := [.int x1, .int (x4 ^^^ (((1 : Int32) <<< (x9 &&& 31)) ||| ((1 : Int32) <<< (x10 &&& 31))))]) (st := []) dX12_exchange_127 clX12_428 c0 rfl rfl (Nat.le_of_ble_eq_true rfl) (rmSH (by decide) (by decide)) (h2 q1)
theorem bX12_exchange_130 {X : pX} {Q : Option Value → pMem → Prop} {m : pMem} {a0 : Nat} {x1 : Int32} {x2 : Int32} {x3 : Int32} {x4 : Int32} {x5 : Int32} {x6 : Int32} {x7 : Int32} {x8 : Int32} {x9 : Int32} {x10 : Int32} {x11 : Int32} {xs0 : Int32} (hW : Wf m) (c0 : SH[a0]? = some (.inl 12))
    (h1 : Cl X 2 mX12_daysHome [.ref a0, .int x2, .int (x5 ^^^ x11)] m (fun v m2 => Go X 4 mX12_exchange Q 140 [(0, .ref a0), (1, .int x1), (2, .int x2), (3, .int x3), (4, .int x4), (5, .int x5), (6, .int x6), (7, .int x7), (8, .int x8), (9, .int x9), (10, .int x10), (11, .int x11)] (v.toList ++ [.int xs0]) m2)) :
    Go X 4 mX12_exchange Q 130 [(0, .ref a0), (1, .int x1), (2, .int x2), (3, .int x3), (4, .int x4), (5, .int x5), (6, .int x6), (7, .int x7), (8, .int x8), (9, .int x9), (10, .int x10), (11, .int x11)] [.int xs0] m := by
  refine g_aload_n 0 dX12_exchange_130 rfl rfl ?_
  refine g_iload_n 2 dX12_exchange_131 rfl rfl ?_
  refine g_iload 5 dX12_exchange_132 rfl ?_
  refine g_iload 11 dX12_exchange_134 rfl ?_
  refine g_ixor dX12_exchange_136 ?_
  exact g_callV (As := [.int x2, .int (x5 ^^^ x11)]) (st := [.int xs0]) dX12_exchange_137 clX12_428 c0 rfl rfl (Nat.le_of_ble_eq_true rfl) (rmSH (by decide) (by decide)) h1
theorem bX12_exchange_140 {X : pX} {Q : Option Value → pMem → Prop} {m : pMem} {a0 : Nat} {x1 : Int32} {x2 : Int32} {x3 : Int32} {x4 : Int32} {x5 : Int32} {x6 : Int32} {x7 : Int32} {x8 : Int32} {x9 : Int32} {x10 : Int32} {x11 : Int32} {xs0 : Int32} {xs1 : Int32} (hW : Wf m) (c0 : SH[a0]? = some (.inl 12))
    (h1 : x6 ≤ (xs1 + xs0) → Go X 4 mX12_exchange Q 78 [(0, .ref a0), (1, .int x1), (2, .int x2), (3, .int x3), (4, .int x4), (5, .int x5), (6, .int x6), (7, .int x7), (8, .int x8), (9, .int x9), (10, .int (x10 + (1 : Int32)))] [] m)
    (h2 : ¬ (x6 ≤ (xs1 + xs0)) → Go X 4 mX12_exchange Q 78 [(0, .ref a0), (1, .int x1), (2, .int x2), (3, .int x3), (4, .int x4), (5, .int x5), (6, .int (xs1 + xs0)), (7, .int x9), (8, .int x10), (9, .int x9), (10, .int (x10 + (1 : Int32)))] [] m) :
    Go X 4 mX12_exchange Q 140 [(0, .ref a0), (1, .int x1), (2, .int x2), (3, .int x3), (4, .int x4), (5, .int x5), (6, .int x6), (7, .int x7), (8, .int x8), (9, .int x9), (10, .int x10), (11, .int x11)] [.int xs0, .int xs1] m := by
  refine g_iadd dX12_exchange_140 ?_
  refine g_istore (ls2 := [(12, .int (xs1 + xs0)), (0, .ref a0), (1, .int x1), (2, .int x2), (3, .int x3), (4, .int x4), (5, .int x5), (6, .int x6), (7, .int x7), (8, .int x8), (9, .int x9), (10, .int x10), (11, .int x11)]) dX12_exchange_141 (by decide) rfl ?_
  refine g_iload 0 dX12_exchange_143 rfl ?_
  refine g_iload 7 dX12_exchange_145 rfl ?_
  refine g_icmp_ge 162 dX12_exchange_147 (by decide) (fun q1 => ?_) (fun q1 => ?_)
  · refine g_iinc (v := x10 + (1 : Int32)) (ls2 := [(10, .int (x10 + (1 : Int32))), (12, .int (xs1 + xs0)), (0, .ref a0), (1, .int x1), (2, .int x2), (3, .int x3), (4, .int x4), (5, .int x5), (6, .int x6), (7, .int x7), (8, .int x8), (9, .int x9), (11, .int x11)]) 11 dX12_exchange_162 rfl rfl (by decide) rfl ?_
    refine g_goto 78 dX12_exchange_165 (by decide) ?_
    exact g_ls [2, 3, 4, 5, 6, 7, 8, 9, 10, 11, 0] rfl (h1 q1)
  · refine g_iload 0 dX12_exchange_150 rfl ?_
    refine g_istore (ls2 := [(6, .int (xs1 + xs0)), (12, .int (xs1 + xs0)), (0, .ref a0), (1, .int x1), (2, .int x2), (3, .int x3), (4, .int x4), (5, .int x5), (7, .int x7), (8, .int x8), (9, .int x9), (10, .int x10), (11, .int x11)]) dX12_exchange_152 (by decide) rfl ?_
    refine g_iload 10 dX12_exchange_154 rfl ?_
    refine g_istore (ls2 := [(7, .int x9), (6, .int (xs1 + xs0)), (12, .int (xs1 + xs0)), (0, .ref a0), (1, .int x1), (2, .int x2), (3, .int x3), (4, .int x4), (5, .int x5), (8, .int x8), (9, .int x9), (10, .int x10), (11, .int x11)]) dX12_exchange_156 (by decide) rfl ?_
    refine g_iload 11 dX12_exchange_158 rfl ?_
    refine g_istore (ls2 := [(8, .int x10), (7, .int x9), (6, .int (xs1 + xs0)), (12, .int (xs1 + xs0)), (0, .ref a0), (1, .int x1), (2, .int x2), (3, .int x3), (4, .int x4), (5, .int x5), (9, .int x9), (10, .int x10), (11, .int x11)]) dX12_exchange_160 (by decide) rfl ?_
    refine g_iinc (v := x10 + (1 : Int32)) (ls2 := [(10, .int (x10 + (1 : Int32))), (8, .int x10), (7, .int x9), (6, .int (xs1 + xs0)), (12, .int (xs1 + xs0)), (0, .ref a0), (1, .int x1), (2, .int x2), (3, .int x3), (4, .int x4), (5, .int x5), (9, .int x9), (11, .int x11)]) 11 dX12_exchange_162 rfl rfl (by decide) rfl ?_
    refine g_goto 78 dX12_exchange_165 (by decide) ?_
    exact g_ls [5, 6, 7, 8, 9, 10, 3, 2, 1, 11, 0] rfl (h2 q1)
theorem bX12_robbed_0 {X : pX} {Q : Option Value → pMem → Prop} {m : pMem} {a0 : Nat} {x1 : Int32} {x2 : Int32} (hW : Wf m) (c0 : SH[a0]? = some (.inl 12))
    (h1 : Cl X 0 mX12_isRoad [.ref a0] m (fun v m2 => Go X 9 mX12_robbed Q 4 [(0, .ref a0), (1, .int x1), (2, .int x2)] (v.toList ++ []) m2)) :
    Go X 9 mX12_robbed Q 0 [(0, .ref a0), (1, .int x1), (2, .int x2)] [] m := by
  refine g_aload_n 0 dX12_robbed_0 rfl rfl ?_
  exact g_callV (As := []) (st := []) dX12_robbed_1 clX12_389 c0 rfl rfl (Nat.le_of_ble_eq_true rfl) (rmSH (by decide) (by decide)) h1
theorem bX12_robbed_4 {X : pX} {Q : Option Value → pMem → Prop} {m : pMem} {a0 : Nat} {x1 : Int32} {x2 : Int32} {xs0 : Int32} (hW : Wf m) (c0 : SH[a0]? = some (.inl 12))
    (h1 : xs0 = 0 → Q (some (.int (-2 : Int32))) m)
    (h2 : ¬ (xs0 = 0) → Cl X 0 mX12_in [.long x1.toInt64, .long (1 : Int64), .long (60 : Int64)] m (fun v m2 => Go X 9 mX12_robbed Q 16 [(0, .ref a0), (1, .int x1), (2, .int x2)] (v.toList ++ []) m2)) :
    Go X 9 mX12_robbed Q 4 [(0, .ref a0), (1, .int x1), (2, .int x2)] [.int xs0] m := by
  refine g_if_eq 29 dX12_robbed_4 (by decide) (fun q1 => ?_) (fun q1 => ?_)
  · refine g_bipush (v := -2) dX12_robbed_29 (by decide) ?_
    exact g_iret dX12_robbed_31 rfl enSH (h1 q1)
  · refine g_iload_n 1 dX12_robbed_7 rfl rfl ?_
    refine g_i2l dX12_robbed_8 ?_
    refine g_lconst (v := 1) dX12_robbed_9 (by decide) ?_
    refine g_ldc2 (v := 60) dX12_robbed_10 cjX12_431 ?_
    exact g_callS (As := [.long x1.toInt64, .long (1 : Int64), .long (60 : Int64)]) (st := []) dX12_robbed_13 clX12_128 rfl rfl (Nat.le_of_ble_eq_true rfl) (rmSH (by decide) (by decide)) (h2 q1)
theorem bX12_robbed_16 {X : pX} {Q : Option Value → pMem → Prop} {m : pMem} {a0 : Nat} {x1 : Int32} {x2 : Int32} {xs0 : Int32} (hW : Wf m) (c0 : SH[a0]? = some (.inl 12))
    (h1 : xs0 = 0 → Q (some (.int (-2 : Int32))) m)
    (h2 : ¬ (xs0 = 0) → Cl X 0 mX12_in [.long x2.toInt64, .long (0 : Int64), .long (1 : Int64)] m (fun v m2 => Go X 9 mX12_robbed Q 26 [(0, .ref a0), (1, .int x1), (2, .int x2)] (v.toList ++ []) m2)) :
    Go X 9 mX12_robbed Q 16 [(0, .ref a0), (1, .int x1), (2, .int x2)] [.int xs0] m := by
  refine g_if_eq 29 dX12_robbed_16 (by decide) (fun q1 => ?_) (fun q1 => ?_)
  · refine g_bipush (v := -2) dX12_robbed_29 (by decide) ?_
    exact g_iret dX12_robbed_31 rfl enSH (h1 q1)
  · refine g_iload_n 2 dX12_robbed_19 rfl rfl ?_
    refine g_i2l dX12_robbed_20 ?_
    refine g_lconst (v := 0) dX12_robbed_21 (by decide) ?_
    refine g_lconst (v := 1) dX12_robbed_22 (by decide) ?_
    exact g_callS (As := [.long x2.toInt64, .long (0 : Int64), .long (1 : Int64)]) (st := []) dX12_robbed_23 clX12_128 rfl rfl (Nat.le_of_ble_eq_true rfl) (rmSH (by decide) (by decide)) (h2 q1)
theorem bX12_robbed_26 {X : pX} {Q : Option Value → pMem → Prop} {m : pMem} {a0 : Nat} {x1 : Int32} {x2 : Int32} {xs0 : Int32} (hW : Wf m) (c0 : SH[a0]? = some (.inl 12))
    (h1 : ¬ xs0 = 0 → Cl X 2 mX12_keepsAll [.ref a0] m (fun v m2 => Go X 9 mX12_robbed Q 36 [(0, .ref a0), (1, .int x1), (2, .int x2)] (v.toList ++ []) m2))
    (h2 : xs0 = 0 → Q (some (.int (-2 : Int32))) m) :
    Go X 9 mX12_robbed Q 26 [(0, .ref a0), (1, .int x1), (2, .int x2)] [.int xs0] m := by
  refine g_if_ne 32 dX12_robbed_26 (by decide) (fun q1 => ?_) (fun q1 => ?_)
  · refine g_aload_n 0 dX12_robbed_32 rfl rfl ?_
    exact g_callV (As := []) (st := []) dX12_robbed_33 clX12_409 c0 rfl rfl (Nat.le_of_ble_eq_true rfl) (rmSH (by decide) (by decide)) (h1 q1)
  · refine g_bipush (v := -2) dX12_robbed_29 (by decide) ?_
    exact g_iret dX12_robbed_31 rfl enSH (h2 q1)
theorem bX12_robbed_36 {X : pX} {Q : Option Value → pMem → Prop} {m : pMem} {a0 : Nat} {x1 : Int32} {x2 : Int32} (hW : Wf m) (c0 : SH[a0]? = some (.inl 12))
    (h1 : Cl X 8 mX12_wealthIn [.ref a0, .int x1] m (fun v m2 => Go X 9 mX12_robbed Q 41 [(0, .ref a0), (1, .int x1), (2, .int x2)] (v.toList ++ []) m2)) :
    Go X 9 mX12_robbed Q 36 [(0, .ref a0), (1, .int x1), (2, .int x2)] [] m := by
  refine g_aload_n 0 dX12_robbed_36 rfl rfl ?_
  refine g_iload_n 1 dX12_robbed_37 rfl rfl ?_
  exact g_callV (As := [.int x1]) (st := []) dX12_robbed_38 clX12_421 c0 rfl rfl (Nat.le_of_ble_eq_true rfl) (rmSH (by decide) (by decide)) h1
theorem bX12_robbed_41 {X : pX} {Q : Option Value → pMem → Prop} {m : pMem} {a0 : Nat} {x1 : Int32} {x2 : Int32} {xs0 : Int32} (hW : Wf m) (c0 : SH[a0]? = some (.inl 12))
    (h1 : Go X 9 mX12_robbed Q 48 [(0, .ref a0), (1, .int x1), (2, .int x2), (3, .int xs0), (4, .int (-1 : Int32)), (5, .int (0 : Int32))] [] m) :
    Go X 9 mX12_robbed Q 41 [(0, .ref a0), (1, .int x1), (2, .int x2)] [.int xs0] m := by
  refine g_istore_n (ls2 := [(3, .int xs0), (0, .ref a0), (1, .int x1), (2, .int x2)]) dX12_robbed_41 rfl (by decide) rfl ?_
  refine g_iconst (v := -1) dX12_robbed_42 (by decide) ?_
  refine g_istore (ls2 := [(4, .int (-1 : Int32)), (3, .int xs0), (0, .ref a0), (1, .int x1), (2, .int x2)]) dX12_robbed_43 (by decide) rfl ?_
  refine g_iconst (v := 0) dX12_robbed_45 (by decide) ?_
  refine g_istore (ls2 := [(5, .int (0 : Int32)), (4, .int (-1 : Int32)), (3, .int xs0), (0, .ref a0), (1, .int x1), (2, .int x2)]) dX12_robbed_46 (by decide) rfl ?_
  exact g_ls [3, 4, 5, 2, 1, 0] rfl h1
theorem bX12_robbed_48 {X : pX} {Q : Option Value → pMem → Prop} {m : pMem} {a0 : Nat} {x1 : Int32} {x2 : Int32} {x3 : Int32} {x4 : Int32} {x5 : Int32} (hW : Wf m) (c0 : SH[a0]? = some (.inl 12))
    (h1 : (mI m (a0 + 1) 4) ≤ x5 → ¬ x2 = 0 → Q (some (.int x3)) m)
    (h2 : (mI m (a0 + 1) 4) ≤ x5 → x2 = 0 → Q (some (.int x4)) m)
    (h3 : ¬ ((mI m (a0 + 1) 4) ≤ x5) → vp_in x5 6)
    (h4 : ¬ ((mI m (a0 + 1) 4) ≤ x5) → (mI m (a0 + 4) x5.toNatClampNeg) = (-1 : Int32) → Go X 9 mX12_robbed Q 48 [(0, .ref a0), (1, .int x1), (2, .int x2), (3, .int x3), (4, .int x4), (5, .int (x5 + (1 : Int32)))] [] m)
    (h5 : ¬ ((mI m (a0 + 1) 4) ≤ x5) → ¬ ((mI m (a0 + 4) x5.toNatClampNeg) = (-1 : Int32)) → vp_in x5 6)
    (h6 : ¬ ((mI m (a0 + 1) 4) ≤ x5) → ¬ ((mI m (a0 + 4) x5.toNatClampNeg) = (-1 : Int32)) → Cl X 8 mX12_wealthIn [.ref a0, .int x1] (uI m (a0 + 4) x5.toNatClampNeg (-1 : Int32)) (fun v m2 => Go X 9 mX12_robbed Q 83 [(0, .ref a0), (1, .int x1), (2, .int x2), (3, .int x3), (4, .int x4), (5, .int x5)] (v.toList ++ []) m2)) :
    Go X 9 mX12_robbed Q 48 [(0, .ref a0), (1, .int x1), (2, .int x2), (3, .int x3), (4, .int x4), (5, .int x5)] [] m := by
  refine g_iload 5 dX12_robbed_48 rfl ?_
  refine g_aload_n 0 dX12_robbed_50 rfl rfl ?_
  refine g_getR dX12_robbed_51 fl12_9 rfl c0 (w12_1 hW c0) ?_
  refine g_iconst (v := 4) dX12_robbed_54 (by decide) ?_
  refine g_iald (j := 4) dX12_robbed_55 (s12_1 c0) (by unfold vp_in; decide) (by decide) ?_
  refine g_icmp_ge 104 dX12_robbed_56 (by decide) (fun q1 => ?_) (fun q1 => ?_)
  · refine g_iload_n 2 dX12_robbed_104 rfl rfl ?_
    refine g_if_ne 113 dX12_robbed_105 (by decide) (fun q2 => ?_) (fun q2 => ?_)
    · refine g_iload_n 3 dX12_robbed_113 rfl rfl ?_
      exact g_iret dX12_robbed_114 rfl enSH (h1 q1 q2)
    · refine g_iload 4 dX12_robbed_108 rfl ?_
      refine g_goto 114 dX12_robbed_110 (by decide) ?_
      exact g_iret dX12_robbed_114 rfl enSH (h2 q1 q2)
  · refine g_aload_n 0 dX12_robbed_59 rfl rfl ?_
    refine g_getR dX12_robbed_60 fl12_19 rfl c0 (w12_4 hW c0) ?_
    refine g_iload 5 dX12_robbed_63 rfl ?_
    refine g_iald (j := x5.toNatClampNeg) dX12_robbed_65 (s12_4 c0) (h3 q1) rfl ?_
    refine g_iconst (v := -1) dX12_robbed_66 (by decide) ?_
    refine g_icmp_eq 98 dX12_robbed_67 (by decide) (fun q3 => ?_) (fun q3 => ?_)
    · refine g_iinc (v := x5 + (1 : Int32)) (ls2 := [(5, .int (x5 + (1 : Int32))), (0, .ref a0), (1, .int x1), (2, .int x2), (3, .int x3), (4, .int x4)]) 5 dX12_robbed_98 rfl rfl (by decide) rfl ?_
      refine g_goto 48 dX12_robbed_101 (by decide) ?_
      exact g_ls [1, 2, 3, 4, 5, 0] rfl (h4 q1 q3)
    · refine g_aload_n 0 dX12_robbed_70 rfl rfl ?_
      refine g_getR dX12_robbed_71 fl12_19 rfl c0 (w12_4 hW c0) ?_
      refine g_iload 5 dX12_robbed_74 rfl ?_
      refine g_iconst (v := -1) dX12_robbed_76 (by decide) ?_
      refine g_iast (j := x5.toNatClampNeg) dX12_robbed_77 (s12_4 c0) (h5 q1 q3) rfl ?_
      refine g_aload_n 0 dX12_robbed_78 rfl rfl ?_
      refine g_iload_n 1 dX12_robbed_79 rfl rfl ?_
      exact g_callV (As := [.int x1]) (st := []) dX12_robbed_80 clX12_421 c0 rfl rfl (Nat.le_of_ble_eq_true rfl) (rmSH (by decide) (by decide)) (h6 q1 q3)
theorem bX12_robbed_83 {X : pX} {Q : Option Value → pMem → Prop} {m : pMem} {a0 : Nat} {x1 : Int32} {x2 : Int32} {x3 : Int32} {x4 : Int32} {x5 : Int32} {xs0 : Int32} (hW : Wf m) (c0 : SH[a0]? = some (.inl 12))
    (h1 : xs0 ≤ x3 → Go X 9 mX12_robbed Q 48 [(0, .ref a0), (1, .int x1), (2, .int x2), (3, .int x3), (4, .int x4), (5, .int (x5 + (1 : Int32)))] [] m)
    (h2 : ¬ (xs0 ≤ x3) → Go X 9 mX12_robbed Q 48 [(0, .ref a0), (1, .int x1), (2, .int x2), (3, .int xs0), (4, .int x5), (5, .int (x5 + (1 : Int32)))] [] m) :
    Go X 9 mX12_robbed Q 83 [(0, .ref a0), (1, .int x1), (2, .int x2), (3, .int x3), (4, .int x4), (5, .int x5)] [.int xs0] m := by
  refine g_istore (ls2 := [(6, .int xs0), (0, .ref a0), (1, .int x1), (2, .int x2), (3, .int x3), (4, .int x4), (5, .int x5)]) dX12_robbed_83 (by decide) rfl ?_
  refine g_iload 0 dX12_robbed_85 rfl ?_
  refine g_iload_n 4 dX12_robbed_87 rfl rfl ?_
  refine g_icmp_le 98 dX12_robbed_88 (by decide) (fun q1 => ?_) (fun q1 => ?_)
  · refine g_iinc (v := x5 + (1 : Int32)) (ls2 := [(5, .int (x5 + (1 : Int32))), (6, .int xs0), (0, .ref a0), (1, .int x1), (2, .int x2), (3, .int x3), (4, .int x4)]) 6 dX12_robbed_98 rfl rfl (by decide) rfl ?_
    refine g_goto 48 dX12_robbed_101 (by decide) ?_
    exact g_ls [2, 3, 4, 5, 6, 0] rfl (h1 q1)
  · refine g_iload 0 dX12_robbed_91 rfl ?_
    refine g_istore_n (ls2 := [(3, .int xs0), (6, .int xs0), (0, .ref a0), (1, .int x1), (2, .int x2), (4, .int x4), (5, .int x5)]) dX12_robbed_93 rfl (by decide) rfl ?_
    refine g_iload 6 dX12_robbed_94 rfl ?_
    refine g_istore (ls2 := [(4, .int x5), (3, .int xs0), (6, .int xs0), (0, .ref a0), (1, .int x1), (2, .int x2), (5, .int x5)]) dX12_robbed_96 (by decide) rfl ?_
    refine g_iinc (v := x5 + (1 : Int32)) (ls2 := [(5, .int (x5 + (1 : Int32))), (4, .int x5), (3, .int xs0), (6, .int xs0), (0, .ref a0), (1, .int x1), (2, .int x2)]) 6 dX12_robbed_98 rfl rfl (by decide) rfl ?_
    refine g_goto 48 dX12_robbed_101 (by decide) ?_
    exact g_ls [4, 5, 6, 2, 1, 0] rfl (h2 q1)
theorem bX12_takenBy_0 {X : pX} {Q : Option Value → pMem → Prop} {m : pMem} {a0 : Nat} {x1 : Int32} {x2 : Int32} (hW : Wf m) (c0 : SH[a0]? = some (.inl 12))
    (h1 : ¬ x2 = (1 : Int32) → Cl X 0 mX12_thingsOf [.ref a0, .int (mI m a0 47)] m (fun v m2 => Go X 1 mX12_takenBy Q 20 [(0, .ref a0), (1, .int x1), (2, .int x2)] (v.toList ++ []) m2))
    (h2 : x2 = (1 : Int32) → Cl X 0 mX12_thingsOf [.ref a0, .int (mI m a0 46)] m (fun v m2 => Go X 1 mX12_takenBy Q 20 [(0, .ref a0), (1, .int x1), (2, .int x2)] (v.toList ++ []) m2)) :
    Go X 1 mX12_takenBy Q 0 [(0, .ref a0), (1, .int x1), (2, .int x2)] [] m := by
  refine g_aload_n 0 dX12_takenBy_0 rfl rfl ?_
  refine g_iload_n 2 dX12_takenBy_1 rfl rfl ?_
  refine g_iconst (v := 1) dX12_takenBy_2 (by decide) ?_
  refine g_icmp_ne 13 dX12_takenBy_3 (by decide) (fun q1 => ?_) (fun q1 => ?_)
  · refine g_aload_n 0 dX12_takenBy_13 rfl rfl ?_
    refine g_getI dX12_takenBy_14 fl12_436 c0 ?_
    exact g_callV (As := [.int (mI m a0 47)]) (st := []) dX12_takenBy_17 clX12_338 c0 rfl rfl (Nat.le_of_ble_eq_true rfl) (rmSH (by decide) (by decide)) (h1 q1)
  · refine g_aload_n 0 dX12_takenBy_6 rfl rfl ?_
    refine g_getI dX12_takenBy_7 fl12_433 c0 ?_
    refine g_goto 17 dX12_takenBy_10 (by decide) ?_
    exact g_callV (As := [.int (mI m a0 46)]) (st := []) dX12_takenBy_17 clX12_338 c0 rfl rfl (Nat.le_of_ble_eq_true rfl) (rmSH (by decide) (by decide)) (h2 q1)
theorem bX12_takenBy_20 {X : pX} {Q : Option Value → pMem → Prop} {m : pMem} {a0 : Nat} {x1 : Int32} {x2 : Int32} {xs0 : Int32} (hW : Wf m) (c0 : SH[a0]? = some (.inl 12))
    (h1 : Go X 1 mX12_takenBy Q 24 [(0, .ref a0), (1, .int x1), (2, .int x2), (3, .int xs0), (4, .int (0 : Int32))] [] m) :
    Go X 1 mX12_takenBy Q 20 [(0, .ref a0), (1, .int x1), (2, .int x2)] [.int xs0] m := by
  refine g_istore_n (ls2 := [(3, .int xs0), (0, .ref a0), (1, .int x1), (2, .int x2)]) dX12_takenBy_20 rfl (by decide) rfl ?_
  refine g_iconst (v := 0) dX12_takenBy_21 (by decide) ?_
  refine g_istore (ls2 := [(4, .int (0 : Int32)), (3, .int xs0), (0, .ref a0), (1, .int x1), (2, .int x2)]) dX12_takenBy_22 (by decide) rfl ?_
  exact g_ls [2, 3, 4, 1, 0] rfl h1
theorem bX12_takenBy_24 {X : pX} {Q : Option Value → pMem → Prop} {m : pMem} {a0 : Nat} {x1 : Int32} {x2 : Int32} {x3 : Int32} {x4 : Int32} (hW : Wf m) (c0 : SH[a0]? = some (.inl 12))
    (h1 : (mI m (a0 + 1) 4) ≤ x4 → Q (some (.int x3)) m)
    (h2 : ¬ ((mI m (a0 + 1) 4) ≤ x4) → vp_in x4 6)
    (h3 : ¬ ((mI m (a0 + 1) 4) ≤ x4) → ¬ (mI m (a0 + 32) x4.toNatClampNeg) = 0)
    (h4 : ¬ ((mI m (a0 + 1) 4) ≤ x4) → ¬ ((x1 / (mI m (a0 + 32) x4.toNatClampNeg)) - (x1 / (mI m (a0 + 32) x4.toNatClampNeg)) / (3 : Int32) * (3 : Int32)) = x2 → Go X 1 mX12_takenBy Q 24 [(0, .ref a0), (1, .int x1), (2, .int x2), (3, .int (x3 ||| (0 : Int32))), (4, .int (x4 + (1 : Int32)))] [] m)
    (h5 : ¬ ((mI m (a0 + 1) 4) ≤ x4) → ((x1 / (mI m (a0 + 32) x4.toNatClampNeg)) - (x1 / (mI m (a0 + 32) x4.toNatClampNeg)) / (3 : Int32) * (3 : Int32)) = x2 → Go X 1 mX12_takenBy Q 24 [(0, .ref a0), (1, .int x1), (2, .int x2), (3, .int (x3 ||| ((1 : Int32) <<< (x4 &&& 31)))), (4, .int (x4 + (1 : Int32)))] [] m) :
    Go X 1 mX12_takenBy Q 24 [(0, .ref a0), (1, .int x1), (2, .int x2), (3, .int x3), (4, .int x4)] [] m := by
  refine g_iload 4 dX12_takenBy_24 rfl ?_
  refine g_aload_n 0 dX12_takenBy_26 rfl rfl ?_
  refine g_getR dX12_takenBy_27 fl12_9 rfl c0 (w12_1 hW c0) ?_
  refine g_iconst (v := 4) dX12_takenBy_30 (by decide) ?_
  refine g_iald (j := 4) dX12_takenBy_31 (s12_1 c0) (by unfold vp_in; decide) (by decide) ?_
  refine g_icmp_ge 67 dX12_takenBy_32 (by decide) (fun q1 => ?_) (fun q1 => ?_)
  · refine g_iload_n 3 dX12_takenBy_67 rfl rfl ?_
    exact g_iret dX12_takenBy_68 rfl enSH (h1 q1)
  · refine g_iload_n 3 dX12_takenBy_35 rfl rfl ?_
    refine g_iload_n 1 dX12_takenBy_36 rfl rfl ?_
    refine g_aload_n 0 dX12_takenBy_37 rfl rfl ?_
    refine g_getR dX12_takenBy_38 fl12_109 rfl c0 (w12_45 hW c0) ?_
    refine g_iload 4 dX12_takenBy_41 rfl ?_
    refine g_iald (j := x4.toNatClampNeg) dX12_takenBy_43 (s12_45 c0) (h2 q1) rfl ?_
    refine g_idiv dX12_takenBy_44 (h3 q1) ?_
    refine g_iconst (v := 3) dX12_takenBy_45 (by decide) ?_
    refine g_irem dX12_takenBy_46 (by decide) ?_
    refine g_iload_n 2 dX12_takenBy_47 rfl rfl ?_
    refine g_icmp_ne 58 dX12_takenBy_48 (by decide) (fun q2 => ?_) (fun q2 => ?_)
    · refine g_iconst (v := 0) dX12_takenBy_58 (by decide) ?_
      refine g_ior dX12_takenBy_59 ?_
      refine g_istore_n (ls2 := [(3, .int (x3 ||| (0 : Int32))), (0, .ref a0), (1, .int x1), (2, .int x2), (4, .int x4)]) dX12_takenBy_60 rfl (by decide) rfl ?_
      refine g_iinc (v := x4 + (1 : Int32)) (ls2 := [(4, .int (x4 + (1 : Int32))), (3, .int (x3 ||| (0 : Int32))), (0, .ref a0), (1, .int x1), (2, .int x2)]) 4 dX12_takenBy_61 rfl rfl (by decide) rfl ?_
      refine g_goto 24 dX12_takenBy_64 (by decide) ?_
      exact g_ls [2, 3, 4, 1, 0] rfl (h4 q1 q2)
    · refine g_iconst (v := 1) dX12_takenBy_51 (by decide) ?_
      refine g_iload 4 dX12_takenBy_52 rfl ?_
      refine g_ishl dX12_takenBy_54 ?_
      refine g_goto 59 dX12_takenBy_55 (by decide) ?_
      refine g_ior dX12_takenBy_59 ?_
      refine g_istore_n (ls2 := [(3, .int (x3 ||| ((1 : Int32) <<< (x4 &&& 31)))), (0, .ref a0), (1, .int x1), (2, .int x2), (4, .int x4)]) dX12_takenBy_60 rfl (by decide) rfl ?_
      refine g_iinc (v := x4 + (1 : Int32)) (ls2 := [(4, .int (x4 + (1 : Int32))), (3, .int (x3 ||| ((1 : Int32) <<< (x4 &&& 31)))), (0, .ref a0), (1, .int x1), (2, .int x2)]) 4 dX12_takenBy_61 rfl rfl (by decide) rfl ?_
      refine g_goto 24 dX12_takenBy_64 (by decide) ?_
      exact g_ls [2, 3, 4, 1, 0] rfl (h5 q1 q2)
theorem bX12_worthIn_0 {X : pX} {Q : Option Value → pMem → Prop} {m : pMem} {a0 : Nat} {x1 : Int32} {x2 : Int32} (hW : Wf m) (c0 : SH[a0]? = some (.inl 12))
    (h1 : Cl X 1 mX12_takenBy [.ref a0, .int x1, .int x2] m (fun v m2 => Go X 3 mX12_worthIn Q 6 [(0, .ref a0), (1, .int x1), (2, .int x2)] (v.toList ++ []) m2)) :
    Go X 3 mX12_worthIn Q 0 [(0, .ref a0), (1, .int x1), (2, .int x2)] [] m := by
  refine g_aload_n 0 dX12_worthIn_0 rfl rfl ?_
  refine g_iload_n 1 dX12_worthIn_1 rfl rfl ?_
  refine g_iload_n 2 dX12_worthIn_2 rfl rfl ?_
  exact g_callV (As := [.int x1, .int x2]) (st := []) dX12_worthIn_3 clX12_439 c0 rfl rfl (Nat.le_of_ble_eq_true rfl) (rmSH (by decide) (by decide)) h1
theorem bX12_worthIn_6 {X : pX} {Q : Option Value → pMem → Prop} {m : pMem} {a0 : Nat} {x1 : Int32} {x2 : Int32} {xs0 : Int32} (hW : Wf m) (c0 : SH[a0]? = some (.inl 12))
    (h1 : Cl X 1 mX12_worthOf [.ref a0, .int xs0] m (fun v m2 => Go X 3 mX12_worthIn Q 12 [(0, .ref a0), (1, .int x1), (2, .int x2), (3, .int xs0)] (v.toList ++ []) m2)) :
    Go X 3 mX12_worthIn Q 6 [(0, .ref a0), (1, .int x1), (2, .int x2)] [.int xs0] m := by
  refine g_istore_n (ls2 := [(3, .int xs0), (0, .ref a0), (1, .int x1), (2, .int x2)]) dX12_worthIn_6 rfl (by decide) rfl ?_
  refine g_aload_n 1 dX12_worthIn_7 rfl rfl ?_
  refine g_iload_n 0 dX12_worthIn_8 rfl rfl ?_
  refine g_ls [1, 2, 3, 0] (ls2 := [(0, .ref a0), (1, .int x1), (2, .int x2), (3, .int xs0)]) rfl ?_
  exact g_callV (As := [.int xs0]) (st := []) dX12_worthIn_9 clX12_344 c0 rfl rfl (Nat.le_of_ble_eq_true rfl) (rmSH (by decide) (by decide)) h1
theorem bX12_worthIn_12 {X : pX} {Q : Option Value → pMem → Prop} {m : pMem} {a0 : Nat} {x1 : Int32} {x2 : Int32} {x3 : Int32} {xs0 : Int32} (hW : Wf m) (c0 : SH[a0]? = some (.inl 12))
    (h1 : ¬ x2 = (1 : Int32) → Cl X 2 mX12_daysHome [.ref a0, .int (mI m a0 47), .int x3] m (fun v m2 => Go X 3 mX12_worthIn Q 33 [(0, .ref a0), (1, .int x1), (2, .int x2), (3, .int x3)] (v.toList ++ [.int xs0]) m2))
    (h2 : x2 = (1 : Int32) → Cl X 2 mX12_daysHome [.ref a0, .int (mI m a0 46), .int x3] m (fun v m2 => Go X 3 mX12_worthIn Q 33 [(0, .ref a0), (1, .int x1), (2, .int x2), (3, .int x3)] (v.toList ++ [.int xs0]) m2)) :
    Go X 3 mX12_worthIn Q 12 [(0, .ref a0), (1, .int x1), (2, .int x2), (3, .int x3)] [.int xs0] m := by
  refine g_aload_n 0 dX12_worthIn_12 rfl rfl ?_
  refine g_iload_n 2 dX12_worthIn_13 rfl rfl ?_
  refine g_iconst (v := 1) dX12_worthIn_14 (by decide) ?_
  refine g_icmp_ne 25 dX12_worthIn_15 (by decide) (fun q1 => ?_) (fun q1 => ?_)
  · refine g_aload_n 0 dX12_worthIn_25 rfl rfl ?_
    refine g_getI dX12_worthIn_26 fl12_436 c0 ?_
    refine g_iload_n 3 dX12_worthIn_29 rfl rfl ?_
    exact g_callV (As := [.int (mI m a0 47), .int x3]) (st := [.int xs0]) dX12_worthIn_30 clX12_428 c0 rfl rfl (Nat.le_of_ble_eq_true rfl) (rmSH (by decide) (by decide)) (h1 q1)
  · refine g_aload_n 0 dX12_worthIn_18 rfl rfl ?_
    refine g_getI dX12_worthIn_19 fl12_433 c0 ?_
    refine g_goto 29 dX12_worthIn_22 (by decide) ?_
    refine g_iload_n 3 dX12_worthIn_29 rfl rfl ?_
    exact g_callV (As := [.int (mI m a0 46), .int x3]) (st := [.int xs0]) dX12_worthIn_30 clX12_428 c0 rfl rfl (Nat.le_of_ble_eq_true rfl) (rmSH (by decide) (by decide)) (h2 q1)
theorem bX12_worthIn_33 {X : pX} {Q : Option Value → pMem → Prop} {m : pMem} {a0 : Nat} {x1 : Int32} {x2 : Int32} {x3 : Int32} {xs0 : Int32} {xs1 : Int32} (hW : Wf m) (c0 : SH[a0]? = some (.inl 12))
    (h1 : Q (some (.int (xs1 - xs0))) m) :
    Go X 3 mX12_worthIn Q 33 [(0, .ref a0), (1, .int x1), (2, .int x2), (3, .int x3)] [.int xs0, .int xs1] m := by
  refine g_isub dX12_worthIn_33 ?_
  exact g_iret dX12_worthIn_34 rfl enSH h1
theorem bX12_howManyTaken_0 {X : pX} {Q : Option Value → pMem → Prop} {m : pMem} {a0 : Nat} {x1 : Int32} (hW : Wf m) (c0 : SH[a0]? = some (.inl 12))
    (h1 : Go X 0 mX12_howManyTaken Q 4 [(0, .ref a0), (1, .int x1), (2, .int (0 : Int32)), (3, .int (0 : Int32))] [] m) :
    Go X 0 mX12_howManyTaken Q 0 [(0, .ref a0), (1, .int x1)] [] m := by
  refine g_iconst (v := 0) dX12_howManyTaken_0 (by decide) ?_
  refine g_istore_n (ls2 := [(2, .int (0 : Int32)), (0, .ref a0), (1, .int x1)]) dX12_howManyTaken_1 rfl (by decide) rfl ?_
  refine g_iconst (v := 0) dX12_howManyTaken_2 (by decide) ?_
  refine g_istore_n (ls2 := [(3, .int (0 : Int32)), (2, .int (0 : Int32)), (0, .ref a0), (1, .int x1)]) dX12_howManyTaken_3 rfl (by decide) rfl ?_
  exact g_ls [2, 3, 1, 0] rfl h1
theorem bX12_howManyTaken_4 {X : pX} {Q : Option Value → pMem → Prop} {m : pMem} {a0 : Nat} {x1 : Int32} {x2 : Int32} {x3 : Int32} (hW : Wf m) (c0 : SH[a0]? = some (.inl 12))
    (h1 : (6 : Int32) ≤ x3 → Q (some (.int x2)) m)
    (h2 : ¬ ((6 : Int32) ≤ x3) → vp_in x3 6)
    (h3 : ¬ ((6 : Int32) ≤ x3) → ¬ (mI m (a0 + 32) x3.toNatClampNeg) = 0)
    (h4 : ¬ ((6 : Int32) ≤ x3) → ((x1 / (mI m (a0 + 32) x3.toNatClampNeg)) - (x1 / (mI m (a0 + 32) x3.toNatClampNeg)) / (3 : Int32) * (3 : Int32)) ≤ 0 → Go X 0 mX12_howManyTaken Q 4 [(0, .ref a0), (1, .int x1), (2, .int (x2 + (0 : Int32))), (3, .int (x3 + (1 : Int32)))] [] m)
    (h5 : ¬ ((6 : Int32) ≤ x3) → ¬ (((x1 / (mI m (a0 + 32) x3.toNatClampNeg)) - (x1 / (mI m (a0 + 32) x3.toNatClampNeg)) / (3 : Int32) * (3 : Int32)) ≤ 0) → Go X 0 mX12_howManyTaken Q 4 [(0, .ref a0), (1, .int x1), (2, .int (x2 + (1 : Int32))), (3, .int (x3 + (1 : Int32)))] [] m) :
    Go X 0 mX12_howManyTaken Q 4 [(0, .ref a0), (1, .int x1), (2, .int x2), (3, .int x3)] [] m := by
  refine g_iload_n 3 dX12_howManyTaken_4 rfl rfl ?_
  refine g_bipush (v := 6) dX12_howManyTaken_5 (by decide) ?_
  refine g_icmp_ge 37 dX12_howManyTaken_7 (by decide) (fun q1 => ?_) (fun q1 => ?_)
  · refine g_iload_n 2 dX12_howManyTaken_37 rfl rfl ?_
    exact g_iret dX12_howManyTaken_38 rfl enSH (h1 q1)
  · refine g_iload_n 2 dX12_howManyTaken_10 rfl rfl ?_
    refine g_iload_n 1 dX12_howManyTaken_11 rfl rfl ?_
    refine g_aload_n 0 dX12_howManyTaken_12 rfl rfl ?_
    refine g_getR dX12_howManyTaken_13 fl12_109 rfl c0 (w12_45 hW c0) ?_
    refine g_iload_n 3 dX12_howManyTaken_16 rfl rfl ?_
    refine g_iald (j := x3.toNatClampNeg) dX12_howManyTaken_17 (s12_45 c0) (h2 q1) rfl ?_
    refine g_idiv dX12_howManyTaken_18 (h3 q1) ?_
    refine g_iconst (v := 3) dX12_howManyTaken_19 (by decide) ?_
    refine g_irem dX12_howManyTaken_20 (by decide) ?_
    refine g_if_le 28 dX12_howManyTaken_21 (by decide) (fun q2 => ?_) (fun q2 => ?_)
    · refine g_iconst (v := 0) dX12_howManyTaken_28 (by decide) ?_
      refine g_iadd dX12_howManyTaken_29 ?_
      refine g_istore_n (ls2 := [(2, .int (x2 + (0 : Int32))), (0, .ref a0), (1, .int x1), (3, .int x3)]) dX12_howManyTaken_30 rfl (by decide) rfl ?_
      refine g_iinc (v := x3 + (1 : Int32)) (ls2 := [(3, .int (x3 + (1 : Int32))), (2, .int (x2 + (0 : Int32))), (0, .ref a0), (1, .int x1)]) 3 dX12_howManyTaken_31 rfl rfl (by decide) rfl ?_
      refine g_goto 4 dX12_howManyTaken_34 (by decide) ?_
      exact g_ls [2, 3, 1, 0] rfl (h4 q1 q2)
    · refine g_iconst (v := 1) dX12_howManyTaken_24 (by decide) ?_
      refine g_goto 29 dX12_howManyTaken_25 (by decide) ?_
      refine g_iadd dX12_howManyTaken_29 ?_
      refine g_istore_n (ls2 := [(2, .int (x2 + (1 : Int32))), (0, .ref a0), (1, .int x1), (3, .int x3)]) dX12_howManyTaken_30 rfl (by decide) rfl ?_
      refine g_iinc (v := x3 + (1 : Int32)) (ls2 := [(3, .int (x3 + (1 : Int32))), (2, .int (x2 + (1 : Int32))), (0, .ref a0), (1, .int x1)]) 3 dX12_howManyTaken_31 rfl rfl (by decide) rfl ?_
      refine g_goto 4 dX12_howManyTaken_34 (by decide) ?_
      exact g_ls [2, 3, 1, 0] rfl (h5 q1 q2)
