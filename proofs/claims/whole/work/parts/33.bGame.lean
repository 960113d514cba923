theorem bX1_play_0 {X : pX} {Q : Option Value → pMem → Prop} {m : pMem} {a0 : Nat} {x1 : Int32} {x2 : Int32} (hW : Wf m) (c0 : SH[a0]? = some (.inl 1))
    (h1 : Cl X 2 mX1_setWorth [.ref a0, .int (0 : Int32), .int x1] m (fun v m2 => Go X 3 mX1_play Q 6 [(0, .ref a0), (1, .int x1), (2, .int x2)] (v.toList ++ []) m2)) :
    Go X 3 mX1_play Q 0 [(0, .ref a0), (1, .int x1), (2, .int x2)] [] m := by
  refine g_aload_n 0 dX1_play_0 rfl rfl ?_
  refine g_iconst (v := 0) dX1_play_1 (by decide) ?_
  refine g_iload_n 1 dX1_play_2 rfl rfl ?_
  exact g_callV (As := [.int (0 : Int32), .int x1]) (st := []) dX1_play_3 clX1_37 c0 rfl rfl (Nat.le_of_ble_eq_true rfl) (rmSH (by decide) (by decide)) h1
theorem bX1_play_6 {X : pX} {Q : Option Value → pMem → Prop} {m : pMem} {a0 : Nat} {x1 : Int32} {x2 : Int32} (hW : Wf m) (c0 : SH[a0]? = some (.inl 1))
    (h1 : Cl X 2 mX1_setWorth [.ref a0, .int (1 : Int32), .int x2] m (fun v m2 => Go X 3 mX1_play Q 12 [(0, .ref a0), (1, .int x1), (2, .int x2)] (v.toList ++ []) m2)) :
    Go X 3 mX1_play Q 6 [(0, .ref a0), (1, .int x1), (2, .int x2)] [] m := by
  refine g_aload_n 0 dX1_play_6 rfl rfl ?_
  refine g_iconst (v := 1) dX1_play_7 (by decide) ?_
  refine g_iload_n 2 dX1_play_8 rfl rfl ?_
  exact g_callV (As := [.int (1 : Int32), .int x2]) (st := []) dX1_play_9 clX1_37 c0 rfl rfl (Nat.le_of_ble_eq_true rfl) (rmSH (by decide) (by decide)) h1
theorem bX1_play_12 {X : pX} {Q : Option Value → pMem → Prop} {m : pMem} {a0 : Nat} {x1 : Int32} {x2 : Int32} (hW : Wf m) (c0 : SH[a0]? = some (.inl 1))
    (h1 : Cl X 2 mX1_layOut [.ref a0, .int x1] m (fun v m2 => Go X 3 mX1_play Q 17 [(0, .ref a0), (1, .int x1), (2, .int x2)] (v.toList ++ []) m2)) :
    Go X 3 mX1_play Q 12 [(0, .ref a0), (1, .int x1), (2, .int x2)] [] m := by
  refine g_aload_n 0 dX1_play_12 rfl rfl ?_
  refine g_iload_n 1 dX1_play_13 rfl rfl ?_
  exact g_callV (As := [.int x1]) (st := []) dX1_play_14 clX1_41 c0 rfl rfl (Nat.le_of_ble_eq_true rfl) (rmSH (by decide) (by decide)) h1
theorem bX1_play_17 {X : pX} {Q : Option Value → pMem → Prop} {m : pMem} {a0 : Nat} {x1 : Int32} {x2 : Int32} {xs0 : Int32} (hW : Wf m) (c0 : SH[a0]? = some (.inl 1))
    (h1 : Cl X 1 mX8_hadBy [.ref 37, .int x1] m (fun v m2 => Go X 3 mX1_play Q 26 [(0, .ref a0), (1, .int x1), (2, .int x2), (3, .int xs0)] (v.toList ++ []) m2)) :
    Go X 3 mX1_play Q 17 [(0, .ref a0), (1, .int x1), (2, .int x2)] [.int xs0] m := by
  refine g_istore_n (ls2 := [(3, .int xs0), (0, .ref a0), (1, .int x1), (2, .int x2)]) dX1_play_17 rfl (by decide) rfl ?_
  refine g_aload_n 1 dX1_play_18 rfl rfl ?_
  refine g_getR dX1_play_19 fl1_33 rfl c0 (w1_1 hW c0) ?_
  refine g_iload_n 2 dX1_play_22 rfl rfl ?_
  refine g_ls [1, 2, 3, 0] (ls2 := [(0, .ref a0), (1, .int x1), (2, .int x2), (3, .int xs0)]) rfl ?_
  exact g_callV (As := [.int x1]) (st := []) dX1_play_23 clX1_45 sh37 rfl rfl (Nat.le_of_ble_eq_true rfl) (rmSH (by decide) (by decide)) h1
theorem bX1_play_26 {X : pX} {Q : Option Value → pMem → Prop} {m : pMem} {a0 : Nat} {x1 : Int32} {x2 : Int32} {x3 : Int32} {xs0 : Int32} (hW : Wf m) (c0 : SH[a0]? = some (.inl 1))
    (h1 : Cl X 1 mX8_hadBy [.ref 37, .int x2] m (fun v m2 => Go X 3 mX1_play Q 36 [(0, .ref a0), (1, .int x1), (2, .int x2), (3, .int x3), (4, .int xs0)] (v.toList ++ []) m2)) :
    Go X 3 mX1_play Q 26 [(0, .ref a0), (1, .int x1), (2, .int x2), (3, .int x3)] [.int xs0] m := by
  refine g_istore (ls2 := [(4, .int xs0), (0, .ref a0), (1, .int x1), (2, .int x2), (3, .int x3)]) dX1_play_26 (by decide) rfl ?_
  refine g_aload_n 1 dX1_play_28 rfl rfl ?_
  refine g_getR dX1_play_29 fl1_33 rfl c0 (w1_1 hW c0) ?_
  refine g_iload_n 3 dX1_play_32 rfl rfl ?_
  refine g_ls [1, 2, 3, 4, 0] (ls2 := [(0, .ref a0), (1, .int x1), (2, .int x2), (3, .int x3), (4, .int xs0)]) rfl ?_
  exact g_callV (As := [.int x2]) (st := []) dX1_play_33 clX1_45 sh37 rfl rfl (Nat.le_of_ble_eq_true rfl) (rmSH (by decide) (by decide)) h1
theorem bX1_play_36 {X : pX} {Q : Option Value → pMem → Prop} {m : pMem} {a0 : Nat} {x1 : Int32} {x2 : Int32} {x3 : Int32} {x4 : Int32} {xs0 : Int32} (hW : Wf m) (c0 : SH[a0]? = some (.inl 1))
    (h1 : Cl X 0 mJ9_min_7cf53 [.int x3, .int (729 : Int32)] m (fun v m2 => Go X 3 mX1_play Q 45 [(0, .ref a0), (1, .int x1), (2, .int x2), (3, .int x3), (4, .int x4), (5, .int xs0)] (v.toList ++ []) m2)) :
    Go X 3 mX1_play Q 36 [(0, .ref a0), (1, .int x1), (2, .int x2), (3, .int x3), (4, .int x4)] [.int xs0] m := by
  refine g_istore (ls2 := [(5, .int xs0), (0, .ref a0), (1, .int x1), (2, .int x2), (3, .int x3), (4, .int x4)]) dX1_play_36 (by decide) rfl ?_
  refine g_iload_n 4 dX1_play_38 rfl rfl ?_
  refine g_sipush (v := 729) dX1_play_39 (by decide) ?_
  refine g_ls [1, 2, 3, 4, 5, 0] (ls2 := [(0, .ref a0), (1, .int x1), (2, .int x2), (3, .int x3), (4, .int x4), (5, .int xs0)]) rfl ?_
  exact g_callS (As := [.int x3, .int (729 : Int32)]) (st := []) dX1_play_42 clX1_50 rfl rfl (Nat.le_of_ble_eq_true rfl) (rmSH (by decide) (by decide)) h1
theorem bX1_play_45 {X : pX} {Q : Option Value → pMem → Prop} {m : pMem} {a0 : Nat} {x1 : Int32} {x2 : Int32} {x3 : Int32} {x4 : Int32} {x5 : Int32} {xs0 : Int32} (hW : Wf m) (c0 : SH[a0]? = some (.inl 1))
    (h1 : Go X 3 mX1_play Q 49 [(0, .ref a0), (4, .int x4), (5, .int x5), (6, .int (xs0 - (1 : Int32)))] [] m) :
    Go X 3 mX1_play Q 45 [(0, .ref a0), (1, .int x1), (2, .int x2), (3, .int x3), (4, .int x4), (5, .int x5)] [.int xs0] m := by
  refine g_iconst (v := 1) dX1_play_45 (by decide) ?_
  refine g_isub dX1_play_46 ?_
  refine g_istore (ls2 := [(6, .int (xs0 - (1 : Int32))), (0, .ref a0), (1, .int x1), (2, .int x2), (3, .int x3), (4, .int x4), (5, .int x5)]) dX1_play_47 (by decide) rfl ?_
  exact g_ls [1, 5, 6, 0] rfl h1
theorem bX1_play_49 {X : pX} {Q : Option Value → pMem → Prop} {m : pMem} {a0 : Nat} {x4 : Int32} {x5 : Int32} {x6 : Int32} (hW : Wf m) (c0 : SH[a0]? = some (.inl 1))
    (h1 : x6 < 0 → Q none (uI m a0 8 (mI m (a0 + 1) 0)))
    (h2 : ¬ (x6 < 0) → Cl X 1 mX1_takenBy [.ref a0, .int x6, .int (1 : Int32)] m (fun v m2 => Go X 3 mX1_play Q 68 [(0, .ref a0), (4, .int x4), (5, .int x5), (6, .int x6)] (v.toList ++ [.int x4, .int (0 : Int32), .ref (a0 + 7)]) m2)) :
    Go X 3 mX1_play Q 49 [(0, .ref a0), (4, .int x4), (5, .int x5), (6, .int x6)] [] m := by
  refine g_iload 3 dX1_play_49 rfl ?_
  refine g_if_lt 201 dX1_play_51 (by decide) (fun q1 => ?_) (fun q1 => ?_)
  · refine g_aload_n 0 dX1_play_201 rfl rfl ?_
    refine g_aload_n 0 dX1_play_202 rfl rfl ?_
    refine g_getR dX1_play_203 fl1_11 rfl c0 (w1_2 hW c0) ?_
    refine g_iconst (v := 0) dX1_play_206 (by decide) ?_
    refine g_iald (j := 0) dX1_play_207 (s1_2 c0) (by unfold vp_in; decide) (by decide) ?_
    refine g_putI dX1_play_208 fl1_66 (fun h => by cases h) c0 ?_
    exact g_vret dX1_play_211 rfl enSH (h1 q1)
  · refine g_aload_n 0 dX1_play_54 rfl rfl ?_
    refine g_getR dX1_play_55 fl1_26 rfl c0 (w1_7 hW c0) ?_
    refine g_iconst (v := 0) dX1_play_58 (by decide) ?_
    refine g_iload 1 dX1_play_59 rfl ?_
    refine g_aload_n 0 dX1_play_61 rfl rfl ?_
    refine g_iload 3 dX1_play_62 rfl ?_
    refine g_iconst (v := 1) dX1_play_64 (by decide) ?_
    exact g_callV (As := [.int x6, .int (1 : Int32)]) (st := [.int x4, .int (0 : Int32), .ref (a0 + 7)]) dX1_play_65 clX1_56 c0 rfl rfl (Nat.le_of_ble_eq_true rfl) (rmSH (by decide) (by decide)) (h2 q1)
theorem bX1_play_68 {X : pX} {Q : Option Value → pMem → Prop} {m : pMem} {a0 : Nat} {x4 : Int32} {x5 : Int32} {x6 : Int32} {xs0 : Int32} {xs1 : Int32} {as3 : Nat} (hW : Wf m) (c0 : SH[a0]? = some (.inl 1)) (cs3 : SH[as3]? = some (.inr (.int, 2)))
    (h1 : Cl X 1 mX1_takenBy [.ref a0, .int x6, .int (2 : Int32)] (uI m as3 0 (xs1 ||| xs0)) (fun v m2 => Go X 3 mX1_play Q 84 [(0, .ref a0), (4, .int x4), (5, .int x5), (6, .int x6)] (v.toList ++ [.int x5, .int (1 : Int32), .ref (a0 + 7)]) m2)) :
    Go X 3 mX1_play Q 68 [(0, .ref a0), (4, .int x4), (5, .int x5), (6, .int x6)] [.int xs0, .int xs1, .int (0 : Int32), .ref as3] m := by
  refine g_ior dX1_play_68 ?_
  refine g_iast (j := 0) dX1_play_69 cs3 (by unfold vp_in; decide) (by decide) ?_
  refine g_aload_n 0 dX1_play_70 rfl rfl ?_
  refine g_getR dX1_play_71 fl1_26 rfl c0 (w1_7 hW c0) ?_
  refine g_iconst (v := 1) dX1_play_74 (by decide) ?_
  refine g_iload 2 dX1_play_75 rfl ?_
  refine g_aload_n 0 dX1_play_77 rfl rfl ?_
  refine g_iload 3 dX1_play_78 rfl ?_
  refine g_iconst (v := 2) dX1_play_80 (by decide) ?_
  exact g_callV (As := [.int x6, .int (2 : Int32)]) (st := [.int x5, .int (1 : Int32), .ref (a0 + 7)]) dX1_play_81 clX1_56 c0 rfl rfl (Nat.le_of_ble_eq_true rfl) (rmSH (by decide) (by decide)) h1
theorem bX1_play_84 {X : pX} {Q : Option Value → pMem → Prop} {m : pMem} {a0 : Nat} {x4 : Int32} {x5 : Int32} {x6 : Int32} {xs0 : Int32} {xs1 : Int32} {as3 : Nat} (hW : Wf m) (c0 : SH[a0]? = some (.inl 1)) (cs3 : SH[as3]? = some (.inr (.int, 2)))
    (h1 : Cl X 0 mX1_worthOfSet [.ref a0, .int (0 : Int32)] (uI m as3 1 (xs1 ||| xs0)) (fun v m2 => Go X 3 mX1_play Q 91 [(0, .ref a0), (4, .int x4), (5, .int x5), (6, .int x6)] (v.toList ++ []) m2)) :
    Go X 3 mX1_play Q 84 [(0, .ref a0), (4, .int x4), (5, .int x5), (6, .int x6)] [.int xs0, .int xs1, .int (1 : Int32), .ref as3] m := by
  refine g_ior dX1_play_84 ?_
  refine g_iast (j := 1) dX1_play_85 cs3 (by unfold vp_in; decide) (by decide) ?_
  refine g_aload_n 0 dX1_play_86 rfl rfl ?_
  refine g_iconst (v := 0) dX1_play_87 (by decide) ?_
  exact g_callV (As := [.int (0 : Int32)]) (st := []) dX1_play_88 clX1_59 c0 rfl rfl (Nat.le_of_ble_eq_true rfl) (rmSH (by decide) (by decide)) h1
theorem bX1_play_91 {X : pX} {Q : Option Value → pMem → Prop} {m : pMem} {a0 : Nat} {x4 : Int32} {x5 : Int32} {x6 : Int32} {xs0 : Int32} (hW : Wf m) (c0 : SH[a0]? = some (.inl 1))
    (h1 : Cl X 0 mX1_worthOfSet [.ref a0, .int (1 : Int32)] m (fun v m2 => Go X 3 mX1_play Q 96 [(0, .ref a0), (4, .int x4), (5, .int x5), (6, .int x6)] (v.toList ++ [.int xs0]) m2)) :
    Go X 3 mX1_play Q 91 [(0, .ref a0), (4, .int x4), (5, .int x5), (6, .int x6)] [.int xs0] m := by
  refine g_aload_n 0 dX1_play_91 rfl rfl ?_
  refine g_iconst (v := 1) dX1_play_92 (by decide) ?_
  exact g_callV (As := [.int (1 : Int32)]) (st := [.int xs0]) dX1_play_93 clX1_59 c0 rfl rfl (Nat.le_of_ble_eq_true rfl) (rmSH (by decide) (by decide)) h1
theorem bX1_play_96 {X : pX} {Q : Option Value → pMem → Prop} {m : pMem} {a0 : Nat} {x4 : Int32} {x5 : Int32} {x6 : Int32} {xs0 : Int32} {xs1 : Int32} (hW : Wf m) (c0 : SH[a0]? = some (.inl 1))
    (h1 : Cl X 1 mX1_best [.ref a0, .int x6, .int (0 : Int32), .int (xs1 - xs0)] m (fun v m2 => Go X 3 mX1_play Q 118 [(0, .ref a0), (4, .int x4), (5, .int x5), (6, .int x6), (7, .int (xs1 - xs0))] (v.toList ++ [.int ((x6 * (4 : Int32)) + (1 : Int32)), .ref (a0 + 1)]) m2)) :
    Go X 3 mX1_play Q 96 [(0, .ref a0), (4, .int x4), (5, .int x5), (6, .int x6)] [.int xs0, .int xs1] m := by
  refine g_isub dX1_play_96 ?_
  refine g_istore (ls2 := [(7, .int (xs1 - xs0)), (0, .ref a0), (4, .int x4), (5, .int x5), (6, .int x6)]) dX1_play_97 (by decide) rfl ?_
  refine g_aload_n 1 dX1_play_99 rfl rfl ?_
  refine g_getR dX1_play_100 fl1_11 rfl c0 (w1_2 hW c0) ?_
  refine g_iload 4 dX1_play_103 rfl ?_
  refine g_iconst (v := 4) dX1_play_105 (by decide) ?_
  refine g_imul dX1_play_106 ?_
  refine g_iconst (v := 1) dX1_play_107 (by decide) ?_
  refine g_iadd dX1_play_108 ?_
  refine g_aload_n 1 dX1_play_109 rfl rfl ?_
  refine g_iload 4 dX1_play_110 rfl ?_
  refine g_iconst (v := 0) dX1_play_112 (by decide) ?_
  refine g_iload 0 dX1_play_113 rfl ?_
  refine g_ls [1, 2, 3, 4, 0] (ls2 := [(0, .ref a0), (4, .int x4), (5, .int x5), (6, .int x6), (7, .int (xs1 - xs0))]) rfl ?_
  exact g_callV (As := [.int x6, .int (0 : Int32), .int (xs1 - xs0)]) (st := [.int ((x6 * (4 : Int32)) + (1 : Int32)), .ref (a0 + 1)]) dX1_play_115 clX1_62 c0 rfl rfl (Nat.le_of_ble_eq_true rfl) (rmSH (by decide) (by decide)) h1
theorem bX1_play_118 {X : pX} {Q : Option Value → pMem → Prop} {m : pMem} {a0 : Nat} {x4 : Int32} {x5 : Int32} {x6 : Int32} {x7 : Int32} {xs0 : Int32} {xs1 : Int32} {as2 : Nat} (hW : Wf m) (c0 : SH[a0]? = some (.inl 1)) (cs2 : SH[as2]? = some (.inr (.int, 2916)))
    (h1 : vp_in xs1 2916)
    (h2 : Cl X 1 mX1_best [.ref a0, .int x6, .int (1 : Int32), .int x7] (uI m as2 xs1.toNatClampNeg xs0) (fun v m2 => Go X 3 mX1_play Q 138 [(0, .ref a0), (4, .int x4), (5, .int x5), (6, .int x6), (7, .int x7)] (v.toList ++ [.int ((x6 * (4 : Int32)) + (3 : Int32)), .ref (a0 + 1)]) m2)) :
    Go X 3 mX1_play Q 118 [(0, .ref a0), (4, .int x4), (5, .int x5), (6, .int x6), (7, .int x7)] [.int xs0, .int xs1, .ref as2] m := by
  refine g_iast (j := xs1.toNatClampNeg) dX1_play_118 cs2 h1 rfl ?_
  refine g_aload_n 0 dX1_play_119 rfl rfl ?_
  refine g_getR dX1_play_120 fl1_11 rfl c0 (w1_2 hW c0) ?_
  refine g_iload 3 dX1_play_123 rfl ?_
  refine g_iconst (v := 4) dX1_play_125 (by decide) ?_
  refine g_imul dX1_play_126 ?_
  refine g_iconst (v := 3) dX1_play_127 (by decide) ?_
  refine g_iadd dX1_play_128 ?_
  refine g_aload_n 0 dX1_play_129 rfl rfl ?_
  refine g_iload 3 dX1_play_130 rfl ?_
  refine g_iconst (v := 1) dX1_play_132 (by decide) ?_
  refine g_iload 4 dX1_play_133 rfl ?_
  exact g_callV (As := [.int x6, .int (1 : Int32), .int x7]) (st := [.int ((x6 * (4 : Int32)) + (3 : Int32)), .ref (a0 + 1)]) dX1_play_135 clX1_62 c0 rfl rfl (Nat.le_of_ble_eq_true rfl) (rmSH (by decide) (by decide)) h2
theorem bX1_play_138 {X : pX} {Q : Option Value → pMem → Prop} {m : pMem} {a0 : Nat} {x4 : Int32} {x5 : Int32} {x6 : Int32} {x7 : Int32} {xs0 : Int32} {xs1 : Int32} {as2 : Nat} (hW : Wf m) (c0 : SH[a0]? = some (.inl 1)) (cs2 : SH[as2]? = some (.inr (.int, 2916)))
    (h1 : vp_in xs1 2916)
    (h2 : vp_in ((x6 * (4 : Int32)) + (1 : Int32)) 2916)
    (h3 : Cl X 1 mX1_best [.ref a0, .int x6, .int (1 : Int32), .int (mI (uI m as2 xs1.toNatClampNeg xs0) (a0 + 1) (((x6 * (4 : Int32)) + (1 : Int32)).toNatClampNeg))] (uI m as2 xs1.toNatClampNeg xs0) (fun v m2 => Go X 3 mX1_play Q 167 [(0, .ref a0), (4, .int x4), (5, .int x5), (6, .int x6), (7, .int x7)] (v.toList ++ [.int ((x6 * (4 : Int32)) + (2 : Int32)), .ref (a0 + 1)]) m2)) :
    Go X 3 mX1_play Q 138 [(0, .ref a0), (4, .int x4), (5, .int x5), (6, .int x6), (7, .int x7)] [.int xs0, .int xs1, .ref as2] m := by
  refine g_iast (j := xs1.toNatClampNeg) dX1_play_138 cs2 h1 rfl ?_
  refine g_aload_n 0 dX1_play_139 rfl rfl ?_
  refine g_getR dX1_play_140 fl1_11 rfl c0 (w1_2 hW c0) ?_
  refine g_iload 3 dX1_play_143 rfl ?_
  refine g_iconst (v := 4) dX1_play_145 (by decide) ?_
  refine g_imul dX1_play_146 ?_
  refine g_iconst (v := 2) dX1_play_147 (by decide) ?_
  refine g_iadd dX1_play_148 ?_
  refine g_aload_n 0 dX1_play_149 rfl rfl ?_
  refine g_iload 3 dX1_play_150 rfl ?_
  refine g_iconst (v := 1) dX1_play_152 (by decide) ?_
  refine g_aload_n 0 dX1_play_153 rfl rfl ?_
  refine g_getR dX1_play_154 fl1_11 rfl c0 (w1_2 hW c0) ?_
  refine g_iload 3 dX1_play_157 rfl ?_
  refine g_iconst (v := 4) dX1_play_159 (by decide) ?_
  refine g_imul dX1_play_160 ?_
  refine g_iconst (v := 1) dX1_play_161 (by decide) ?_
  refine g_iadd dX1_play_162 ?_
  refine g_iald (j := ((x6 * (4 : Int32)) + (1 : Int32)).toNatClampNeg) dX1_play_163 (s1_2 c0) h2 rfl ?_
  exact g_callV (As := [.int x6, .int (1 : Int32), .int (mI (uI m as2 xs1.toNatClampNeg xs0) (a0 + 1) (((x6 * (4 : Int32)) + (1 : Int32)).toNatClampNeg))]) (st := [.int ((x6 * (4 : Int32)) + (2 : Int32)), .ref (a0 + 1)]) dX1_play_164 clX1_62 c0 rfl rfl (Nat.le_of_ble_eq_true rfl) (rmSH (by decide) (by decide)) h3
theorem bX1_play_167 {X : pX} {Q : Option Value → pMem → Prop} {m : pMem} {a0 : Nat} {x4 : Int32} {x5 : Int32} {x6 : Int32} {x7 : Int32} {xs0 : Int32} {xs1 : Int32} {as2 : Nat} (hW : Wf m) (c0 : SH[a0]? = some (.inl 1)) (cs2 : SH[as2]? = some (.inr (.int, 2916)))
    (h1 : vp_in xs1 2916)
    (h2 : vp_in ((x6 * (4 : Int32)) + (3 : Int32)) 2916)
    (h3 : Cl X 1 mX1_best [.ref a0, .int x6, .int (0 : Int32), .int (mI (uI m as2 xs1.toNatClampNeg xs0) (a0 + 1) (((x6 * (4 : Int32)) + (3 : Int32)).toNatClampNeg))] (uI m as2 xs1.toNatClampNeg xs0) (fun v m2 => Go X 3 mX1_play Q 194 [(0, .ref a0), (4, .int x4), (5, .int x5), (6, .int x6), (7, .int x7)] (v.toList ++ [.int (x6 * (4 : Int32)), .ref (a0 + 1)]) m2)) :
    Go X 3 mX1_play Q 167 [(0, .ref a0), (4, .int x4), (5, .int x5), (6, .int x6), (7, .int x7)] [.int xs0, .int xs1, .ref as2] m := by
  refine g_iast (j := xs1.toNatClampNeg) dX1_play_167 cs2 h1 rfl ?_
  refine g_aload_n 0 dX1_play_168 rfl rfl ?_
  refine g_getR dX1_play_169 fl1_11 rfl c0 (w1_2 hW c0) ?_
  refine g_iload 3 dX1_play_172 rfl ?_
  refine g_iconst (v := 4) dX1_play_174 (by decide) ?_
  refine g_imul dX1_play_175 ?_
  refine g_aload_n 0 dX1_play_176 rfl rfl ?_
  refine g_iload 3 dX1_play_177 rfl ?_
  refine g_iconst (v := 0) dX1_play_179 (by decide) ?_
  refine g_aload_n 0 dX1_play_180 rfl rfl ?_
  refine g_getR dX1_play_181 fl1_11 rfl c0 (w1_2 hW c0) ?_
  refine g_iload 3 dX1_play_184 rfl ?_
  refine g_iconst (v := 4) dX1_play_186 (by decide) ?_
  refine g_imul dX1_play_187 ?_
  refine g_iconst (v := 3) dX1_play_188 (by decide) ?_
  refine g_iadd dX1_play_189 ?_
  refine g_iald (j := ((x6 * (4 : Int32)) + (3 : Int32)).toNatClampNeg) dX1_play_190 (s1_2 c0) h2 rfl ?_
  exact g_callV (As := [.int x6, .int (0 : Int32), .int (mI (uI m as2 xs1.toNatClampNeg xs0) (a0 + 1) (((x6 * (4 : Int32)) + (3 : Int32)).toNatClampNeg))]) (st := [.int (x6 * (4 : Int32)), .ref (a0 + 1)]) dX1_play_191 clX1_62 c0 rfl rfl (Nat.le_of_ble_eq_true rfl) (rmSH (by decide) (by decide)) h3
theorem bX1_play_194 {X : pX} {Q : Option Value → pMem → Prop} {m : pMem} {a0 : Nat} {x4 : Int32} {x5 : Int32} {x6 : Int32} {x7 : Int32} {xs0 : Int32} {xs1 : Int32} {as2 : Nat} (hW : Wf m) (c0 : SH[a0]? = some (.inl 1)) (cs2 : SH[as2]? = some (.inr (.int, 2916)))
    (h1 : vp_in xs1 2916)
    (h2 : Go X 3 mX1_play Q 49 [(0, .ref a0), (4, .int x4), (5, .int x5), (6, .int (x6 + (-1 : Int32)))] [] (uI m as2 xs1.toNatClampNeg xs0)) :
    Go X 3 mX1_play Q 194 [(0, .ref a0), (4, .int x4), (5, .int x5), (6, .int x6), (7, .int x7)] [.int xs0, .int xs1, .ref as2] m := by
  refine g_iast (j := xs1.toNatClampNeg) dX1_play_194 cs2 h1 rfl ?_
  refine g_iinc (v := x6 + (-1 : Int32)) (ls2 := [(6, .int (x6 + (-1 : Int32))), (0, .ref a0), (4, .int x4), (5, .int x5), (7, .int x7)]) 3 dX1_play_195 rfl rfl (by decide) rfl ?_
  refine g_goto 49 dX1_play_198 (by decide) ?_
  exact g_ls [1, 2, 3, 0] rfl h2
theorem bX1_setWorth_0 {X : pX} {Q : Option Value → pMem → Prop} {m : pMem} {a0 : Nat} {x1 : Int32} {x2 : Int32} (hW : Wf m) (c0 : SH[a0]? = some (.inl 1))
    (h1 : Go X 2 mX1_setWorth Q 2 [(0, .ref a0), (1, .int x1), (2, .int x2), (3, .int (0 : Int32))] [] m) :
    Go X 2 mX1_setWorth Q 0 [(0, .ref a0), (1, .int x1), (2, .int x2)] [] m := by
  refine g_iconst (v := 0) dX1_setWorth_0 (by decide) ?_
  refine g_istore_n (ls2 := [(3, .int (0 : Int32)), (0, .ref a0), (1, .int x1), (2, .int x2)]) dX1_setWorth_1 rfl (by decide) rfl ?_
  exact g_ls [1, 2, 3, 0] rfl h1
theorem bX1_setWorth_2 {X : pX} {Q : Option Value → pMem → Prop} {m : pMem} {a0 : Nat} {x1 : Int32} {x2 : Int32} {x3 : Int32} (hW : Wf m) (c0 : SH[a0]? = some (.inl 1))
    (h1 : (64 : Int32) ≤ x3 → Q none m)
    (h2 : ¬ ((64 : Int32) ≤ x3) → vp_in x1 2)
    (h3 : ¬ ((64 : Int32) ≤ x3) → Cl X 0 mX4_worthOf [.ref 31, .int x3] m (fun v m2 => Go X 2 mX1_setWorth Q 23 [(0, .ref a0), (1, .int x1), (2, .int x2), (3, .int x3)] (v.toList ++ [.int x3, .ref (518 + x1.toNatClampNeg)]) m2)) :
    Go X 2 mX1_setWorth Q 2 [(0, .ref a0), (1, .int x1), (2, .int x2), (3, .int x3)] [] m := by
  refine g_iload_n 3 dX1_setWorth_2 rfl rfl ?_
  refine g_bipush (v := 64) dX1_setWorth_3 (by decide) ?_
  refine g_icmp_ge 56 dX1_setWorth_5 (by decide) (fun q1 => ?_) (fun q1 => ?_)
  · exact g_vret dX1_setWorth_56 rfl enSH (h1 q1)
  · refine g_aload_n 0 dX1_setWorth_8 rfl rfl ?_
    refine g_getR dX1_setWorth_9 fl1_17 rfl c0 (w1_3 hW c0) ?_
    refine g_iload_n 1 dX1_setWorth_12 rfl rfl ?_
    refine g_aaldA dX1_setWorth_13 sh517 (h2 q1) rfl (wWorth hW (inN (h2 q1))) ?_
    refine g_iload_n 3 dX1_setWorth_14 rfl rfl ?_
    refine g_aload_n 0 dX1_setWorth_15 rfl rfl ?_
    refine g_getR dX1_setWorth_16 fl1_29 rfl c0 (w1_0 hW c0) ?_
    refine g_iload_n 3 dX1_setWorth_19 rfl rfl ?_
    exact g_callV (As := [.int x3]) (st := [.int x3, .ref (518 + x1.toNatClampNeg)]) dX1_setWorth_20 clX1_70 sh31 rfl rfl (Nat.le_of_ble_eq_true rfl) (rmSH (by decide) (by decide)) (h3 q1)
theorem bX1_setWorth_23 {X : pX} {Q : Option Value → pMem → Prop} {m : pMem} {a0 : Nat} {x1 : Int32} {x2 : Int32} {x3 : Int32} {xs0 : Int32} {xs1 : Int32} {as2 : Nat} (hW : Wf m) (c0 : SH[a0]? = some (.inl 1)) (cs2 : SH[as2]? = some (.inr (.int, 64)))
    (h1 : vp_in x2 4)
    (h2 : Cl X 1 mX4_daysFor [.ref 31, .int x2, .int (mI m 38 x2.toNatClampNeg), .int (mI m 31 2), .int x3] m (fun v m2 => Go X 2 mX1_setWorth Q 48 [(0, .ref a0), (1, .int x1), (2, .int x2), (3, .int x3)] (v.toList ++ [.int xs0, .int xs1, .ref as2]) m2)) :
    Go X 2 mX1_setWorth Q 23 [(0, .ref a0), (1, .int x1), (2, .int x2), (3, .int x3)] [.int xs0, .int xs1, .ref as2] m := by
  refine g_aload_n 0 dX1_setWorth_23 rfl rfl ?_
  refine g_getR dX1_setWorth_24 fl1_29 rfl c0 (w1_0 hW c0) ?_
  refine g_iload_n 2 dX1_setWorth_27 rfl rfl ?_
  refine g_aload_n 0 dX1_setWorth_28 rfl rfl ?_
  refine g_getR dX1_setWorth_29 fl1_33 rfl c0 (w1_1 hW c0) ?_
  refine g_getR dX1_setWorth_32 fl1_75 rfl sh37 (w8_1 hW sh37) ?_
  refine g_iload_n 2 dX1_setWorth_35 rfl rfl ?_
  refine g_iald (j := x2.toNatClampNeg) dX1_setWorth_36 (s8_1 sh37) h1 rfl ?_
  refine g_aload_n 0 dX1_setWorth_37 rfl rfl ?_
  refine g_getR dX1_setWorth_38 fl1_29 rfl c0 (w1_0 hW c0) ?_
  refine g_getI dX1_setWorth_41 fl1_78 sh31 ?_
  refine g_iload_n 3 dX1_setWorth_44 rfl rfl ?_
  exact g_callV (As := [.int x2, .int (mI m 38 x2.toNatClampNeg), .int (mI m 31 2), .int x3]) (st := [.int xs0, .int xs1, .ref as2]) dX1_setWorth_45 clX1_81 sh31 rfl rfl (Nat.le_of_ble_eq_true rfl) (rmSH (by decide) (by decide)) h2
theorem bX1_setWorth_48 {X : pX} {Q : Option Value → pMem → Prop} {m : pMem} {a0 : Nat} {x1 : Int32} {x2 : Int32} {x3 : Int32} {xs0 : Int32} {xs1 : Int32} {xs2 : Int32} {as3 : Nat} (hW : Wf m) (c0 : SH[a0]? = some (.inl 1)) (cs3 : SH[as3]? = some (.inr (.int, 64)))
    (h1 : vp_in xs2 64)
    (h2 : Go X 2 mX1_setWorth Q 2 [(0, .ref a0), (1, .int x1), (2, .int x2), (3, .int (x3 + (1 : Int32)))] [] (uI m as3 xs2.toNatClampNeg (xs1 - xs0))) :
    Go X 2 mX1_setWorth Q 48 [(0, .ref a0), (1, .int x1), (2, .int x2), (3, .int x3)] [.int xs0, .int xs1, .int xs2, .ref as3] m := by
  refine g_isub dX1_setWorth_48 ?_
  refine g_iast (j := xs2.toNatClampNeg) dX1_setWorth_49 cs3 h1 rfl ?_
  refine g_iinc (v := x3 + (1 : Int32)) (ls2 := [(3, .int (x3 + (1 : Int32))), (0, .ref a0), (1, .int x1), (2, .int x2)]) 3 dX1_setWorth_50 rfl rfl (by decide) rfl ?_
  refine g_goto 2 dX1_setWorth_53 (by decide) ?_
  exact g_ls [1, 2, 3, 0] rfl h2
theorem bX1_worthOfSet_0 {X : pX} {Q : Option Value → pMem → Prop} {m : pMem} {a0 : Nat} {x1 : Int32} (hW : Wf m) (c0 : SH[a0]? = some (.inl 1))
    (h1 : vp_in x1 2)
    (h2 : (mI m (a0 + 7) x1.toNatClampNeg) < 0 → Q (some (.int (0 : Int32))) m)
    (h3 : ¬ ((mI m (a0 + 7) x1.toNatClampNeg) < 0) → (64 : Int32) ≤ (mI m (a0 + 7) x1.toNatClampNeg) → Q (some (.int (0 : Int32))) m)
    (h4 : ¬ ((mI m (a0 + 7) x1.toNatClampNeg) < 0) → ¬ ((64 : Int32) ≤ (mI m (a0 + 7) x1.toNatClampNeg)) → vp_in x1 2)
    (h5 : ¬ ((mI m (a0 + 7) x1.toNatClampNeg) < 0) → ¬ ((64 : Int32) ≤ (mI m (a0 + 7) x1.toNatClampNeg)) → vp_in (mI m (a0 + 7) x1.toNatClampNeg) 64)
    (h6 : ¬ ((mI m (a0 + 7) x1.toNatClampNeg) < 0) → ¬ ((64 : Int32) ≤ (mI m (a0 + 7) x1.toNatClampNeg)) → Q (some (.int (mI m (518 + x1.toNatClampNeg) ((mI m (a0 + 7) x1.toNatClampNeg).toNatClampNeg)))) m) :
    Go X 0 mX1_worthOfSet Q 0 [(0, .ref a0), (1, .int x1)] [] m := by
  refine g_aload_n 0 dX1_worthOfSet_0 rfl rfl ?_
  refine g_getR dX1_worthOfSet_1 fl1_26 rfl c0 (w1_7 hW c0) ?_
  refine g_iload_n 1 dX1_worthOfSet_4 rfl rfl ?_
  refine g_iald (j := x1.toNatClampNeg) dX1_worthOfSet_5 (s1_7 c0) h1 rfl ?_
  refine g_istore_n (ls2 := [(2, .int (mI m (a0 + 7) x1.toNatClampNeg)), (0, .ref a0), (1, .int x1)]) dX1_worthOfSet_6 rfl (by decide) rfl ?_
  refine g_iload_n 0 dX1_worthOfSet_7 rfl rfl ?_
  refine g_if_lt 28 dX1_worthOfSet_8 (by decide) (fun q1 => ?_) (fun q1 => ?_)
  · refine g_iconst (v := 0) dX1_worthOfSet_28 (by decide) ?_
    exact g_iret dX1_worthOfSet_29 rfl enSH (h2 q1)
  · refine g_iload_n 0 dX1_worthOfSet_11 rfl rfl ?_
    refine g_bipush (v := 64) dX1_worthOfSet_12 (by decide) ?_
    refine g_icmp_ge 28 dX1_worthOfSet_14 (by decide) (fun q2 => ?_) (fun q2 => ?_)
    · refine g_iconst (v := 0) dX1_worthOfSet_28 (by decide) ?_
      exact g_iret dX1_worthOfSet_29 rfl enSH (h3 q1 q2)
    · refine g_aload_n 1 dX1_worthOfSet_17 rfl rfl ?_
      refine g_getR dX1_worthOfSet_18 fl1_17 rfl c0 (w1_3 hW c0) ?_
      refine g_iload_n 2 dX1_worthOfSet_21 rfl rfl ?_
      refine g_aaldA dX1_worthOfSet_22 sh517 (h4 q1 q2) rfl (wWorth hW (inN (h4 q1 q2))) ?_
      refine g_iload_n 0 dX1_worthOfSet_23 rfl rfl ?_
      refine g_iald (j := (mI m (a0 + 7) x1.toNatClampNeg).toNatClampNeg) dX1_worthOfSet_24 (shWorth _ (inN (h4 q1 q2))) (h5 q1 q2) rfl ?_
      refine g_goto 29 dX1_worthOfSet_25 (by decide) ?_
      exact g_iret dX1_worthOfSet_29 rfl enSH (h6 q1 q2)
theorem bX1_layOut_0 {X : pX} {Q : Option Value → pMem → Prop} {m : pMem} {a0 : Nat} {x1 : Int32} (hW : Wf m) (c0 : SH[a0]? = some (.inl 1))
    (h1 : Cl X 1 mX8_lyingBy [.ref 37, .int x1] m (fun v m2 => Go X 2 mX1_layOut Q 8 [(0, .ref a0), (1, .int x1)] (v.toList ++ []) m2)) :
    Go X 2 mX1_layOut Q 0 [(0, .ref a0), (1, .int x1)] [] m := by
  refine g_aload_n 0 dX1_layOut_0 rfl rfl ?_
  refine g_getR dX1_layOut_1 fl1_33 rfl c0 (w1_1 hW c0) ?_
  refine g_iload_n 1 dX1_layOut_4 rfl rfl ?_
  exact g_callV (As := [.int x1]) (st := []) dX1_layOut_5 clX1_85 sh37 rfl rfl (Nat.le_of_ble_eq_true rfl) (rmSH (by decide) (by decide)) h1
theorem bX1_layOut_8 {X : pX} {Q : Option Value → pMem → Prop} {m : pMem} {a0 : Nat} {x1 : Int32} {xs0 : Int32} (hW : Wf m) (c0 : SH[a0]? = some (.inl 1))
    (h1 : Go X 2 mX1_layOut Q 19 [(0, .ref a0), (2, .int xs0), (3, .int (1 : Int32)), (4, .int (0 : Int32))] [] (uI m a0 6 (0 : Int32))) :
    Go X 2 mX1_layOut Q 8 [(0, .ref a0), (1, .int x1)] [.int xs0] m := by
  refine g_istore_n (ls2 := [(2, .int xs0), (0, .ref a0), (1, .int x1)]) dX1_layOut_8 rfl (by decide) rfl ?_
  refine g_iconst (v := 1) dX1_layOut_9 (by decide) ?_
  refine g_istore_n (ls2 := [(3, .int (1 : Int32)), (2, .int xs0), (0, .ref a0), (1, .int x1)]) dX1_layOut_10 rfl (by decide) rfl ?_
  refine g_aload_n 2 dX1_layOut_11 rfl rfl ?_
  refine g_iconst (v := 0) dX1_layOut_12 (by decide) ?_
  refine g_putI dX1_layOut_13 fl1_88 (fun h => by cases h) c0 ?_
  refine g_iconst (v := 0) dX1_layOut_16 (by decide) ?_
  refine g_istore (ls2 := [(4, .int (0 : Int32)), (3, .int (1 : Int32)), (2, .int xs0), (0, .ref a0), (1, .int x1)]) dX1_layOut_17 (by decide) rfl ?_
  exact g_ls [3, 2, 1, 0] rfl h1
theorem bX1_layOut_19 {X : pX} {Q : Option Value → pMem → Prop} {m : pMem} {a0 : Nat} {x2 : Int32} {x3 : Int32} {x4 : Int32} (hW : Wf m) (c0 : SH[a0]? = some (.inl 1))
    (h1 : (6 : Int32) ≤ x4 → Q (some (.int x3)) m)
    (h2 : ¬ ((6 : Int32) ≤ x4) → ¬ ((x2 >>> (x4 &&& 31)) &&& (1 : Int32)) = (1 : Int32) → Go X 2 mX1_layOut Q 19 [(0, .ref a0), (2, .int x2), (3, .int x3), (4, .int (x4 + (1 : Int32)))] [] m)
    (h3 : ¬ ((6 : Int32) ≤ x4) → ((x2 >>> (x4 &&& 31)) &&& (1 : Int32)) = (1 : Int32) → vp_in (mI m a0 6) 6)
    (h4 : ¬ ((6 : Int32) ≤ x4) → ((x2 >>> (x4 &&& 31)) &&& (1 : Int32)) = (1 : Int32) → vp_in (mI (uI m (a0 + 5) ((mI m a0 6).toNatClampNeg) x4) a0 6) 6)
    (h5 : ¬ ((6 : Int32) ≤ x4) → ((x2 >>> (x4 &&& 31)) &&& (1 : Int32)) = (1 : Int32) → Go X 2 mX1_layOut Q 19 [(0, .ref a0), (2, .int x2), (3, .int (x3 * (3 : Int32))), (4, .int (x4 + (1 : Int32)))] [] (uI (uI (uI m (a0 + 5) ((mI m a0 6).toNatClampNeg) x4) (a0 + 6) ((mI (uI m (a0 + 5) ((mI m a0 6).toNatClampNeg) x4) a0 6).toNatClampNeg) x3) a0 6 ((mI (uI (uI m (a0 + 5) ((mI m a0 6).toNatClampNeg) x4) (a0 + 6) ((mI (uI m (a0 + 5) ((mI m a0 6).toNatClampNeg) x4) a0 6).toNatClampNeg) x3) a0 6) + (1 : Int32)))) :
    Go X 2 mX1_layOut Q 19 [(0, .ref a0), (2, .int x2), (3, .int x3), (4, .int x4)] [] m := by
  refine g_iload 3 dX1_layOut_19 rfl ?_
  refine g_bipush (v := 6) dX1_layOut_21 (by decide) ?_
  refine g_icmp_ge 77 dX1_layOut_23 (by decide) (fun q1 => ?_) (fun q1 => ?_)
  · refine g_iload_n 2 dX1_layOut_77 rfl rfl ?_
    exact g_iret dX1_layOut_78 rfl enSH (h1 q1)
  · refine g_iload_n 1 dX1_layOut_26 rfl rfl ?_
    refine g_iload 3 dX1_layOut_27 rfl ?_
    refine g_ishr dX1_layOut_29 ?_
    refine g_iconst (v := 1) dX1_layOut_30 (by decide) ?_
    refine g_iand dX1_layOut_31 ?_
    refine g_iconst (v := 1) dX1_layOut_32 (by decide) ?_
    refine g_icmp_ne 71 dX1_layOut_33 (by decide) (fun q2 => ?_) (fun q2 => ?_)
    · refine g_iinc (v := x4 + (1 : Int32)) (ls2 := [(4, .int (x4 + (1 : Int32))), (0, .ref a0), (2, .int x2), (3, .int x3)]) 3 dX1_layOut_71 rfl rfl (by decide) rfl ?_
      refine g_goto 19 dX1_layOut_74 (by decide) ?_
      exact g_ls [1, 2, 3, 0] rfl (h2 q1 q2)
    · refine g_aload_n 0 dX1_layOut_36 rfl rfl ?_
      refine g_getR dX1_layOut_37 fl1_20 rfl c0 (w1_4 hW c0) ?_
      refine g_aload_n 0 dX1_layOut_40 rfl rfl ?_
      refine g_getI dX1_layOut_41 fl1_88 c0 ?_
      refine g_iload 3 dX1_layOut_44 rfl ?_
      refine g_iast (j := (mI m a0 6).toNatClampNeg) dX1_layOut_46 (s1_4 c0) (h3 q1 q2) rfl ?_
      refine g_aload_n 0 dX1_layOut_47 rfl rfl ?_
      refine g_getR dX1_layOut_48 fl1_23 rfl c0 (w1_5 hW c0) ?_
      refine g_aload_n 0 dX1_layOut_51 rfl rfl ?_
      refine g_getI dX1_layOut_52 fl1_88 c0 ?_
      refine g_iload_n 2 dX1_layOut_55 rfl rfl ?_
      refine g_iast (j := (mI (uI m (a0 + 5) ((mI m a0 6).toNatClampNeg) x4) a0 6).toNatClampNeg) dX1_layOut_56 (s1_5 c0) (h4 q1 q2) rfl ?_
      refine g_aload_n 0 dX1_layOut_57 rfl rfl ?_
      refine g_dup dX1_layOut_58 rfl ?_
      refine g_getI dX1_layOut_59 fl1_88 c0 ?_
      refine g_iconst (v := 1) dX1_layOut_62 (by decide) ?_
      refine g_iadd dX1_layOut_63 ?_
      refine g_putI dX1_layOut_64 fl1_88 (fun h => by cases h) c0 ?_
      refine g_iload_n 2 dX1_layOut_67 rfl rfl ?_
      refine g_iconst (v := 3) dX1_layOut_68 (by decide) ?_
      refine g_imul dX1_layOut_69 ?_
      refine g_istore_n (ls2 := [(3, .int (x3 * (3 : Int32))), (0, .ref a0), (2, .int x2), (4, .int x4)]) dX1_layOut_70 rfl (by decide) rfl ?_
      refine g_iinc (v := x4 + (1 : Int32)) (ls2 := [(4, .int (x4 + (1 : Int32))), (3, .int (x3 * (3 : Int32))), (0, .ref a0), (2, .int x2)]) 3 dX1_layOut_71 rfl rfl (by decide) rfl ?_
      refine g_goto 19 dX1_layOut_74 (by decide) ?_
      exact g_ls [2, 3, 1, 0] rfl (h5 q1 q2)
theorem bX1_isDigit_0 {X : pX} {Q : Option Value → pMem → Prop} {m : pMem} {x0 : Int32} {x1 : Int32} {x2 : Int32} (hW : Wf m)
    (h1 : x1 ≤ 0 → Q (some (.int (0 : Int32))) m)
    (h2 : ¬ (x1 ≤ 0) → ¬ x1 = 0)
    (h3 : ¬ (x1 ≤ 0) → ¬ ((x0 / x1) - (x0 / x1) / (3 : Int32) * (3 : Int32)) = x2 → Q (some (.int (0 : Int32))) m)
    (h4 : ¬ (x1 ≤ 0) → ((x0 / x1) - (x0 / x1) / (3 : Int32) * (3 : Int32)) = x2 → Q (some (.int (1 : Int32))) m) :
    Go X 0 mX1_isDigit Q 0 [(0, .int x0), (1, .int x1), (2, .int x2)] [] m := by
  refine g_iload_n 1 dX1_isDigit_0 rfl rfl ?_
  refine g_if_le 17 dX1_isDigit_1 (by decide) (fun q1 => ?_) (fun q1 => ?_)
  · refine g_iconst (v := 0) dX1_isDigit_17 (by decide) ?_
    exact g_bret dX1_isDigit_18 rfl (Or.inl rfl) enSH (h1 q1)
  · refine g_iload_n 0 dX1_isDigit_4 rfl rfl ?_
    refine g_iload_n 1 dX1_isDigit_5 rfl rfl ?_
    refine g_idiv dX1_isDigit_6 (h2 q1) ?_
    refine g_iconst (v := 3) dX1_isDigit_7 (by decide) ?_
    refine g_irem dX1_isDigit_8 (by decide) ?_
    refine g_iload_n 2 dX1_isDigit_9 rfl rfl ?_
    refine g_icmp_ne 17 dX1_isDigit_10 (by decide) (fun q2 => ?_) (fun q2 => ?_)
    · refine g_iconst (v := 0) dX1_isDigit_17 (by decide) ?_
      exact g_bret dX1_isDigit_18 rfl (Or.inl rfl) enSH (h3 q1 q2)
    · refine g_iconst (v := 1) dX1_isDigit_13 (by decide) ?_
      refine g_goto 18 dX1_isDigit_14 (by decide) ?_
      exact g_bret dX1_isDigit_18 rfl (Or.inr rfl) enSH (h4 q1 q2)
theorem bX1_takenBy_0 {X : pX} {Q : Option Value → pMem → Prop} {m : pMem} {a0 : Nat} {x1 : Int32} {x2 : Int32} (hW : Wf m) (c0 : SH[a0]? = some (.inl 1))
    (h1 : Go X 1 mX1_takenBy Q 5 [(0, .ref a0), (1, .int x1), (2, .int x2), (3, .int (0 : Int32)), (4, .int (0 : Int32))] [] m) :
    Go X 1 mX1_takenBy Q 0 [(0, .ref a0), (1, .int x1), (2, .int x2)] [] m := by
  refine g_iconst (v := 0) dX1_takenBy_0 (by decide) ?_
  refine g_istore_n (ls2 := [(3, .int (0 : Int32)), (0, .ref a0), (1, .int x1), (2, .int x2)]) dX1_takenBy_1 rfl (by decide) rfl ?_
  refine g_iconst (v := 0) dX1_takenBy_2 (by decide) ?_
  refine g_istore (ls2 := [(4, .int (0 : Int32)), (3, .int (0 : Int32)), (0, .ref a0), (1, .int x1), (2, .int x2)]) dX1_takenBy_3 (by decide) rfl ?_
  exact g_ls [2, 3, 4, 1, 0] rfl h1
theorem bX1_takenBy_5 {X : pX} {Q : Option Value → pMem → Prop} {m : pMem} {a0 : Nat} {x1 : Int32} {x2 : Int32} {x3 : Int32} {x4 : Int32} (hW : Wf m) (c0 : SH[a0]? = some (.inl 1))
    (h1 : (mI m a0 6) ≤ x4 → Q (some (.int x3)) m)
    (h2 : ¬ ((mI m a0 6) ≤ x4) → (6 : Int32) ≤ x4 → Q (some (.int x3)) m)
    (h3 : ¬ ((mI m a0 6) ≤ x4) → ¬ ((6 : Int32) ≤ x4) → vp_in x4 6)
    (h4 : ¬ ((mI m a0 6) ≤ x4) → ¬ ((6 : Int32) ≤ x4) → Cl X 0 mX1_isDigit [.int x1, .int (mI m (a0 + 6) x4.toNatClampNeg), .int x2] m (fun v m2 => Go X 1 mX1_takenBy Q 33 [(0, .ref a0), (1, .int x1), (2, .int x2), (3, .int x3), (4, .int x4)] (v.toList ++ []) m2)) :
    Go X 1 mX1_takenBy Q 5 [(0, .ref a0), (1, .int x1), (2, .int x2), (3, .int x3), (4, .int x4)] [] m := by
  refine g_iload 4 dX1_takenBy_5 rfl ?_
  refine g_aload_n 0 dX1_takenBy_7 rfl rfl ?_
  refine g_getI dX1_takenBy_8 fl1_88 c0 ?_
  refine g_icmp_ge 54 dX1_takenBy_11 (by decide) (fun q1 => ?_) (fun q1 => ?_)
  · refine g_iload_n 3 dX1_takenBy_54 rfl rfl ?_
    exact g_iret dX1_takenBy_55 rfl enSH (h1 q1)
  · refine g_iload 4 dX1_takenBy_14 rfl ?_
    refine g_bipush (v := 6) dX1_takenBy_16 (by decide) ?_
    refine g_icmp_ge 54 dX1_takenBy_18 (by decide) (fun q2 => ?_) (fun q2 => ?_)
    · refine g_iload_n 3 dX1_takenBy_54 rfl rfl ?_
      exact g_iret dX1_takenBy_55 rfl enSH (h2 q1 q2)
    · refine g_iload_n 1 dX1_takenBy_21 rfl rfl ?_
      refine g_aload_n 0 dX1_takenBy_22 rfl rfl ?_
      refine g_getR dX1_takenBy_23 fl1_23 rfl c0 (w1_5 hW c0) ?_
      refine g_iload 4 dX1_takenBy_26 rfl ?_
      refine g_iald (j := x4.toNatClampNeg) dX1_takenBy_28 (s1_5 c0) (h3 q1 q2) rfl ?_
      refine g_iload_n 2 dX1_takenBy_29 rfl rfl ?_
      exact g_callS (As := [.int x1, .int (mI m (a0 + 6) x4.toNatClampNeg), .int x2]) (st := []) dX1_takenBy_30 clX1_91 rfl rfl (Nat.le_of_ble_eq_true rfl) (rmSH (by decide) (by decide)) (h4 q1 q2)
theorem bX1_takenBy_33 {X : pX} {Q : Option Value → pMem → Prop} {m : pMem} {a0 : Nat} {x1 : Int32} {x2 : Int32} {x3 : Int32} {x4 : Int32} {xs0 : Int32} (hW : Wf m) (c0 : SH[a0]? = some (.inl 1))
    (h1 : xs0 = 0 → Go X 1 mX1_takenBy Q 5 [(0, .ref a0), (1, .int x1), (2, .int x2), (3, .int x3), (4, .int (x4 + (1 : Int32)))] [] m)
    (h2 : ¬ (xs0 = 0) → vp_in x4 6)
    (h3 : ¬ (xs0 = 0) → Go X 1 mX1_takenBy Q 5 [(0, .ref a0), (1, .int x1), (2, .int x2), (3, .int (x3 ||| ((1 : Int32) <<< ((mI m (a0 + 5) x4.toNatClampNeg) &&& 31)))), (4, .int (x4 + (1 : Int32)))] [] m) :
    Go X 1 mX1_takenBy Q 33 [(0, .ref a0), (1, .int x1), (2, .int x2), (3, .int x3), (4, .int x4)] [.int xs0] m := by
  refine g_if_eq 48 dX1_takenBy_33 (by decide) (fun q1 => ?_) (fun q1 => ?_)
  · refine g_iinc (v := x4 + (1 : Int32)) (ls2 := [(4, .int (x4 + (1 : Int32))), (0, .ref a0), (1, .int x1), (2, .int x2), (3, .int x3)]) 4 dX1_takenBy_48 rfl rfl (by decide) rfl ?_
    refine g_goto 5 dX1_takenBy_51 (by decide) ?_
    exact g_ls [1, 2, 3, 4, 0] rfl (h1 q1)
  · refine g_iload_n 3 dX1_takenBy_36 rfl rfl ?_
    refine g_iconst (v := 1) dX1_takenBy_37 (by decide) ?_
    refine g_aload_n 0 dX1_takenBy_38 rfl rfl ?_
    refine g_getR dX1_takenBy_39 fl1_20 rfl c0 (w1_4 hW c0) ?_
    refine g_iload 4 dX1_takenBy_42 rfl ?_
    refine g_iald (j := x4.toNatClampNeg) dX1_takenBy_44 (s1_4 c0) (h2 q1) rfl ?_
    refine g_ishl dX1_takenBy_45 ?_
    refine g_ior dX1_takenBy_46 ?_
    refine g_istore_n (ls2 := [(3, .int (x3 ||| ((1 : Int32) <<< ((mI m (a0 + 5) x4.toNatClampNeg) &&& 31)))), (0, .ref a0), (1, .int x1), (2, .int x2), (4, .int x4)]) dX1_takenBy_47 rfl (by decide) rfl ?_
    refine g_iinc (v := x4 + (1 : Int32)) (ls2 := [(4, .int (x4 + (1 : Int32))), (3, .int (x3 ||| ((1 : Int32) <<< ((mI m (a0 + 5) x4.toNatClampNeg) &&& 31)))), (0, .ref a0), (1, .int x1), (2, .int x2)]) 4 dX1_takenBy_48 rfl rfl (by decide) rfl ?_
    refine g_goto 5 dX1_takenBy_51 (by decide) ?_
    exact g_ls [2, 3, 4, 1, 0] rfl (h3 q1)
theorem bX1_best_0 {X : pX} {Q : Option Value → pMem → Prop} {m : pMem} {a0 : Nat} {x1 : Int32} {x2 : Int32} {x3 : Int32} (hW : Wf m) (c0 : SH[a0]? = some (.inl 1))
    (h1 : vp_in x2 2)
    (h2 : Cl X 0 mJ6_bitCount_0f7a4 [.int (mI (uI m a0 9 (-1 : Int32)) (a0 + 7) x2.toNatClampNeg)] (uI m a0 9 (-1 : Int32)) (fun v m2 => Go X 1 mX1_best Q 17 [(0, .ref a0), (1, .int x1), (2, .int x2), (3, .int x3), (4, .int x3)] (v.toList ++ []) m2)) :
    Go X 1 mX1_best Q 0 [(0, .ref a0), (1, .int x1), (2, .int x2), (3, .int x3)] [] m := by
  refine g_iload_n 3 dX1_best_0 rfl rfl ?_
  refine g_istore (ls2 := [(4, .int x3), (0, .ref a0), (1, .int x1), (2, .int x2), (3, .int x3)]) dX1_best_1 (by decide) rfl ?_
  refine g_aload_n 1 dX1_best_3 rfl rfl ?_
  refine g_iconst (v := -1) dX1_best_4 (by decide) ?_
  refine g_putI dX1_best_5 fl1_95 (fun h => by cases h) c0 ?_
  refine g_aload_n 1 dX1_best_8 rfl rfl ?_
  refine g_getR dX1_best_9 fl1_26 rfl c0 (w1_7 hW c0) ?_
  refine g_iload_n 3 dX1_best_12 rfl rfl ?_
  refine g_iald (j := x2.toNatClampNeg) dX1_best_13 (s1_7 c0) h1 rfl ?_
  refine g_ls [1, 2, 3, 4, 0] (ls2 := [(0, .ref a0), (1, .int x1), (2, .int x2), (3, .int x3), (4, .int x3)]) rfl ?_
  exact g_callS (As := [.int (mI (uI m a0 9 (-1 : Int32)) (a0 + 7) x2.toNatClampNeg)]) (st := []) dX1_best_14 clX1_98 rfl rfl (Nat.le_of_ble_eq_true rfl) (rmSH (by decide) (by decide)) h2
theorem bX1_best_17 {X : pX} {Q : Option Value → pMem → Prop} {m : pMem} {a0 : Nat} {x1 : Int32} {x2 : Int32} {x3 : Int32} {x4 : Int32} {xs0 : Int32} (hW : Wf m) (c0 : SH[a0]? = some (.inl 1))
    (h1 : xs0 < (mI m 31 1) → Go X 1 mX1_best Q 33 [(0, .ref a0), (1, .int x1), (2, .int x2), (4, .int x4), (5, .int (0 : Int32))] [] m)
    (h2 : ¬ (xs0 < (mI m 31 1)) → Q (some (.int x4)) m) :
    Go X 1 mX1_best Q 17 [(0, .ref a0), (1, .int x1), (2, .int x2), (3, .int x3), (4, .int x4)] [.int xs0] m := by
  refine g_aload_n 0 dX1_best_17 rfl rfl ?_
  refine g_getR dX1_best_18 fl1_29 rfl c0 (w1_0 hW c0) ?_
  refine g_getI dX1_best_21 fl1_103 sh31 ?_
  refine g_icmp_lt 30 dX1_best_24 (by decide) (fun q1 => ?_) (fun q1 => ?_)
  · refine g_iconst (v := 0) dX1_best_30 (by decide) ?_
    refine g_istore (ls2 := [(5, .int (0 : Int32)), (0, .ref a0), (1, .int x1), (2, .int x2), (3, .int x3), (4, .int x4)]) dX1_best_31 (by decide) rfl ?_
    exact g_ls [1, 2, 3, 5, 0] rfl (h1 q1)
  · refine g_iload 4 dX1_best_27 rfl ?_
    exact g_iret dX1_best_29 rfl enSH (h2 q1)
theorem bX1_best_33 {X : pX} {Q : Option Value → pMem → Prop} {m : pMem} {a0 : Nat} {x1 : Int32} {x2 : Int32} {x4 : Int32} {x5 : Int32} (hW : Wf m) (c0 : SH[a0]? = some (.inl 1))
    (h1 : (mI m a0 6) ≤ x5 → Q (some (.int x4)) m)
    (h2 : ¬ ((mI m a0 6) ≤ x5) → (6 : Int32) ≤ x5 → Q (some (.int x4)) m)
    (h3 : ¬ ((mI m a0 6) ≤ x5) → ¬ ((6 : Int32) ≤ x5) → vp_in x5 6)
    (h4 : ¬ ((mI m a0 6) ≤ x5) → ¬ ((6 : Int32) ≤ x5) → vp_in x5 6)
    (h5 : ¬ ((mI m a0 6) ≤ x5) → ¬ ((6 : Int32) ≤ x5) → Cl X 0 mX1_isDigit [.int x1, .int (mI m (a0 + 6) x5.toNatClampNeg), .int (0 : Int32)] m (fun v m2 => Go X 1 mX1_best Q 84 [(0, .ref a0), (1, .int x1), (2, .int x2), (4, .int x4), (5, .int x5), (6, .int (((x1 + ((x2 + (1 : Int32)) * (mI m (a0 + 6) x5.toNatClampNeg))) * (4 : Int32)) + (((1 : Int32) - x2) * (2 : Int32))))] (v.toList ++ []) m2)) :
    Go X 1 mX1_best Q 33 [(0, .ref a0), (1, .int x1), (2, .int x2), (4, .int x4), (5, .int x5)] [] m := by
  refine g_iload 4 dX1_best_33 rfl ?_
  refine g_aload_n 0 dX1_best_35 rfl rfl ?_
  refine g_getI dX1_best_36 fl1_88 c0 ?_
  refine g_icmp_ge 148 dX1_best_39 (by decide) (fun q1 => ?_) (fun q1 => ?_)
  · refine g_iload 3 dX1_best_148 rfl ?_
    exact g_iret dX1_best_150 rfl enSH (h1 q1)
  · refine g_iload 4 dX1_best_42 rfl ?_
    refine g_bipush (v := 6) dX1_best_44 (by decide) ?_
    refine g_icmp_ge 148 dX1_best_46 (by decide) (fun q2 => ?_) (fun q2 => ?_)
    · refine g_iload 3 dX1_best_148 rfl ?_
      exact g_iret dX1_best_150 rfl enSH (h2 q1 q2)
    · refine g_iload_n 1 dX1_best_49 rfl rfl ?_
      refine g_iload_n 2 dX1_best_50 rfl rfl ?_
      refine g_iconst (v := 1) dX1_best_51 (by decide) ?_
      refine g_iadd dX1_best_52 ?_
      refine g_aload_n 0 dX1_best_53 rfl rfl ?_
      refine g_getR dX1_best_54 fl1_23 rfl c0 (w1_5 hW c0) ?_
      refine g_iload 4 dX1_best_57 rfl ?_
      refine g_iald (j := x5.toNatClampNeg) dX1_best_59 (s1_5 c0) (h3 q1 q2) rfl ?_
      refine g_imul dX1_best_60 ?_
      refine g_iadd dX1_best_61 ?_
      refine g_iconst (v := 4) dX1_best_62 (by decide) ?_
      refine g_imul dX1_best_63 ?_
      refine g_iconst (v := 1) dX1_best_64 (by decide) ?_
      refine g_iload_n 2 dX1_best_65 rfl rfl ?_
      refine g_isub dX1_best_66 ?_
      refine g_iconst (v := 2) dX1_best_67 (by decide) ?_
      refine g_imul dX1_best_68 ?_
      refine g_iadd dX1_best_69 ?_
      refine g_istore (ls2 := [(6, .int (((x1 + ((x2 + (1 : Int32)) * (mI m (a0 + 6) x5.toNatClampNeg))) * (4 : Int32)) + (((1 : Int32) - x2) * (2 : Int32)))), (0, .ref a0), (1, .int x1), (2, .int x2), (4, .int x4), (5, .int x5)]) dX1_best_70 (by decide) rfl ?_
      refine g_iload_n 2 dX1_best_72 rfl rfl ?_
      refine g_aload_n 1 dX1_best_73 rfl rfl ?_
      refine g_getR dX1_best_74 fl1_23 rfl c0 (w1_5 hW c0) ?_
      refine g_iload 5 dX1_best_77 rfl ?_
      refine g_iald (j := x5.toNatClampNeg) dX1_best_79 (s1_5 c0) (h4 q1 q2) rfl ?_
      refine g_iconst (v := 0) dX1_best_80 (by decide) ?_
      refine g_ls [1, 2, 3, 4, 5, 0] (ls2 := [(0, .ref a0), (1, .int x1), (2, .int x2), (4, .int x4), (5, .int x5), (6, .int (((x1 + ((x2 + (1 : Int32)) * (mI m (a0 + 6) x5.toNatClampNeg))) * (4 : Int32)) + (((1 : Int32) - x2) * (2 : Int32))))]) rfl ?_
      exact g_callS (As := [.int x1, .int (mI m (a0 + 6) x5.toNatClampNeg), .int (0 : Int32)]) (st := []) dX1_best_81 clX1_91 rfl rfl (Nat.le_of_ble_eq_true rfl) (rmSH (by decide) (by decide)) (h5 q1 q2)
theorem bX1_best_84 {X : pX} {Q : Option Value → pMem → Prop} {m : pMem} {a0 : Nat} {x1 : Int32} {x2 : Int32} {x4 : Int32} {x5 : Int32} {x6 : Int32} {xs0 : Int32} (hW : Wf m) (c0 : SH[a0]? = some (.inl 1))
    (h1 : xs0 = 0 → Go X 1 mX1_best Q 33 [(0, .ref a0), (1, .int x1), (2, .int x2), (4, .int x4), (5, .int (x5 + (1 : Int32)))] [] m)
    (h2 : ¬ (xs0 = 0) → (2916 : Int32) ≤ x6 → Go X 1 mX1_best Q 33 [(0, .ref a0), (1, .int x1), (2, .int x2), (4, .int x4), (5, .int (x5 + (1 : Int32)))] [] m)
    (h3 : ¬ (xs0 = 0) → ¬ ((2916 : Int32) ≤ x6) → vp_in x6 2916)
    (h4 : ¬ (xs0 = 0) → ¬ ((2916 : Int32) ≤ x6) → ¬ x2 = 0 → x4 ≤ (mI m (a0 + 1) x6.toNatClampNeg) → Go X 1 mX1_best Q 33 [(0, .ref a0), (1, .int x1), (2, .int x2), (4, .int x4), (5, .int (x5 + (1 : Int32)))] [] m)
    (h5 : ¬ (xs0 = 0) → ¬ ((2916 : Int32) ≤ x6) → ¬ x2 = 0 → ¬ (x4 ≤ (mI m (a0 + 1) x6.toNatClampNeg)) → Go X 1 mX1_best Q 127 [(0, .ref a0), (1, .int x1), (2, .int x2), (5, .int x5), (7, .int (mI m (a0 + 1) x6.toNatClampNeg))] [] m)
    (h6 : ¬ (xs0 = 0) → ¬ ((2916 : Int32) ≤ x6) → x2 = 0 → (mI m (a0 + 1) x6.toNatClampNeg) ≤ x4 → Go X 1 mX1_best Q 33 [(0, .ref a0), (1, .int x1), (2, .int x2), (4, .int x4), (5, .int (x5 + (1 : Int32)))] [] m)
    (h7 : ¬ (xs0 = 0) → ¬ ((2916 : Int32) ≤ x6) → x2 = 0 → ¬ ((mI m (a0 + 1) x6.toNatClampNeg) ≤ x4) → Go X 1 mX1_best Q 127 [(0, .ref a0), (1, .int x1), (2, .int x2), (5, .int x5), (7, .int (mI m (a0 + 1) x6.toNatClampNeg))] [] m) :
    Go X 1 mX1_best Q 84 [(0, .ref a0), (1, .int x1), (2, .int x2), (4, .int x4), (5, .int x5), (6, .int x6)] [.int xs0] m := by
  refine g_if_eq 142 dX1_best_84 (by decide) (fun q1 => ?_) (fun q1 => ?_)
  · refine g_iinc (v := x5 + (1 : Int32)) (ls2 := [(5, .int (x5 + (1 : Int32))), (0, .ref a0), (1, .int x1), (2, .int x2), (4, .int x4), (6, .int x6)]) 4 dX1_best_142 rfl rfl (by decide) rfl ?_
    refine g_goto 33 dX1_best_145 (by decide) ?_
    exact g_ls [1, 2, 3, 4, 0] rfl (h1 q1)
  · refine g_iload 5 dX1_best_87 rfl ?_
    refine g_aload_n 0 dX1_best_89 rfl rfl ?_
    refine g_getR dX1_best_90 fl1_11 rfl c0 (w1_2 hW c0) ?_
    refine g_alen (v := (2916 : Int32)) dX1_best_93 (s1_2 c0) (by decide) (by first | rfl | decide) ?_
    refine g_icmp_ge 142 dX1_best_94 (by decide) (fun q2 => ?_) (fun q2 => ?_)
    · refine g_iinc (v := x5 + (1 : Int32)) (ls2 := [(5, .int (x5 + (1 : Int32))), (0, .ref a0), (1, .int x1), (2, .int x2), (4, .int x4), (6, .int x6)]) 4 dX1_best_142 rfl rfl (by decide) rfl ?_
      refine g_goto 33 dX1_best_145 (by decide) ?_
      exact g_ls [1, 2, 3, 4, 0] rfl (h2 q1 q2)
    · refine g_aload_n 0 dX1_best_97 rfl rfl ?_
      refine g_getR dX1_best_98 fl1_11 rfl c0 (w1_2 hW c0) ?_
      refine g_iload 5 dX1_best_101 rfl ?_
      refine g_iald (j := x6.toNatClampNeg) dX1_best_103 (s1_2 c0) (h3 q1 q2) rfl ?_
      refine g_istore (ls2 := [(7, .int (mI m (a0 + 1) x6.toNatClampNeg)), (0, .ref a0), (1, .int x1), (2, .int x2), (4, .int x4), (5, .int x5), (6, .int x6)]) dX1_best_104 (by decide) rfl ?_
      refine g_iload_n 3 dX1_best_106 rfl rfl ?_
      refine g_if_ne 120 dX1_best_107 (by decide) (fun q3 => ?_) (fun q3 => ?_)
      · refine g_iload 0 dX1_best_120 rfl ?_
        refine g_iload 4 dX1_best_122 rfl ?_
        refine g_icmp_ge 142 dX1_best_124 (by decide) (fun q4 => ?_) (fun q4 => ?_)
        · refine g_iinc (v := x5 + (1 : Int32)) (ls2 := [(5, .int (x5 + (1 : Int32))), (7, .int (mI m (a0 + 1) x6.toNatClampNeg)), (0, .ref a0), (1, .int x1), (2, .int x2), (4, .int x4), (6, .int x6)]) 5 dX1_best_142 rfl rfl (by decide) rfl ?_
          refine g_goto 33 dX1_best_145 (by decide) ?_
          exact g_ls [2, 3, 4, 5, 0] rfl (h4 q1 q2 q3 q4)
        · exact g_ls [1, 2, 3, 5, 0] rfl (h5 q1 q2 q3 q4)
      · refine g_iload 0 dX1_best_110 rfl ?_
        refine g_iload 4 dX1_best_112 rfl ?_
        refine g_icmp_le 142 dX1_best_114 (by decide) (fun q5 => ?_) (fun q5 => ?_)
        · refine g_iinc (v := x5 + (1 : Int32)) (ls2 := [(5, .int (x5 + (1 : Int32))), (7, .int (mI m (a0 + 1) x6.toNatClampNeg)), (0, .ref a0), (1, .int x1), (2, .int x2), (4, .int x4), (6, .int x6)]) 5 dX1_best_142 rfl rfl (by decide) rfl ?_
          refine g_goto 33 dX1_best_145 (by decide) ?_
          exact g_ls [2, 3, 4, 5, 0] rfl (h6 q1 q2 q3 q5)
        · refine g_goto 127 dX1_best_117 (by decide) ?_
          exact g_ls [1, 2, 3, 5, 0] rfl (h7 q1 q2 q3 q5)
theorem bX1_best_127 {X : pX} {Q : Option Value → pMem → Prop} {m : pMem} {a0 : Nat} {x1 : Int32} {x2 : Int32} {x5 : Int32} {x7 : Int32} (hW : Wf m) (c0 : SH[a0]? = some (.inl 1))
    (h1 : vp_in x5 6)
    (h2 : Go X 1 mX1_best Q 33 [(0, .ref a0), (1, .int x1), (2, .int x2), (4, .int x7), (5, .int (x5 + (1 : Int32)))] [] (uI m a0 9 (mI m (a0 + 5) x5.toNatClampNeg))) :
    Go X 1 mX1_best Q 127 [(0, .ref a0), (1, .int x1), (2, .int x2), (5, .int x5), (7, .int x7)] [] m := by
  refine g_iload 4 dX1_best_127 rfl ?_
  refine g_istore (ls2 := [(4, .int x7), (0, .ref a0), (1, .int x1), (2, .int x2), (5, .int x5), (7, .int x7)]) dX1_best_129 (by decide) rfl ?_
  refine g_aload_n 1 dX1_best_131 rfl rfl ?_
  refine g_aload_n 1 dX1_best_132 rfl rfl ?_
  refine g_getR dX1_best_133 fl1_20 rfl c0 (w1_4 hW c0) ?_
  refine g_iload 4 dX1_best_136 rfl ?_
  refine g_iald (j := x5.toNatClampNeg) dX1_best_138 (s1_4 c0) h1 rfl ?_
  refine g_putI dX1_best_139 fl1_95 (fun h => by cases h) c0 ?_
  refine g_iinc (v := x5 + (1 : Int32)) (ls2 := [(5, .int (x5 + (1 : Int32))), (4, .int x7), (0, .ref a0), (1, .int x1), (2, .int x2), (7, .int x7)]) 4 dX1_best_142 rfl rfl (by decide) rfl ?_
  refine g_goto 33 dX1_best_145 (by decide) ?_
  exact g_ls [2, 3, 4, 1, 0] rfl h2
