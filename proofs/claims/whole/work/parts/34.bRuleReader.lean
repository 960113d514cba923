theorem bX7_read_0 {X : pX} {Q : Option Value → pMem → Prop} {m : pMem} {a0 : Nat} {a1 : Nat} {r6 : Nat} (hW : Wf m) (c0 : SH[a0]? = some (.inl 7)) (c1 : SH[a1]? = some (.inl 6)) (e6 : mR (uR m a0 1 (some a1)) a0 1 = some r6) (f6 : SH[r6]? = some (.inl 6))
    (h1 : Cl X 0 mX6_clear [.ref r6] (uR m a0 1 (some a1)) (fun v m2 => Go X 40 mX7_read Q 12 [(0, .ref a0), (1, .ref a1)] (v.toList ++ []) m2)) :
    Go X 40 mX7_read Q 0 [(0, .ref a0), (1, .ref a1)] [] m := by
  refine g_aload_n 0 dX7_read_0 rfl rfl ?_
  refine g_aload_n 1 dX7_read_1 rfl rfl ?_
  refine g_putR dX7_read_2 fl7_15 rfl (fun h => by cases h) c0 ?_
  refine g_aload_n 0 dX7_read_5 rfl rfl ?_
  refine g_getR (r := r6) dX7_read_6 fl7_15 rfl c0 e6 ?_
  exact g_callV (As := []) (st := []) dX7_read_9 clX7_19 f6 rfl rfl (Nat.le_of_ble_eq_true rfl) (rmSH (by decide) (by decide)) h1
theorem bX7_read_12 {X : pX} {Q : Option Value → pMem → Prop} {m : pMem} {a0 : Nat} {a1 : Nat} (hW : Wf m) (c0 : SH[a0]? = some (.inl 7)) (c1 : SH[a1]? = some (.inl 6))
    (h1 : Cl X 0 mX9_rewind [.ref 1] (uI m a0 2 (0 : Int32)) (fun v m2 => Go X 40 mX7_read Q 24 [(0, .ref a0), (1, .ref a1)] (v.toList ++ []) m2)) :
    Go X 40 mX7_read Q 12 [(0, .ref a0), (1, .ref a1)] [] m := by
  refine g_aload_n 0 dX7_read_12 rfl rfl ?_
  refine g_iconst (v := 0) dX7_read_13 (by decide) ?_
  refine g_putI dX7_read_14 fl7_24 (fun h => by cases h) c0 ?_
  refine g_aload_n 0 dX7_read_17 rfl rfl ?_
  refine g_getR dX7_read_18 fl7_9 rfl c0 (w7_0 hW c0) ?_
  exact g_callV (As := []) (st := []) dX7_read_21 clX7_28 sh1 rfl rfl (Nat.le_of_ble_eq_true rfl) (rmSH (by decide) (by decide)) h1
theorem bX7_read_24 {X : pX} {Q : Option Value → pMem → Prop} {m : pMem} {a0 : Nat} {a1 : Nat} (hW : Wf m) (c0 : SH[a0]? = some (.inl 7)) (c1 : SH[a1]? = some (.inl 6))
    (h1 : Go X 40 mX7_read Q 26 [(0, .ref a0), (2, .int (0 : Int32))] [] m) :
    Go X 40 mX7_read Q 24 [(0, .ref a0), (1, .ref a1)] [] m := by
  refine g_iconst (v := 0) dX7_read_24 (by decide) ?_
  refine g_istore_n (ls2 := [(2, .int (0 : Int32)), (0, .ref a0), (1, .ref a1)]) dX7_read_25 rfl (by decide) rfl ?_
  exact g_ls [1, 0] rfl h1
theorem bX7_read_26 {X : pX} {Q : Option Value → pMem → Prop} {m : pMem} {a0 : Nat} {x2 : Int32} (hW : Wf m) (c0 : SH[a0]? = some (.inl 7))
    (h1 : (12 : Int32) < x2 → Q (some (.int (0 : Int32))) m)
    (h2 : ¬ ((12 : Int32) < x2) → Cl X 1 mX9_next [.ref 1] m (fun v m2 => Go X 40 mX7_read Q 39 [(0, .ref a0), (2, .int x2)] (v.toList ++ []) m2)) :
    Go X 40 mX7_read Q 26 [(0, .ref a0), (2, .int x2)] [] m := by
  refine g_iload_n 1 dX7_read_26 rfl rfl ?_
  refine g_bipush (v := 12) dX7_read_27 (by decide) ?_
  refine g_icmp_gt 187 dX7_read_29 (by decide) (fun q1 => ?_) (fun q1 => ?_)
  · refine g_iconst (v := 0) dX7_read_187 (by decide) ?_
    exact g_bret dX7_read_188 rfl (Or.inl rfl) enSH (h1 q1)
  · refine g_aload_n 0 dX7_read_32 rfl rfl ?_
    refine g_getR dX7_read_33 fl7_9 rfl c0 (w7_0 hW c0) ?_
    exact g_callV (As := []) (st := []) dX7_read_36 clX7_33 sh1 rfl rfl (Nat.le_of_ble_eq_true rfl) (rmSH (by decide) (by decide)) (h2 q1)
theorem bX7_read_39 {X : pX} {Q : Option Value → pMem → Prop} {m : pMem} {a0 : Nat} {x2 : Int32} {xs0 : Int32} (hW : Wf m) (c0 : SH[a0]? = some (.inl 7))
    (h1 : Cl X 6 mX9_takeWord [.ref 1, .retAddr 3] m (fun v m2 => Go X 40 mX7_read Q 57 [(0, .ref a0), (2, .int x2), (3, .int (mI m 1 2))] (v.toList ++ []) m2)) :
    Go X 40 mX7_read Q 39 [(0, .ref a0), (2, .int x2)] [.int xs0] m := by
  refine g_pop dX7_read_39 rfl ?_
  refine g_aload_n 0 dX7_read_40 rfl rfl ?_
  refine g_getR dX7_read_41 fl7_9 rfl c0 (w7_0 hW c0) ?_
  refine g_getI dX7_read_44 fl7_37 sh1 ?_
  refine g_istore_n (ls2 := [(3, .int (mI m 1 2)), (0, .ref a0), (2, .int x2)]) dX7_read_47 rfl (by decide) rfl ?_
  refine g_aload_n 1 dX7_read_48 rfl rfl ?_
  refine g_getR dX7_read_49 fl7_9 rfl c0 (w7_0 hW c0) ?_
  refine g_ldcS 2 (by decide) rfl rfl dX7_read_52 ?_
  refine g_ls [1, 2, 0] (ls2 := [(0, .ref a0), (2, .int x2), (3, .int (mI m 1 2))]) rfl ?_
  exact g_callV (As := [.retAddr 3]) (st := []) dX7_read_54 clX7_42 sh1 rfl rfl (Nat.le_of_ble_eq_true rfl) (rmSH (by decide) (by decide)) h1
theorem bX7_read_57 {X : pX} {Q : Option Value → pMem → Prop} {m : pMem} {a0 : Nat} {x2 : Int32} {x3 : Int32} {xs0 : Int32} (hW : Wf m) (c0 : SH[a0]? = some (.inl 7))
    (h1 : ¬ xs0 = 0 → x2 < (12 : Int32) → Cl X 8 mX7_readSum [.ref a0] m (fun v m2 => Go X 40 mX7_read Q 90 [(0, .ref a0), (2, .int x2), (3, .int x3)] (v.toList ++ []) m2))
    (h2 : ¬ xs0 = 0 → ¬ (x2 < (12 : Int32)) → Cl X 0 mX9_fail [.ref 1, .int x3, .int (4 : Int32)] m (fun v m2 => Go X 40 mX7_read Q 85 [(0, .ref a0), (2, .int x2), (3, .int x3)] (v.toList ++ []) m2))
    (h3 : xs0 = 0 → Cl X 0 mX9_fail [.ref 1, .int x3, .int (0 : Int32)] m (fun v m2 => Go X 40 mX7_read Q 69 [(0, .ref a0), (2, .int x2), (3, .int x3)] (v.toList ++ []) m2)) :
    Go X 40 mX7_read Q 57 [(0, .ref a0), (2, .int x2), (3, .int x3)] [.int xs0] m := by
  refine g_if_ne 70 dX7_read_57 (by decide) (fun q1 => ?_) (fun q1 => ?_)
  · refine g_iload_n 1 dX7_read_70 rfl rfl ?_
    refine g_bipush (v := 12) dX7_read_71 (by decide) ?_
    refine g_icmp_lt 86 dX7_read_73 (by decide) (fun q2 => ?_) (fun q2 => ?_)
    · refine g_aload_n 0 dX7_read_86 rfl rfl ?_
      exact g_callV (As := []) (st := []) dX7_read_87 clX7_50 c0 rfl rfl (Nat.le_of_ble_eq_true rfl) (rmSH (by decide) (by decide)) (h1 q1 q2)
    · refine g_aload_n 0 dX7_read_76 rfl rfl ?_
      refine g_getR dX7_read_77 fl7_9 rfl c0 (w7_0 hW c0) ?_
      refine g_iload_n 2 dX7_read_80 rfl rfl ?_
      refine g_iconst (v := 4) dX7_read_81 (by decide) ?_
      exact g_callV (As := [.int x3, .int (4 : Int32)]) (st := []) dX7_read_82 clX7_46 sh1 rfl rfl (Nat.le_of_ble_eq_true rfl) (rmSH (by decide) (by decide)) (h2 q1 q2)
  · refine g_aload_n 0 dX7_read_60 rfl rfl ?_
    refine g_getR dX7_read_61 fl7_9 rfl c0 (w7_0 hW c0) ?_
    refine g_iload_n 2 dX7_read_64 rfl rfl ?_
    refine g_iconst (v := 0) dX7_read_65 (by decide) ?_
    exact g_callV (As := [.int x3, .int (0 : Int32)]) (st := []) dX7_read_66 clX7_46 sh1 rfl rfl (Nat.le_of_ble_eq_true rfl) (rmSH (by decide) (by decide)) (h3 q1)
theorem bX7_read_90 {X : pX} {Q : Option Value → pMem → Prop} {m : pMem} {a0 : Nat} {x2 : Int32} {x3 : Int32} {xs0 : Int32} (hW : Wf m) (c0 : SH[a0]? = some (.inl 7))
    (h1 : ¬ xs0 = 0 → Cl X 6 mX9_takeWord [.ref 1, .retAddr 4] m (fun v m2 => Go X 40 mX7_read Q 104 [(0, .ref a0), (2, .int x2), (3, .int x3)] (v.toList ++ []) m2))
    (h2 : xs0 = 0 → Q (some (.int (0 : Int32))) m) :
    Go X 40 mX7_read Q 90 [(0, .ref a0), (2, .int x2), (3, .int x3)] [.int xs0] m := by
  refine g_if_ne 95 dX7_read_90 (by decide) (fun q1 => ?_) (fun q1 => ?_)
  · refine g_aload_n 0 dX7_read_95 rfl rfl ?_
    refine g_getR dX7_read_96 fl7_9 rfl c0 (w7_0 hW c0) ?_
    refine g_ldcS 3 (by decide) rfl rfl dX7_read_99 ?_
    exact g_callV (As := [.retAddr 4]) (st := []) dX7_read_101 clX7_42 sh1 rfl rfl (Nat.le_of_ble_eq_true rfl) (rmSH (by decide) (by decide)) (h1 q1)
  · refine g_iconst (v := 0) dX7_read_93 (by decide) ?_
    exact g_bret dX7_read_94 rfl (Or.inl rfl) enSH (h2 q1)
theorem bX7_read_85 {X : pX} {Q : Option Value → pMem → Prop} {m : pMem} {a0 : Nat} {x2 : Int32} {x3 : Int32} {xs0 : Int32} (hW : Wf m) (c0 : SH[a0]? = some (.inl 7))
    (h1 : xs0 = 0 ∨ xs0 = 1)
    (h2 : Q (some (.int xs0)) m) :
    Go X 40 mX7_read Q 85 [(0, .ref a0), (2, .int x2), (3, .int x3)] [.int xs0] m := by
  exact g_bret dX7_read_85 rfl h1 enSH h2
theorem bX7_read_69 {X : pX} {Q : Option Value → pMem → Prop} {m : pMem} {a0 : Nat} {x2 : Int32} {x3 : Int32} {xs0 : Int32} (hW : Wf m) (c0 : SH[a0]? = some (.inl 7))
    (h1 : xs0 = 0 ∨ xs0 = 1)
    (h2 : Q (some (.int xs0)) m) :
    Go X 40 mX7_read Q 69 [(0, .ref a0), (2, .int x2), (3, .int x3)] [.int xs0] m := by
  exact g_bret dX7_read_69 rfl h1 enSH h2
theorem bX7_read_104 {X : pX} {Q : Option Value → pMem → Prop} {m : pMem} {a0 : Nat} {x2 : Int32} {x3 : Int32} {xs0 : Int32} (hW : Wf m) (c0 : SH[a0]? = some (.inl 7))
    (h1 : xs0 = 0 → Go X 40 mX7_read Q 121 [(0, .ref a0), (2, .int x2), (4, .int xs0)] [] m)
    (h2 : ¬ (xs0 = 0) → Cl X 39 mX7_readTest [.ref a0, .int (0 : Int32)] m (fun v m2 => Go X 40 mX7_read Q 116 [(0, .ref a0), (2, .int x2), (3, .int x3), (4, .int xs0)] (v.toList ++ []) m2)) :
    Go X 40 mX7_read Q 104 [(0, .ref a0), (2, .int x2), (3, .int x3)] [.int xs0] m := by
  refine g_istore (ls2 := [(4, .int xs0), (0, .ref a0), (2, .int x2), (3, .int x3)]) dX7_read_104 (by decide) rfl ?_
  refine g_iload 0 dX7_read_106 rfl ?_
  refine g_if_eq 121 dX7_read_108 (by decide) (fun q1 => ?_) (fun q1 => ?_)
  · exact g_ls [1, 2, 0] rfl (h1 q1)
  · refine g_aload_n 1 dX7_read_111 rfl rfl ?_
    refine g_iconst (v := 0) dX7_read_112 (by decide) ?_
    refine g_ls [1, 2, 3, 0] (ls2 := [(0, .ref a0), (2, .int x2), (3, .int x3), (4, .int xs0)]) rfl ?_
    exact g_callV (As := [.int (0 : Int32)]) (st := []) dX7_read_113 clX7_56 c0 rfl rfl (Nat.le_of_ble_eq_true rfl) (rmSH (by decide) (by decide)) (h2 q1)
theorem bX7_read_121 {X : pX} {Q : Option Value → pMem → Prop} {m : pMem} {a0 : Nat} {x2 : Int32} {x4 : Int32} {r122 : Nat} (hW : Wf m) (c0 : SH[a0]? = some (.inl 7)) (e122 : mR m a0 1 = some r122) (f122 : SH[r122]? = some (.inl 6))
    (h1 : x4 = 0 → Cl X 0 mX6_add [.ref r122, .int (-34 : Int32)] m (fun v m2 => Go X 40 mX7_read Q 140 [(0, .ref a0), (2, .int x2), (4, .int x4)] (v.toList ++ []) m2))
    (h2 : ¬ (x4 = 0) → Cl X 0 mX6_add [.ref r122, .int (-35 : Int32)] m (fun v m2 => Go X 40 mX7_read Q 140 [(0, .ref a0), (2, .int x2), (4, .int x4)] (v.toList ++ []) m2)) :
    Go X 40 mX7_read Q 121 [(0, .ref a0), (2, .int x2), (4, .int x4)] [] m := by
  refine g_aload_n 0 dX7_read_121 rfl rfl ?_
  refine g_getR (r := r122) dX7_read_122 fl7_15 rfl c0 e122 ?_
  refine g_iload 2 dX7_read_125 rfl ?_
  refine g_if_eq 135 dX7_read_127 (by decide) (fun q1 => ?_) (fun q1 => ?_)
  · refine g_bipush (v := -34) dX7_read_135 (by decide) ?_
    exact g_callV (As := [.int (-34 : Int32)]) (st := []) dX7_read_137 clX7_60 f122 rfl rfl (Nat.le_of_ble_eq_true rfl) (rmSH (by decide) (by decide)) (h1 q1)
  · refine g_bipush (v := -35) dX7_read_130 (by decide) ?_
    refine g_goto 137 dX7_read_132 (by decide) ?_
    exact g_callV (As := [.int (-35 : Int32)]) (st := []) dX7_read_137 clX7_60 f122 rfl rfl (Nat.le_of_ble_eq_true rfl) (rmSH (by decide) (by decide)) (h2 q1)
theorem bX7_read_116 {X : pX} {Q : Option Value → pMem → Prop} {m : pMem} {a0 : Nat} {x2 : Int32} {x3 : Int32} {x4 : Int32} {xs0 : Int32} (hW : Wf m) (c0 : SH[a0]? = some (.inl 7))
    (h1 : ¬ xs0 = 0 → Go X 40 mX7_read Q 121 [(0, .ref a0), (2, .int x2), (4, .int x4)] [] m)
    (h2 : xs0 = 0 → Q (some (.int (0 : Int32))) m) :
    Go X 40 mX7_read Q 116 [(0, .ref a0), (2, .int x2), (3, .int x3), (4, .int x4)] [.int xs0] m := by
  refine g_if_ne 121 dX7_read_116 (by decide) (fun q1 => ?_) (fun q1 => ?_)
  · exact g_ls [0, 1, 3] rfl (h1 q1)
  · refine g_iconst (v := 0) dX7_read_119 (by decide) ?_
    exact g_bret dX7_read_120 rfl (Or.inl rfl) enSH (h2 q1)
theorem bX7_read_140 {X : pX} {Q : Option Value → pMem → Prop} {m : pMem} {a0 : Nat} {x2 : Int32} {x4 : Int32} (hW : Wf m) (c0 : SH[a0]? = some (.inl 7))
    (h1 : Cl X 1 mX9_next [.ref 1] m (fun v m2 => Go X 40 mX7_read Q 147 [(0, .ref a0), (2, .int x2), (4, .int x4)] (v.toList ++ []) m2)) :
    Go X 40 mX7_read Q 140 [(0, .ref a0), (2, .int x2), (4, .int x4)] [] m := by
  refine g_aload_n 0 dX7_read_140 rfl rfl ?_
  refine g_getR dX7_read_141 fl7_9 rfl c0 (w7_0 hW c0) ?_
  exact g_callV (As := []) (st := []) dX7_read_144 clX7_33 sh1 rfl rfl (Nat.le_of_ble_eq_true rfl) (rmSH (by decide) (by decide)) h1
theorem bX7_read_147 {X : pX} {Q : Option Value → pMem → Prop} {m : pMem} {a0 : Nat} {x2 : Int32} {x4 : Int32} {xs0 : Int32} (hW : Wf m) (c0 : SH[a0]? = some (.inl 7))
    (h1 : ¬ xs0 = (-1 : Int32) → Cl X 2 mX9_takeSign [.ref 1, .int (59 : Int32)] m (fun v m2 => Go X 40 mX7_read Q 162 [(0, .ref a0), (2, .int x2), (4, .int x4)] (v.toList ++ []) m2))
    (h2 : xs0 = (-1 : Int32) → Q (some (.int (1 : Int32))) m) :
    Go X 40 mX7_read Q 147 [(0, .ref a0), (2, .int x2), (4, .int x4)] [.int xs0] m := by
  refine g_iconst (v := -1) dX7_read_147 (by decide) ?_
  refine g_icmp_ne 153 dX7_read_148 (by decide) (fun q1 => ?_) (fun q1 => ?_)
  · refine g_aload_n 0 dX7_read_153 rfl rfl ?_
    refine g_getR dX7_read_154 fl7_9 rfl c0 (w7_0 hW c0) ?_
    refine g_bipush (v := 59) dX7_read_157 (by decide) ?_
    exact g_callV (As := [.int (59 : Int32)]) (st := []) dX7_read_159 clX7_64 sh1 rfl rfl (Nat.le_of_ble_eq_true rfl) (rmSH (by decide) (by decide)) (h1 q1)
  · refine g_iconst (v := 1) dX7_read_151 (by decide) ?_
    exact g_bret dX7_read_152 rfl (Or.inr rfl) enSH (h2 q1)
theorem bX7_read_162 {X : pX} {Q : Option Value → pMem → Prop} {m : pMem} {a0 : Nat} {x2 : Int32} {x4 : Int32} {xs0 : Int32} (hW : Wf m) (c0 : SH[a0]? = some (.inl 7))
    (h1 : ¬ xs0 = 0 → Go X 40 mX7_read Q 26 [(0, .ref a0), (2, .int (x2 + (1 : Int32)))] [] m)
    (h2 : xs0 = 0 → Cl X 0 mX9_fail [.ref 1, .int (mI m 1 2), .int (0 : Int32)] m (fun v m2 => Go X 40 mX7_read Q 180 [(0, .ref a0), (2, .int x2), (4, .int x4)] (v.toList ++ []) m2)) :
    Go X 40 mX7_read Q 162 [(0, .ref a0), (2, .int x2), (4, .int x4)] [.int xs0] m := by
  refine g_if_ne 181 dX7_read_162 (by decide) (fun q1 => ?_) (fun q1 => ?_)
  · refine g_iinc (v := x2 + (1 : Int32)) (ls2 := [(2, .int (x2 + (1 : Int32))), (0, .ref a0), (4, .int x4)]) 1 dX7_read_181 rfl rfl (by decide) rfl ?_
    refine g_goto 26 dX7_read_184 (by decide) ?_
    exact g_ls [1, 0] rfl (h1 q1)
  · refine g_aload_n 0 dX7_read_165 rfl rfl ?_
    refine g_getR dX7_read_166 fl7_9 rfl c0 (w7_0 hW c0) ?_
    refine g_aload_n 0 dX7_read_169 rfl rfl ?_
    refine g_getR dX7_read_170 fl7_9 rfl c0 (w7_0 hW c0) ?_
    refine g_getI dX7_read_173 fl7_37 sh1 ?_
    refine g_iconst (v := 0) dX7_read_176 (by decide) ?_
    exact g_callV (As := [.int (mI m 1 2), .int (0 : Int32)]) (st := []) dX7_read_177 clX7_46 sh1 rfl rfl (Nat.le_of_ble_eq_true rfl) (rmSH (by decide) (by decide)) (h2 q1)
theorem bX7_read_180 {X : pX} {Q : Option Value → pMem → Prop} {m : pMem} {a0 : Nat} {x2 : Int32} {x4 : Int32} {xs0 : Int32} (hW : Wf m) (c0 : SH[a0]? = some (.inl 7))
    (h1 : xs0 = 0 ∨ xs0 = 1)
    (h2 : Q (some (.int xs0)) m) :
    Go X 40 mX7_read Q 180 [(0, .ref a0), (2, .int x2), (4, .int x4)] [.int xs0] m := by
  exact g_bret dX7_read_180 rfl h1 enSH h2
theorem bX7_readTest_0 {X : pX} {Q : Option Value → pMem → Prop} {m : pMem} {d : Nat} {a0 : Nat} {x1 : Int32} (hW : Wf m) (hd : 12 ≤ d) (c0 : SH[a0]? = some (.inl 7))
    (h1 : Cl X (d - 1) mX7_readFact [.ref a0, .int x1] m (fun v m2 => Go X d mX7_readTest Q 7 [(0, .ref a0), (1, .int x1), (2, .int (0 : Int32))] (v.toList ++ []) m2)) :
    Go X d mX7_readTest Q 0 [(0, .ref a0), (1, .int x1)] [] m := by
  refine g_iconst (v := 0) dX7_readTest_0 (by decide) ?_
  refine g_istore_n (ls2 := [(2, .int (0 : Int32)), (0, .ref a0), (1, .int x1)]) dX7_readTest_1 rfl (by decide) rfl ?_
  refine g_aload_n 1 dX7_readTest_2 rfl rfl ?_
  refine g_iload_n 2 dX7_readTest_3 rfl rfl ?_
  refine g_ls [1, 2, 0] (ls2 := [(0, .ref a0), (1, .int x1), (2, .int (0 : Int32))]) rfl ?_
  exact g_callV (As := [.int x1]) (st := []) dX7_readTest_4 clX7_67 c0 rfl rfl (Nat.le_of_ble_eq_true rfl) (rmSH (by omega) (by decide)) h1
theorem bX7_readTest_7 {X : pX} {Q : Option Value → pMem → Prop} {m : pMem} {d : Nat} {a0 : Nat} {x1 : Int32} {x2 : Int32} {xs0 : Int32} (hW : Wf m) (hd : 12 ≤ d) (c0 : SH[a0]? = some (.inl 7))
    (h1 : ¬ xs0 = 0 → Go X d mX7_readTest Q 14 [(0, .ref a0), (1, .int x1), (2, .int x2), (3, .int (0 : Int32))] [] m)
    (h2 : xs0 = 0 → Q (some (.int (0 : Int32))) m) :
    Go X d mX7_readTest Q 7 [(0, .ref a0), (1, .int x1), (2, .int x2)] [.int xs0] m := by
  refine g_if_ne 12 dX7_readTest_7 (by decide) (fun q1 => ?_) (fun q1 => ?_)
  · refine g_iconst (v := 0) dX7_readTest_12 (by decide) ?_
    refine g_istore_n (ls2 := [(3, .int (0 : Int32)), (0, .ref a0), (1, .int x1), (2, .int x2)]) dX7_readTest_13 rfl (by decide) rfl ?_
    exact g_ls [1, 2, 3, 0] rfl (h1 q1)
  · refine g_iconst (v := 0) dX7_readTest_10 (by decide) ?_
    exact g_bret dX7_readTest_11 rfl (Or.inl rfl) enSH (h2 q1)
theorem bX7_readTest_14 {X : pX} {Q : Option Value → pMem → Prop} {m : pMem} {d : Nat} {a0 : Nat} {x1 : Int32} {x2 : Int32} {x3 : Int32} (hW : Wf m) (hd : 12 ≤ d) (c0 : SH[a0]? = some (.inl 7))
    (h1 : (400 : Int32) ≤ x3 → Cl X 1 mX7_addStep [.ref a0, .int x2] m (fun v m2 => Go X d mX7_readTest Q 96 [(0, .ref a0), (1, .int x1), (2, .int x2), (3, .int x3)] (v.toList ++ []) m2))
    (h2 : ¬ ((400 : Int32) ≤ x3) → Cl X 6 mX9_takeWord [.ref 1, .retAddr 5] m (fun v m2 => Go X d mX7_readTest Q 30 [(0, .ref a0), (1, .int x1), (2, .int x2), (3, .int x3)] (v.toList ++ []) m2)) :
    Go X d mX7_readTest Q 14 [(0, .ref a0), (1, .int x1), (2, .int x2), (3, .int x3)] [] m := by
  refine g_iload_n 3 dX7_readTest_14 rfl rfl ?_
  refine g_sipush (v := 400) dX7_readTest_15 (by decide) ?_
  refine g_icmp_ge 91 dX7_readTest_18 (by decide) (fun q1 => ?_) (fun q1 => ?_)
  · refine g_aload_n 0 dX7_readTest_91 rfl rfl ?_
    refine g_iload_n 2 dX7_readTest_92 rfl rfl ?_
    exact g_callV (As := [.int x2]) (st := []) dX7_readTest_93 clX7_74 c0 rfl rfl (Nat.le_of_ble_eq_true rfl) (rmSH (by omega) (by decide)) (h1 q1)
  · refine g_aload_n 0 dX7_readTest_21 rfl rfl ?_
    refine g_getR dX7_readTest_22 fl7_9 rfl c0 (w7_0 hW c0) ?_
    refine g_ldcS 4 (by decide) rfl rfl dX7_readTest_25 ?_
    exact g_callV (As := [.retAddr 5]) (st := []) dX7_readTest_27 clX7_42 sh1 rfl rfl (Nat.le_of_ble_eq_true rfl) (rmSH (by omega) (by decide)) (h2 q1)
theorem bX7_readTest_96 {X : pX} {Q : Option Value → pMem → Prop} {m : pMem} {d : Nat} {a0 : Nat} {x1 : Int32} {x2 : Int32} {x3 : Int32} (hW : Wf m) (hd : 12 ≤ d) (c0 : SH[a0]? = some (.inl 7))
    (h1 : Q (some (.int (1 : Int32))) m) :
    Go X d mX7_readTest Q 96 [(0, .ref a0), (1, .int x1), (2, .int x2), (3, .int x3)] [] m := by
  refine g_iconst (v := 1) dX7_readTest_96 (by decide) ?_
  exact g_bret dX7_readTest_97 rfl (Or.inr rfl) enSH h1
theorem bX7_readTest_30 {X : pX} {Q : Option Value → pMem → Prop} {m : pMem} {d : Nat} {a0 : Nat} {x1 : Int32} {x2 : Int32} {x3 : Int32} {xs0 : Int32} (hW : Wf m) (hd : 12 ≤ d) (c0 : SH[a0]? = some (.inl 7))
    (h1 : xs0 = 0 → Cl X 6 mX9_takeWord [.ref 1, .retAddr 6] m (fun v m2 => Go X d mX7_readTest Q 64 [(0, .ref a0), (1, .int x1), (2, .int x2), (3, .int x3)] (v.toList ++ []) m2))
    (h2 : ¬ (xs0 = 0) → Cl X (d - 1) mX7_readFact [.ref a0, .int x1] m (fun v m2 => Go X d mX7_readTest Q 38 [(0, .ref a0), (1, .int x1), (2, .int x2), (3, .int x3)] (v.toList ++ []) m2)) :
    Go X d mX7_readTest Q 30 [(0, .ref a0), (1, .int x1), (2, .int x2), (3, .int x3)] [.int xs0] m := by
  refine g_if_eq 55 dX7_readTest_30 (by decide) (fun q1 => ?_) (fun q1 => ?_)
  · refine g_aload_n 0 dX7_readTest_55 rfl rfl ?_
    refine g_getR dX7_readTest_56 fl7_9 rfl c0 (w7_0 hW c0) ?_
    refine g_ldcS 5 (by decide) rfl rfl dX7_readTest_59 ?_
    exact g_callV (As := [.retAddr 6]) (st := []) dX7_readTest_61 clX7_42 sh1 rfl rfl (Nat.le_of_ble_eq_true rfl) (rmSH (by omega) (by decide)) (h1 q1)
  · refine g_aload_n 0 dX7_readTest_33 rfl rfl ?_
    refine g_iload_n 1 dX7_readTest_34 rfl rfl ?_
    exact g_callV (As := [.int x1]) (st := []) dX7_readTest_35 clX7_67 c0 rfl rfl (Nat.le_of_ble_eq_true rfl) (rmSH (by omega) (by decide)) (h2 q1)
theorem bX7_readTest_64 {X : pX} {Q : Option Value → pMem → Prop} {m : pMem} {d : Nat} {a0 : Nat} {x1 : Int32} {x2 : Int32} {x3 : Int32} {xs0 : Int32} (hW : Wf m) (hd : 12 ≤ d) (c0 : SH[a0]? = some (.inl 7))
    (h1 : xs0 = 0 → Cl X 1 mX7_addStep [.ref a0, .int x2] m (fun v m2 => Go X d mX7_readTest Q 96 [(0, .ref a0), (1, .int x1), (2, .int x2), (3, .int x3)] (v.toList ++ []) m2))
    (h2 : ¬ (xs0 = 0) → Cl X 1 mX7_addStep [.ref a0, .int x2] m (fun v m2 => Go X d mX7_readTest Q 72 [(0, .ref a0), (1, .int x1), (2, .int x2), (3, .int x3)] (v.toList ++ []) m2)) :
    Go X d mX7_readTest Q 64 [(0, .ref a0), (1, .int x1), (2, .int x2), (3, .int x3)] [.int xs0] m := by
  refine g_if_eq 91 dX7_readTest_64 (by decide) (fun q1 => ?_) (fun q1 => ?_)
  · refine g_aload_n 0 dX7_readTest_91 rfl rfl ?_
    refine g_iload_n 2 dX7_readTest_92 rfl rfl ?_
    exact g_callV (As := [.int x2]) (st := []) dX7_readTest_93 clX7_74 c0 rfl rfl (Nat.le_of_ble_eq_true rfl) (rmSH (by omega) (by decide)) (h1 q1)
  · refine g_aload_n 0 dX7_readTest_67 rfl rfl ?_
    refine g_iload_n 2 dX7_readTest_68 rfl rfl ?_
    exact g_callV (As := [.int x2]) (st := []) dX7_readTest_69 clX7_74 c0 rfl rfl (Nat.le_of_ble_eq_true rfl) (rmSH (by omega) (by decide)) (h2 q1)
theorem bX7_readTest_38 {X : pX} {Q : Option Value → pMem → Prop} {m : pMem} {d : Nat} {a0 : Nat} {x1 : Int32} {x2 : Int32} {x3 : Int32} {xs0 : Int32} {r44 : Nat} (hW : Wf m) (hd : 12 ≤ d) (c0 : SH[a0]? = some (.inl 7)) (e44 : mR m a0 1 = some r44) (f44 : SH[r44]? = some (.inl 6))
    (h1 : ¬ xs0 = 0 → Cl X 0 mX6_add [.ref r44, .int (-31 : Int32)] m (fun v m2 => Go X d mX7_readTest Q 52 [(0, .ref a0), (1, .int x1), (2, .int x2), (3, .int x3)] (v.toList ++ []) m2))
    (h2 : xs0 = 0 → Q (some (.int (0 : Int32))) m) :
    Go X d mX7_readTest Q 38 [(0, .ref a0), (1, .int x1), (2, .int x2), (3, .int x3)] [.int xs0] m := by
  refine g_if_ne 43 dX7_readTest_38 (by decide) (fun q1 => ?_) (fun q1 => ?_)
  · refine g_aload_n 0 dX7_readTest_43 rfl rfl ?_
    refine g_getR (r := r44) dX7_readTest_44 fl7_15 rfl c0 e44 ?_
    refine g_bipush (v := -31) dX7_readTest_47 (by decide) ?_
    exact g_callV (As := [.int (-31 : Int32)]) (st := []) dX7_readTest_49 clX7_60 f44 rfl rfl (Nat.le_of_ble_eq_true rfl) (rmSH (by omega) (by decide)) (h1 q1)
  · refine g_iconst (v := 0) dX7_readTest_41 (by decide) ?_
    exact g_bret dX7_readTest_42 rfl (Or.inl rfl) enSH (h2 q1)
theorem bX7_readTest_72 {X : pX} {Q : Option Value → pMem → Prop} {m : pMem} {d : Nat} {a0 : Nat} {x1 : Int32} {x2 : Int32} {x3 : Int32} (hW : Wf m) (hd : 12 ≤ d) (c0 : SH[a0]? = some (.inl 7))
    (h1 : Cl X (d - 1) mX7_readFact [.ref a0, .int x1] m (fun v m2 => Go X d mX7_readTest Q 80 [(0, .ref a0), (1, .int x1), (2, .int (-32 : Int32)), (3, .int x3)] (v.toList ++ []) m2)) :
    Go X d mX7_readTest Q 72 [(0, .ref a0), (1, .int x1), (2, .int x2), (3, .int x3)] [] m := by
  refine g_bipush (v := -32) dX7_readTest_72 (by decide) ?_
  refine g_istore_n (ls2 := [(2, .int (-32 : Int32)), (0, .ref a0), (1, .int x1), (3, .int x3)]) dX7_readTest_74 rfl (by decide) rfl ?_
  refine g_aload_n 1 dX7_readTest_75 rfl rfl ?_
  refine g_iload_n 2 dX7_readTest_76 rfl rfl ?_
  refine g_ls [1, 2, 0, 3] (ls2 := [(0, .ref a0), (1, .int x1), (2, .int (-32 : Int32)), (3, .int x3)]) rfl ?_
  exact g_callV (As := [.int x1]) (st := []) dX7_readTest_77 clX7_67 c0 rfl rfl (Nat.le_of_ble_eq_true rfl) (rmSH (by omega) (by decide)) h1
theorem bX7_readTest_52 {X : pX} {Q : Option Value → pMem → Prop} {m : pMem} {d : Nat} {a0 : Nat} {x1 : Int32} {x2 : Int32} {x3 : Int32} (hW : Wf m) (hd : 12 ≤ d) (c0 : SH[a0]? = some (.inl 7))
    (h1 : Go X d mX7_readTest Q 14 [(0, .ref a0), (1, .int x1), (2, .int x2), (3, .int (x3 + (1 : Int32)))] [] m) :
    Go X d mX7_readTest Q 52 [(0, .ref a0), (1, .int x1), (2, .int x2), (3, .int x3)] [] m := by
  refine g_goto 85 dX7_readTest_52 (by decide) ?_
  refine g_iinc (v := x3 + (1 : Int32)) (ls2 := [(3, .int (x3 + (1 : Int32))), (0, .ref a0), (1, .int x1), (2, .int x2)]) 3 dX7_readTest_85 rfl rfl (by decide) rfl ?_
  refine g_goto 14 dX7_readTest_88 (by decide) ?_
  exact g_ls [1, 2, 3, 0] rfl h1
theorem bX7_readTest_80 {X : pX} {Q : Option Value → pMem → Prop} {m : pMem} {d : Nat} {a0 : Nat} {x1 : Int32} {x2 : Int32} {x3 : Int32} {xs0 : Int32} (hW : Wf m) (hd : 12 ≤ d) (c0 : SH[a0]? = some (.inl 7))
    (h1 : ¬ xs0 = 0 → Go X d mX7_readTest Q 14 [(0, .ref a0), (1, .int x1), (2, .int x2), (3, .int (x3 + (1 : Int32)))] [] m)
    (h2 : xs0 = 0 → Q (some (.int (0 : Int32))) m) :
    Go X d mX7_readTest Q 80 [(0, .ref a0), (1, .int x1), (2, .int x2), (3, .int x3)] [.int xs0] m := by
  refine g_if_ne 85 dX7_readTest_80 (by decide) (fun q1 => ?_) (fun q1 => ?_)
  · refine g_iinc (v := x3 + (1 : Int32)) (ls2 := [(3, .int (x3 + (1 : Int32))), (0, .ref a0), (1, .int x1), (2, .int x2)]) 3 dX7_readTest_85 rfl rfl (by decide) rfl ?_
    refine g_goto 14 dX7_readTest_88 (by decide) ?_
    exact g_ls [1, 2, 3, 0] rfl (h1 q1)
  · refine g_iconst (v := 0) dX7_readTest_83 (by decide) ?_
    exact g_bret dX7_readTest_84 rfl (Or.inl rfl) enSH (h2 q1)
theorem bX7_readFact_0 {X : pX} {Q : Option Value → pMem → Prop} {m : pMem} {d : Nat} {a0 : Nat} {x1 : Int32} (hW : Wf m) (hd : 12 ≤ d) (c0 : SH[a0]? = some (.inl 7))
    (h1 : Cl X 1 mX9_next [.ref 1] m (fun v m2 => Go X d mX7_readFact Q 7 [(0, .ref a0), (1, .int x1)] (v.toList ++ []) m2)) :
    Go X d mX7_readFact Q 0 [(0, .ref a0), (1, .int x1)] [] m := by
  refine g_aload_n 0 dX7_readFact_0 rfl rfl ?_
  refine g_getR dX7_readFact_1 fl7_9 rfl c0 (w7_0 hW c0) ?_
  exact g_callV (As := []) (st := []) dX7_readFact_4 clX7_33 sh1 rfl rfl (Nat.le_of_ble_eq_true rfl) (rmSH (by omega) (by decide)) h1
theorem bX7_readFact_7 {X : pX} {Q : Option Value → pMem → Prop} {m : pMem} {d : Nat} {a0 : Nat} {x1 : Int32} {xs0 : Int32} (hW : Wf m) (hd : 12 ≤ d) (c0 : SH[a0]? = some (.inl 7))
    (h1 : Cl X 6 mX9_takeWord [.ref 1, .retAddr 7] m (fun v m2 => Go X d mX7_readFact Q 25 [(0, .ref a0), (1, .int x1), (2, .int (mI m 1 2))] (v.toList ++ []) m2)) :
    Go X d mX7_readFact Q 7 [(0, .ref a0), (1, .int x1)] [.int xs0] m := by
  refine g_pop dX7_readFact_7 rfl ?_
  refine g_aload_n 0 dX7_readFact_8 rfl rfl ?_
  refine g_getR dX7_readFact_9 fl7_9 rfl c0 (w7_0 hW c0) ?_
  refine g_getI dX7_readFact_12 fl7_37 sh1 ?_
  refine g_istore_n (ls2 := [(2, .int (mI m 1 2)), (0, .ref a0), (1, .int x1)]) dX7_readFact_15 rfl (by decide) rfl ?_
  refine g_aload_n 1 dX7_readFact_16 rfl rfl ?_
  refine g_getR dX7_readFact_17 fl7_9 rfl c0 (w7_0 hW c0) ?_
  refine g_ldcS 6 (by decide) rfl rfl dX7_readFact_20 ?_
  refine g_ls [1, 2, 0] (ls2 := [(0, .ref a0), (1, .int x1), (2, .int (mI m 1 2))]) rfl ?_
  exact g_callV (As := [.retAddr 7]) (st := []) dX7_readFact_22 clX7_42 sh1 rfl rfl (Nat.le_of_ble_eq_true rfl) (rmSH (by omega) (by decide)) h1
theorem bX7_readFact_25 {X : pX} {Q : Option Value → pMem → Prop} {m : pMem} {d : Nat} {a0 : Nat} {x1 : Int32} {x2 : Int32} {xs0 : Int32} (hW : Wf m) (hd : 12 ≤ d) (c0 : SH[a0]? = some (.inl 7))
    (h1 : xs0 = 0 → Cl X 2 mX9_takeSign [.ref 1, .int (91 : Int32)] m (fun v m2 => Go X d mX7_readFact Q 76 [(0, .ref a0), (1, .int x1), (2, .int x2)] (v.toList ++ []) m2))
    (h2 : ¬ (xs0 = 0) → x1 < (10 : Int32) → Cl X (d - 1) mX7_readFact [.ref a0, .int (x1 + (1 : Int32))] m (fun v m2 => Go X d mX7_readFact Q 51 [(0, .ref a0), (1, .int x1), (2, .int x2)] (v.toList ++ []) m2))
    (h3 : ¬ (xs0 = 0) → ¬ (x1 < (10 : Int32)) → Cl X 0 mX9_fail [.ref 1, .int x2, .int (2 : Int32)] m (fun v m2 => Go X d mX7_readFact Q 43 [(0, .ref a0), (1, .int x1), (2, .int x2)] (v.toList ++ []) m2)) :
    Go X d mX7_readFact Q 25 [(0, .ref a0), (1, .int x1), (2, .int x2)] [.int xs0] m := by
  refine g_if_eq 67 dX7_readFact_25 (by decide) (fun q1 => ?_) (fun q1 => ?_)
  · refine g_aload_n 0 dX7_readFact_67 rfl rfl ?_
    refine g_getR dX7_readFact_68 fl7_9 rfl c0 (w7_0 hW c0) ?_
    refine g_bipush (v := 91) dX7_readFact_71 (by decide) ?_
    exact g_callV (As := [.int (91 : Int32)]) (st := []) dX7_readFact_73 clX7_64 sh1 rfl rfl (Nat.le_of_ble_eq_true rfl) (rmSH (by omega) (by decide)) (h1 q1)
  · refine g_iload_n 1 dX7_readFact_28 rfl rfl ?_
    refine g_bipush (v := 10) dX7_readFact_29 (by decide) ?_
    refine g_icmp_lt 44 dX7_readFact_31 (by decide) (fun q2 => ?_) (fun q2 => ?_)
    · refine g_aload_n 0 dX7_readFact_44 rfl rfl ?_
      refine g_iload_n 1 dX7_readFact_45 rfl rfl ?_
      refine g_iconst (v := 1) dX7_readFact_46 (by decide) ?_
      refine g_iadd dX7_readFact_47 ?_
      exact g_callV (As := [.int (x1 + (1 : Int32))]) (st := []) dX7_readFact_48 clX7_67 c0 rfl rfl (Nat.le_of_ble_eq_true rfl) (rmSH (by omega) (by decide)) (h2 q1 q2)
    · refine g_aload_n 0 dX7_readFact_34 rfl rfl ?_
      refine g_getR dX7_readFact_35 fl7_9 rfl c0 (w7_0 hW c0) ?_
      refine g_iload_n 2 dX7_readFact_38 rfl rfl ?_
      refine g_iconst (v := 2) dX7_readFact_39 (by decide) ?_
      exact g_callV (As := [.int x2, .int (2 : Int32)]) (st := []) dX7_readFact_40 clX7_46 sh1 rfl rfl (Nat.le_of_ble_eq_true rfl) (rmSH (by omega) (by decide)) (h3 q1 q2)
theorem bX7_readFact_76 {X : pX} {Q : Option Value → pMem → Prop} {m : pMem} {d : Nat} {a0 : Nat} {x1 : Int32} {x2 : Int32} {xs0 : Int32} (hW : Wf m) (hd : 12 ≤ d) (c0 : SH[a0]? = some (.inl 7))
    (h1 : xs0 = 0 → Cl X 8 mX7_readSum [.ref a0] m (fun v m2 => Go X d mX7_readFact Q 145 [(0, .ref a0), (1, .int x1), (2, .int x2)] (v.toList ++ []) m2))
    (h2 : ¬ (xs0 = 0) → x1 < (10 : Int32) → Cl X (d - 1) mX7_readTest [.ref a0, .int (x1 + (1 : Int32))] m (fun v m2 => Go X d mX7_readFact Q 102 [(0, .ref a0), (1, .int x1), (2, .int x2)] (v.toList ++ []) m2))
    (h3 : ¬ (xs0 = 0) → ¬ (x1 < (10 : Int32)) → Cl X 0 mX9_fail [.ref 1, .int x2, .int (2 : Int32)] m (fun v m2 => Go X d mX7_readFact Q 94 [(0, .ref a0), (1, .int x1), (2, .int x2)] (v.toList ++ []) m2)) :
    Go X d mX7_readFact Q 76 [(0, .ref a0), (1, .int x1), (2, .int x2)] [.int xs0] m := by
  refine g_if_eq 141 dX7_readFact_76 (by decide) (fun q1 => ?_) (fun q1 => ?_)
  · refine g_aload_n 0 dX7_readFact_141 rfl rfl ?_
    exact g_callV (As := []) (st := []) dX7_readFact_142 clX7_50 c0 rfl rfl (Nat.le_of_ble_eq_true rfl) (rmSH (by omega) (by decide)) (h1 q1)
  · refine g_iload_n 1 dX7_readFact_79 rfl rfl ?_
    refine g_bipush (v := 10) dX7_readFact_80 (by decide) ?_
    refine g_icmp_lt 95 dX7_readFact_82 (by decide) (fun q2 => ?_) (fun q2 => ?_)
    · refine g_aload_n 0 dX7_readFact_95 rfl rfl ?_
      refine g_iload_n 1 dX7_readFact_96 rfl rfl ?_
      refine g_iconst (v := 1) dX7_readFact_97 (by decide) ?_
      refine g_iadd dX7_readFact_98 ?_
      exact g_callV (As := [.int (x1 + (1 : Int32))]) (st := []) dX7_readFact_99 clX7_56 c0 rfl rfl (Nat.le_of_ble_eq_true rfl) (rmSH (by omega) (by decide)) (h2 q1 q2)
    · refine g_aload_n 0 dX7_readFact_85 rfl rfl ?_
      refine g_getR dX7_readFact_86 fl7_9 rfl c0 (w7_0 hW c0) ?_
      refine g_iload_n 2 dX7_readFact_89 rfl rfl ?_
      refine g_iconst (v := 2) dX7_readFact_90 (by decide) ?_
      exact g_callV (As := [.int x2, .int (2 : Int32)]) (st := []) dX7_readFact_91 clX7_46 sh1 rfl rfl (Nat.le_of_ble_eq_true rfl) (rmSH (by omega) (by decide)) (h3 q1 q2)
theorem bX7_readFact_51 {X : pX} {Q : Option Value → pMem → Prop} {m : pMem} {d : Nat} {a0 : Nat} {x1 : Int32} {x2 : Int32} {xs0 : Int32} {r57 : Nat} (hW : Wf m) (hd : 12 ≤ d) (c0 : SH[a0]? = some (.inl 7)) (e57 : mR m a0 1 = some r57) (f57 : SH[r57]? = some (.inl 6))
    (h1 : ¬ xs0 = 0 → Cl X 0 mX6_add [.ref r57, .int (-33 : Int32)] m (fun v m2 => Go X d mX7_readFact Q 65 [(0, .ref a0), (1, .int x1), (2, .int x2)] (v.toList ++ []) m2))
    (h2 : xs0 = 0 → Q (some (.int (0 : Int32))) m) :
    Go X d mX7_readFact Q 51 [(0, .ref a0), (1, .int x1), (2, .int x2)] [.int xs0] m := by
  refine g_if_ne 56 dX7_readFact_51 (by decide) (fun q1 => ?_) (fun q1 => ?_)
  · refine g_aload_n 0 dX7_readFact_56 rfl rfl ?_
    refine g_getR (r := r57) dX7_readFact_57 fl7_15 rfl c0 e57 ?_
    refine g_bipush (v := -33) dX7_readFact_60 (by decide) ?_
    exact g_callV (As := [.int (-33 : Int32)]) (st := []) dX7_readFact_62 clX7_60 f57 rfl rfl (Nat.le_of_ble_eq_true rfl) (rmSH (by omega) (by decide)) (h1 q1)
  · refine g_iconst (v := 0) dX7_readFact_54 (by decide) ?_
    exact g_bret dX7_readFact_55 rfl (Or.inl rfl) enSH (h2 q1)
theorem bX7_readFact_43 {X : pX} {Q : Option Value → pMem → Prop} {m : pMem} {d : Nat} {a0 : Nat} {x1 : Int32} {x2 : Int32} {xs0 : Int32} (hW : Wf m) (hd : 12 ≤ d) (c0 : SH[a0]? = some (.inl 7))
    (h1 : xs0 = 0 ∨ xs0 = 1)
    (h2 : Q (some (.int xs0)) m) :
    Go X d mX7_readFact Q 43 [(0, .ref a0), (1, .int x1), (2, .int x2)] [.int xs0] m := by
  exact g_bret dX7_readFact_43 rfl h1 enSH h2
theorem bX7_readFact_145 {X : pX} {Q : Option Value → pMem → Prop} {m : pMem} {d : Nat} {a0 : Nat} {x1 : Int32} {x2 : Int32} {xs0 : Int32} (hW : Wf m) (hd : 12 ≤ d) (c0 : SH[a0]? = some (.inl 7))
    (h1 : ¬ xs0 = 0 → Cl X 3 mX7_readSign [.ref a0] m (fun v m2 => Go X d mX7_readFact Q 154 [(0, .ref a0), (1, .int x1), (2, .int x2)] (v.toList ++ []) m2))
    (h2 : xs0 = 0 → Q (some (.int (0 : Int32))) m) :
    Go X d mX7_readFact Q 145 [(0, .ref a0), (1, .int x1), (2, .int x2)] [.int xs0] m := by
  refine g_if_ne 150 dX7_readFact_145 (by decide) (fun q1 => ?_) (fun q1 => ?_)
  · refine g_aload_n 0 dX7_readFact_150 rfl rfl ?_
    exact g_callV (As := []) (st := []) dX7_readFact_151 clX7_79 c0 rfl rfl (Nat.le_of_ble_eq_true rfl) (rmSH (by omega) (by decide)) (h1 q1)
  · refine g_iconst (v := 0) dX7_readFact_148 (by decide) ?_
    exact g_bret dX7_readFact_149 rfl (Or.inl rfl) enSH (h2 q1)
theorem bX7_readFact_102 {X : pX} {Q : Option Value → pMem → Prop} {m : pMem} {d : Nat} {a0 : Nat} {x1 : Int32} {x2 : Int32} {xs0 : Int32} (hW : Wf m) (hd : 12 ≤ d) (c0 : SH[a0]? = some (.inl 7))
    (h1 : xs0 = 0 → Q (some (.int (0 : Int32))) m)
    (h2 : ¬ (xs0 = 0) → Cl X 2 mX9_takeSign [.ref 1, .int (93 : Int32)] m (fun v m2 => Go X d mX7_readFact Q 114 [(0, .ref a0), (1, .int x1), (2, .int x2)] (v.toList ++ []) m2)) :
    Go X d mX7_readFact Q 102 [(0, .ref a0), (1, .int x1), (2, .int x2)] [.int xs0] m := by
  refine g_if_eq 139 dX7_readFact_102 (by decide) (fun q1 => ?_) (fun q1 => ?_)
  · refine g_iconst (v := 0) dX7_readFact_139 (by decide) ?_
    exact g_bret dX7_readFact_140 rfl (Or.inl rfl) enSH (h1 q1)
  · refine g_aload_n 0 dX7_readFact_105 rfl rfl ?_
    refine g_getR dX7_readFact_106 fl7_9 rfl c0 (w7_0 hW c0) ?_
    refine g_bipush (v := 93) dX7_readFact_109 (by decide) ?_
    exact g_callV (As := [.int (93 : Int32)]) (st := []) dX7_readFact_111 clX7_64 sh1 rfl rfl (Nat.le_of_ble_eq_true rfl) (rmSH (by omega) (by decide)) (h2 q1)
theorem bX7_readFact_94 {X : pX} {Q : Option Value → pMem → Prop} {m : pMem} {d : Nat} {a0 : Nat} {x1 : Int32} {x2 : Int32} {xs0 : Int32} (hW : Wf m) (hd : 12 ≤ d) (c0 : SH[a0]? = some (.inl 7))
    (h1 : xs0 = 0 ∨ xs0 = 1)
    (h2 : Q (some (.int xs0)) m) :
    Go X d mX7_readFact Q 94 [(0, .ref a0), (1, .int x1), (2, .int x2)] [.int xs0] m := by
  exact g_bret dX7_readFact_94 rfl h1 enSH h2
theorem bX7_readFact_65 {X : pX} {Q : Option Value → pMem → Prop} {m : pMem} {d : Nat} {a0 : Nat} {x1 : Int32} {x2 : Int32} (hW : Wf m) (hd : 12 ≤ d) (c0 : SH[a0]? = some (.inl 7))
    (h1 : Q (some (.int (1 : Int32))) m) :
    Go X d mX7_readFact Q 65 [(0, .ref a0), (1, .int x1), (2, .int x2)] [] m := by
  refine g_iconst (v := 1) dX7_readFact_65 (by decide) ?_
  exact g_bret dX7_readFact_66 rfl (Or.inr rfl) enSH h1
theorem bX7_readFact_154 {X : pX} {Q : Option Value → pMem → Prop} {m : pMem} {d : Nat} {a0 : Nat} {x1 : Int32} {x2 : Int32} {xs0 : Int32} (hW : Wf m) (hd : 12 ≤ d) (c0 : SH[a0]? = some (.inl 7))
    (h1 : xs0 = 0 → Q (some (.int (0 : Int32))) m)
    (h2 : ¬ (xs0 = 0) → Cl X 8 mX7_readSum [.ref a0] m (fun v m2 => Go X d mX7_readFact Q 163 [(0, .ref a0), (1, .int x1), (2, .int x2), (3, .int xs0)] (v.toList ++ []) m2)) :
    Go X d mX7_readFact Q 154 [(0, .ref a0), (1, .int x1), (2, .int x2)] [.int xs0] m := by
  refine g_istore_n (ls2 := [(3, .int xs0), (0, .ref a0), (1, .int x1), (2, .int x2)]) dX7_readFact_154 rfl (by decide) rfl ?_
  refine g_iload_n 0 dX7_readFact_155 rfl rfl ?_
  refine g_if_eq 166 dX7_readFact_156 (by decide) (fun q1 => ?_) (fun q1 => ?_)
  · refine g_iconst (v := 0) dX7_readFact_166 (by decide) ?_
    exact g_bret dX7_readFact_167 rfl (Or.inl rfl) enSH (h1 q1)
  · refine g_aload_n 1 dX7_readFact_159 rfl rfl ?_
    refine g_ls [1, 2, 3, 0] (ls2 := [(0, .ref a0), (1, .int x1), (2, .int x2), (3, .int xs0)]) rfl ?_
    exact g_callV (As := []) (st := []) dX7_readFact_160 clX7_50 c0 rfl rfl (Nat.le_of_ble_eq_true rfl) (rmSH (by omega) (by decide)) (h2 q1)
theorem bX7_readFact_114 {X : pX} {Q : Option Value → pMem → Prop} {m : pMem} {d : Nat} {a0 : Nat} {x1 : Int32} {x2 : Int32} {xs0 : Int32} (hW : Wf m) (hd : 12 ≤ d) (c0 : SH[a0]? = some (.inl 7))
    (h1 : ¬ xs0 = 0 → Q (some (.int (1 : Int32))) m)
    (h2 : xs0 = 0 → Cl X 0 mX9_fail [.ref 1, .int (mI m 1 2), .int (0 : Int32)] m (fun v m2 => Go X d mX7_readFact Q 132 [(0, .ref a0), (1, .int x1), (2, .int x2)] (v.toList ++ []) m2)) :
    Go X d mX7_readFact Q 114 [(0, .ref a0), (1, .int x1), (2, .int x2)] [.int xs0] m := by
  refine g_if_ne 135 dX7_readFact_114 (by decide) (fun q1 => ?_) (fun q1 => ?_)
  · refine g_iconst (v := 1) dX7_readFact_135 (by decide) ?_
    refine g_goto 140 dX7_readFact_136 (by decide) ?_
    exact g_bret dX7_readFact_140 rfl (Or.inr rfl) enSH (h1 q1)
  · refine g_aload_n 0 dX7_readFact_117 rfl rfl ?_
    refine g_getR dX7_readFact_118 fl7_9 rfl c0 (w7_0 hW c0) ?_
    refine g_aload_n 0 dX7_readFact_121 rfl rfl ?_
    refine g_getR dX7_readFact_122 fl7_9 rfl c0 (w7_0 hW c0) ?_
    refine g_getI dX7_readFact_125 fl7_37 sh1 ?_
    refine g_iconst (v := 0) dX7_readFact_128 (by decide) ?_
    exact g_callV (As := [.int (mI m 1 2), .int (0 : Int32)]) (st := []) dX7_readFact_129 clX7_46 sh1 rfl rfl (Nat.le_of_ble_eq_true rfl) (rmSH (by omega) (by decide)) (h2 q1)
theorem bX7_readFact_163 {X : pX} {Q : Option Value → pMem → Prop} {m : pMem} {d : Nat} {a0 : Nat} {x1 : Int32} {x2 : Int32} {x3 : Int32} {xs0 : Int32} {r169 : Nat} (hW : Wf m) (hd : 12 ≤ d) (c0 : SH[a0]? = some (.inl 7)) (e169 : mR m a0 1 = some r169) (f169 : SH[r169]? = some (.inl 6))
    (h1 : ¬ xs0 = 0 → Cl X 0 mX6_add [.ref r169, .int x3] m (fun v m2 => Go X d mX7_readFact Q 176 [(0, .ref a0), (1, .int x1), (2, .int x2), (3, .int x3)] (v.toList ++ []) m2))
    (h2 : xs0 = 0 → Q (some (.int (0 : Int32))) m) :
    Go X d mX7_readFact Q 163 [(0, .ref a0), (1, .int x1), (2, .int x2), (3, .int x3)] [.int xs0] m := by
  refine g_if_ne 168 dX7_readFact_163 (by decide) (fun q1 => ?_) (fun q1 => ?_)
  · refine g_aload_n 0 dX7_readFact_168 rfl rfl ?_
    refine g_getR (r := r169) dX7_readFact_169 fl7_15 rfl c0 e169 ?_
    refine g_iload_n 3 dX7_readFact_172 rfl rfl ?_
    exact g_callV (As := [.int x3]) (st := []) dX7_readFact_173 clX7_60 f169 rfl rfl (Nat.le_of_ble_eq_true rfl) (rmSH (by omega) (by decide)) (h1 q1)
  · refine g_iconst (v := 0) dX7_readFact_166 (by decide) ?_
    exact g_bret dX7_readFact_167 rfl (Or.inl rfl) enSH (h2 q1)
theorem bX7_readFact_132 {X : pX} {Q : Option Value → pMem → Prop} {m : pMem} {d : Nat} {a0 : Nat} {x1 : Int32} {x2 : Int32} {xs0 : Int32} (hW : Wf m) (hd : 12 ≤ d) (c0 : SH[a0]? = some (.inl 7))
    (h1 : xs0 = 0 → Q (some (.int (0 : Int32))) m)
    (h2 : ¬ (xs0 = 0) → Q (some (.int (1 : Int32))) m) :
    Go X d mX7_readFact Q 132 [(0, .ref a0), (1, .int x1), (2, .int x2)] [.int xs0] m := by
  refine g_if_eq 139 dX7_readFact_132 (by decide) (fun q1 => ?_) (fun q1 => ?_)
  · refine g_iconst (v := 0) dX7_readFact_139 (by decide) ?_
    exact g_bret dX7_readFact_140 rfl (Or.inl rfl) enSH (h1 q1)
  · refine g_iconst (v := 1) dX7_readFact_135 (by decide) ?_
    refine g_goto 140 dX7_readFact_136 (by decide) ?_
    exact g_bret dX7_readFact_140 rfl (Or.inr rfl) enSH (h2 q1)
theorem bX7_readFact_176 {X : pX} {Q : Option Value → pMem → Prop} {m : pMem} {d : Nat} {a0 : Nat} {x1 : Int32} {x2 : Int32} {x3 : Int32} (hW : Wf m) (hd : 12 ≤ d) (c0 : SH[a0]? = some (.inl 7))
    (h1 : Q (some (.int (1 : Int32))) m) :
    Go X d mX7_readFact Q 176 [(0, .ref a0), (1, .int x1), (2, .int x2), (3, .int x3)] [] m := by
  refine g_iconst (v := 1) dX7_readFact_176 (by decide) ?_
  exact g_bret dX7_readFact_177 rfl (Or.inr rfl) enSH h1
theorem bX7_readSign_0 {X : pX} {Q : Option Value → pMem → Prop} {m : pMem} {a0 : Nat} (hW : Wf m) (c0 : SH[a0]? = some (.inl 7))
    (h1 : Cl X 1 mX9_next [.ref 1] m (fun v m2 => Go X 3 mX7_readSign Q 7 [(0, .ref a0)] (v.toList ++ []) m2)) :
    Go X 3 mX7_readSign Q 0 [(0, .ref a0)] [] m := by
  refine g_aload_n 0 dX7_readSign_0 rfl rfl ?_
  refine g_getR dX7_readSign_1 fl7_9 rfl c0 (w7_0 hW c0) ?_
  exact g_callV (As := []) (st := []) dX7_readSign_4 clX7_33 sh1 rfl rfl (Nat.le_of_ble_eq_true rfl) (rmSH (by decide) (by decide)) h1
theorem bX7_readSign_7 {X : pX} {Q : Option Value → pMem → Prop} {m : pMem} {a0 : Nat} {xs0 : Int32} (hW : Wf m) (c0 : SH[a0]? = some (.inl 7))
    (h1 : Cl X 2 mX9_takeSign [.ref 1, .int (60 : Int32)] m (fun v m2 => Go X 3 mX7_readSign Q 27 [(0, .ref a0), (1, .int (mI m 1 2)), (2, .int (0 : Int32))] (v.toList ++ []) m2)) :
    Go X 3 mX7_readSign Q 7 [(0, .ref a0)] [.int xs0] m := by
  refine g_pop dX7_readSign_7 rfl ?_
  refine g_aload_n 0 dX7_readSign_8 rfl rfl ?_
  refine g_getR dX7_readSign_9 fl7_9 rfl c0 (w7_0 hW c0) ?_
  refine g_getI dX7_readSign_12 fl7_37 sh1 ?_
  refine g_istore_n (ls2 := [(1, .int (mI m 1 2)), (0, .ref a0)]) dX7_readSign_15 rfl (by decide) rfl ?_
  refine g_iconst (v := 0) dX7_readSign_16 (by decide) ?_
  refine g_istore_n (ls2 := [(2, .int (0 : Int32)), (1, .int (mI m 1 2)), (0, .ref a0)]) dX7_readSign_17 rfl (by decide) rfl ?_
  refine g_aload_n 2 dX7_readSign_18 rfl rfl ?_
  refine g_getR dX7_readSign_19 fl7_9 rfl c0 (w7_0 hW c0) ?_
  refine g_bipush (v := 60) dX7_readSign_22 (by decide) ?_
  refine g_ls [2, 1, 0] (ls2 := [(0, .ref a0), (1, .int (mI m 1 2)), (2, .int (0 : Int32))]) rfl ?_
  exact g_callV (As := [.int (60 : Int32)]) (st := []) dX7_readSign_24 clX7_64 sh1 rfl rfl (Nat.le_of_ble_eq_true rfl) (rmSH (by decide) (by decide)) h1
theorem bX7_readSign_27 {X : pX} {Q : Option Value → pMem → Prop} {m : pMem} {a0 : Nat} {x1 : Int32} {x2 : Int32} {xs0 : Int32} (hW : Wf m) (c0 : SH[a0]? = some (.inl 7))
    (h1 : xs0 = 0 → Cl X 2 mX9_takeSign [.ref 1, .int (62 : Int32)] m (fun v m2 => Go X 3 mX7_readSign Q 62 [(0, .ref a0), (1, .int x1), (2, .int x2)] (v.toList ++ []) m2))
    (h2 : ¬ (xs0 = 0) → Cl X 1 mX9_takeSignAtOnce [.ref 1, .int (61 : Int32)] m (fun v m2 => Go X 3 mX7_readSign Q 39 [(0, .ref a0), (1, .int x1), (2, .int x2)] (v.toList ++ []) m2)) :
    Go X 3 mX7_readSign Q 27 [(0, .ref a0), (1, .int x1), (2, .int x2)] [.int xs0] m := by
  refine g_if_eq 53 dX7_readSign_27 (by decide) (fun q1 => ?_) (fun q1 => ?_)
  · refine g_aload_n 0 dX7_readSign_53 rfl rfl ?_
    refine g_getR dX7_readSign_54 fl7_9 rfl c0 (w7_0 hW c0) ?_
    refine g_bipush (v := 62) dX7_readSign_57 (by decide) ?_
    exact g_callV (As := [.int (62 : Int32)]) (st := []) dX7_readSign_59 clX7_64 sh1 rfl rfl (Nat.le_of_ble_eq_true rfl) (rmSH (by decide) (by decide)) (h1 q1)
  · refine g_aload_n 0 dX7_readSign_30 rfl rfl ?_
    refine g_getR dX7_readSign_31 fl7_9 rfl c0 (w7_0 hW c0) ?_
    refine g_bipush (v := 61) dX7_readSign_34 (by decide) ?_
    exact g_callV (As := [.int (61 : Int32)]) (st := []) dX7_readSign_36 clX7_82 sh1 rfl rfl (Nat.le_of_ble_eq_true rfl) (rmSH (by decide) (by decide)) (h2 q1)
theorem bX7_readSign_62 {X : pX} {Q : Option Value → pMem → Prop} {m : pMem} {a0 : Nat} {x1 : Int32} {x2 : Int32} {xs0 : Int32} (hW : Wf m) (c0 : SH[a0]? = some (.inl 7))
    (h1 : xs0 = 0 → Cl X 2 mX9_takeSign [.ref 1, .int (61 : Int32)] m (fun v m2 => Go X 3 mX7_readSign Q 97 [(0, .ref a0), (1, .int x1), (2, .int x2)] (v.toList ++ []) m2))
    (h2 : ¬ (xs0 = 0) → Cl X 1 mX9_takeSignAtOnce [.ref 1, .int (61 : Int32)] m (fun v m2 => Go X 3 mX7_readSign Q 74 [(0, .ref a0), (1, .int x1), (2, .int x2)] (v.toList ++ []) m2)) :
    Go X 3 mX7_readSign Q 62 [(0, .ref a0), (1, .int x1), (2, .int x2)] [.int xs0] m := by
  refine g_if_eq 88 dX7_readSign_62 (by decide) (fun q1 => ?_) (fun q1 => ?_)
  · refine g_aload_n 0 dX7_readSign_88 rfl rfl ?_
    refine g_getR dX7_readSign_89 fl7_9 rfl c0 (w7_0 hW c0) ?_
    refine g_bipush (v := 61) dX7_readSign_92 (by decide) ?_
    exact g_callV (As := [.int (61 : Int32)]) (st := []) dX7_readSign_94 clX7_64 sh1 rfl rfl (Nat.le_of_ble_eq_true rfl) (rmSH (by decide) (by decide)) (h1 q1)
  · refine g_aload_n 0 dX7_readSign_65 rfl rfl ?_
    refine g_getR dX7_readSign_66 fl7_9 rfl c0 (w7_0 hW c0) ?_
    refine g_bipush (v := 61) dX7_readSign_69 (by decide) ?_
    exact g_callV (As := [.int (61 : Int32)]) (st := []) dX7_readSign_71 clX7_82 sh1 rfl rfl (Nat.le_of_ble_eq_true rfl) (rmSH (by decide) (by decide)) (h2 q1)
theorem bX7_readSign_39 {X : pX} {Q : Option Value → pMem → Prop} {m : pMem} {a0 : Nat} {x1 : Int32} {x2 : Int32} {xs0 : Int32} (hW : Wf m) (c0 : SH[a0]? = some (.inl 7))
    (h1 : xs0 = 0 → Go X 3 mX7_readSign Q 49 [(0, .ref a0), (1, .int x1)] [.int (-26 : Int32)] m)
    (h2 : ¬ (xs0 = 0) → Go X 3 mX7_readSign Q 49 [(0, .ref a0), (1, .int x1)] [.int (-27 : Int32)] m) :
    Go X 3 mX7_readSign Q 39 [(0, .ref a0), (1, .int x1), (2, .int x2)] [.int xs0] m := by
  refine g_if_eq 47 dX7_readSign_39 (by decide) (fun q1 => ?_) (fun q1 => ?_)
  · refine g_bipush (v := -26) dX7_readSign_47 (by decide) ?_
    exact g_ls [0, 1] rfl (h1 q1)
  · refine g_bipush (v := -27) dX7_readSign_42 (by decide) ?_
    refine g_goto 49 dX7_readSign_44 (by decide) ?_
    exact g_ls [0, 1] rfl (h2 q1)
theorem bX7_readSign_97 {X : pX} {Q : Option Value → pMem → Prop} {m : pMem} {a0 : Nat} {x1 : Int32} {x2 : Int32} {xs0 : Int32} (hW : Wf m) (c0 : SH[a0]? = some (.inl 7))
    (h1 : xs0 = 0 → Go X 3 mX7_readSign Q 103 [(0, .ref a0), (1, .int x1), (2, .int x2)] [] m)
    (h2 : ¬ (xs0 = 0) → Go X 3 mX7_readSign Q 103 [(0, .ref a0), (1, .int x1), (2, .int (-28 : Int32))] [] m) :
    Go X 3 mX7_readSign Q 97 [(0, .ref a0), (1, .int x1), (2, .int x2)] [.int xs0] m := by
  refine g_if_eq 103 dX7_readSign_97 (by decide) (fun q1 => ?_) (fun q1 => ?_)
  · exact g_ls [0, 1, 2] rfl (h1 q1)
  · refine g_bipush (v := -28) dX7_readSign_100 (by decide) ?_
    refine g_istore_n (ls2 := [(2, .int (-28 : Int32)), (0, .ref a0), (1, .int x1)]) dX7_readSign_102 rfl (by decide) rfl ?_
    exact g_ls [1, 2, 0] rfl (h2 q1)
theorem bX7_readSign_74 {X : pX} {Q : Option Value → pMem → Prop} {m : pMem} {a0 : Nat} {x1 : Int32} {x2 : Int32} {xs0 : Int32} (hW : Wf m) (c0 : SH[a0]? = some (.inl 7))
    (h1 : xs0 = 0 → Go X 3 mX7_readSign Q 103 [(0, .ref a0), (1, .int x1), (2, .int (-30 : Int32))] [] m)
    (h2 : ¬ (xs0 = 0) → Go X 3 mX7_readSign Q 103 [(0, .ref a0), (1, .int x1), (2, .int (-29 : Int32))] [] m) :
    Go X 3 mX7_readSign Q 74 [(0, .ref a0), (1, .int x1), (2, .int x2)] [.int xs0] m := by
  refine g_if_eq 82 dX7_readSign_74 (by decide) (fun q1 => ?_) (fun q1 => ?_)
  · refine g_bipush (v := -30) dX7_readSign_82 (by decide) ?_
    refine g_istore_n (ls2 := [(2, .int (-30 : Int32)), (0, .ref a0), (1, .int x1)]) dX7_readSign_84 rfl (by decide) rfl ?_
    refine g_goto 103 dX7_readSign_85 (by decide) ?_
    exact g_ls [1, 2, 0] rfl (h1 q1)
  · refine g_bipush (v := -29) dX7_readSign_77 (by decide) ?_
    refine g_goto 84 dX7_readSign_79 (by decide) ?_
    refine g_istore_n (ls2 := [(2, .int (-29 : Int32)), (0, .ref a0), (1, .int x1)]) dX7_readSign_84 rfl (by decide) rfl ?_
    refine g_goto 103 dX7_readSign_85 (by decide) ?_
    exact g_ls [1, 2, 0] rfl (h2 q1)
theorem bX7_readSign_49 {X : pX} {Q : Option Value → pMem → Prop} {m : pMem} {a0 : Nat} {x1 : Int32} (hW : Wf m) (c0 : SH[a0]? = some (.inl 7))
    (h1 : Go X 3 mX7_readSign Q 103 [(0, .ref a0), (1, .int x1), (2, .int (-26 : Int32))] [] m) :
    Go X 3 mX7_readSign Q 49 [(0, .ref a0), (1, .int x1)] [.int (-26 : Int32)] m := by
  refine g_istore_n (ls2 := [(2, .int (-26 : Int32)), (0, .ref a0), (1, .int x1)]) dX7_readSign_49 rfl (by decide) rfl ?_
  refine g_goto 103 dX7_readSign_50 (by decide) ?_
  exact g_ls [1, 2, 0] rfl h1
theorem bX7_readSign_49v1 {X : pX} {Q : Option Value → pMem → Prop} {m : pMem} {a0 : Nat} {x1 : Int32} (hW : Wf m) (c0 : SH[a0]? = some (.inl 7))
    (h1 : Go X 3 mX7_readSign Q 103 [(0, .ref a0), (1, .int x1), (2, .int (-27 : Int32))] [] m) :
    Go X 3 mX7_readSign Q 49 [(0, .ref a0), (1, .int x1)] [.int (-27 : Int32)] m := by
  refine g_istore_n (ls2 := [(2, .int (-27 : Int32)), (0, .ref a0), (1, .int x1)]) dX7_readSign_49 rfl (by decide) rfl ?_
  refine g_goto 103 dX7_readSign_50 (by decide) ?_
  exact g_ls [1, 2, 0] rfl h1
theorem bX7_readSign_103 {X : pX} {Q : Option Value → pMem → Prop} {m : pMem} {a0 : Nat} {x1 : Int32} {x2 : Int32} (hW : Wf m) (c0 : SH[a0]? = some (.inl 7))
    (h1 : ¬ x2 = 0 → (mI m a0 2) < (60 : Int32) → Q (some (.int x2)) (uI m a0 2 ((mI m a0 2) + (1 : Int32))))
    (h2 : ¬ x2 = 0 → ¬ ((mI m a0 2) < (60 : Int32)) → Cl X 0 mX9_fail [.ref 1, .int x1, .int (3 : Int32)] m (fun v m2 => Go X 3 mX7_readSign Q 137 [(0, .ref a0), (1, .int x1), (2, .int x2)] (v.toList ++ []) m2))
    (h3 : x2 = 0 → Cl X 0 mX9_fail [.ref 1, .int x1, .int (0 : Int32)] m (fun v m2 => Go X 3 mX7_readSign Q 116 [(0, .ref a0), (1, .int x1), (2, .int x2)] (v.toList ++ []) m2)) :
    Go X 3 mX7_readSign Q 103 [(0, .ref a0), (1, .int x1), (2, .int x2)] [] m := by
  refine g_iload_n 2 dX7_readSign_103 rfl rfl ?_
  refine g_if_ne 119 dX7_readSign_104 (by decide) (fun q1 => ?_) (fun q1 => ?_)
  · refine g_aload_n 0 dX7_readSign_119 rfl rfl ?_
    refine g_getI dX7_readSign_120 fl7_24 c0 ?_
    refine g_bipush (v := 60) dX7_readSign_123 (by decide) ?_
    refine g_icmp_lt 140 dX7_readSign_125 (by decide) (fun q2 => ?_) (fun q2 => ?_)
    · refine g_aload_n 0 dX7_readSign_140 rfl rfl ?_
      refine g_dup dX7_readSign_141 rfl ?_
      refine g_getI dX7_readSign_142 fl7_24 c0 ?_
      refine g_iconst (v := 1) dX7_readSign_145 (by decide) ?_
      refine g_iadd dX7_readSign_146 ?_
      refine g_putI dX7_readSign_147 fl7_24 (fun h => by cases h) c0 ?_
      refine g_iload_n 2 dX7_readSign_150 rfl rfl ?_
      exact g_iret dX7_readSign_151 rfl enSH (h1 q1 q2)
    · refine g_aload_n 0 dX7_readSign_128 rfl rfl ?_
      refine g_getR dX7_readSign_129 fl7_9 rfl c0 (w7_0 hW c0) ?_
      refine g_iload_n 1 dX7_readSign_132 rfl rfl ?_
      refine g_iconst (v := 3) dX7_readSign_133 (by decide) ?_
      exact g_callV (As := [.int x1, .int (3 : Int32)]) (st := []) dX7_readSign_134 clX7_46 sh1 rfl rfl (Nat.le_of_ble_eq_true rfl) (rmSH (by decide) (by decide)) (h2 q1 q2)
  · refine g_aload_n 0 dX7_readSign_107 rfl rfl ?_
    refine g_getR dX7_readSign_108 fl7_9 rfl c0 (w7_0 hW c0) ?_
    refine g_iload_n 1 dX7_readSign_111 rfl rfl ?_
    refine g_iconst (v := 0) dX7_readSign_112 (by decide) ?_
    exact g_callV (As := [.int x1, .int (0 : Int32)]) (st := []) dX7_readSign_113 clX7_46 sh1 rfl rfl (Nat.le_of_ble_eq_true rfl) (rmSH (by decide) (by decide)) (h3 q1)
theorem bX7_readSign_137 {X : pX} {Q : Option Value → pMem → Prop} {m : pMem} {a0 : Nat} {x1 : Int32} {x2 : Int32} {xs0 : Int32} (hW : Wf m) (c0 : SH[a0]? = some (.inl 7))
    (h1 : Q (some (.int (0 : Int32))) m) :
    Go X 3 mX7_readSign Q 137 [(0, .ref a0), (1, .int x1), (2, .int x2)] [.int xs0] m := by
  refine g_pop dX7_readSign_137 rfl ?_
  refine g_iconst (v := 0) dX7_readSign_138 (by decide) ?_
  exact g_iret dX7_readSign_139 rfl enSH h1
theorem bX7_readSign_116 {X : pX} {Q : Option Value → pMem → Prop} {m : pMem} {a0 : Nat} {x1 : Int32} {x2 : Int32} {xs0 : Int32} (hW : Wf m) (c0 : SH[a0]? = some (.inl 7))
    (h1 : Q (some (.int (0 : Int32))) m) :
    Go X 3 mX7_readSign Q 116 [(0, .ref a0), (1, .int x1), (2, .int x2)] [.int xs0] m := by
  refine g_pop dX7_readSign_116 rfl ?_
  refine g_iconst (v := 0) dX7_readSign_117 (by decide) ?_
  exact g_iret dX7_readSign_118 rfl enSH h1
theorem bX7_readSum_0 {X : pX} {Q : Option Value → pMem → Prop} {m : pMem} {a0 : Nat} (hW : Wf m) (c0 : SH[a0]? = some (.inl 7))
    (h1 : Cl X 7 mX7_readValue [.ref a0] m (fun v m2 => Go X 8 mX7_readSum Q 6 [(0, .ref a0), (1, .int (0 : Int32))] (v.toList ++ []) m2)) :
    Go X 8 mX7_readSum Q 0 [(0, .ref a0)] [] m := by
  refine g_iconst (v := 0) dX7_readSum_0 (by decide) ?_
  refine g_istore_n (ls2 := [(1, .int (0 : Int32)), (0, .ref a0)]) dX7_readSum_1 rfl (by decide) rfl ?_
  refine g_aload_n 1 dX7_readSum_2 rfl rfl ?_
  refine g_ls [1, 0] (ls2 := [(0, .ref a0), (1, .int (0 : Int32))]) rfl ?_
  exact g_callV (As := []) (st := []) dX7_readSum_3 clX7_85 c0 rfl rfl (Nat.le_of_ble_eq_true rfl) (rmSH (by decide) (by decide)) h1
theorem bX7_readSum_6 {X : pX} {Q : Option Value → pMem → Prop} {m : pMem} {a0 : Nat} {x1 : Int32} {xs0 : Int32} (hW : Wf m) (c0 : SH[a0]? = some (.inl 7))
    (h1 : ¬ xs0 = 0 → Go X 8 mX7_readSum Q 13 [(0, .ref a0), (1, .int x1), (2, .int (0 : Int32))] [] m)
    (h2 : xs0 = 0 → Q (some (.int (0 : Int32))) m) :
    Go X 8 mX7_readSum Q 6 [(0, .ref a0), (1, .int x1)] [.int xs0] m := by
  refine g_if_ne 11 dX7_readSum_6 (by decide) (fun q1 => ?_) (fun q1 => ?_)
  · refine g_iconst (v := 0) dX7_readSum_11 (by decide) ?_
    refine g_istore_n (ls2 := [(2, .int (0 : Int32)), (0, .ref a0), (1, .int x1)]) dX7_readSum_12 rfl (by decide) rfl ?_
    exact g_ls [1, 2, 0] rfl (h1 q1)
  · refine g_iconst (v := 0) dX7_readSum_9 (by decide) ?_
    exact g_bret dX7_readSum_10 rfl (Or.inl rfl) enSH (h2 q1)
theorem bX7_readSum_13 {X : pX} {Q : Option Value → pMem → Prop} {m : pMem} {a0 : Nat} {x1 : Int32} {x2 : Int32} (hW : Wf m) (c0 : SH[a0]? = some (.inl 7))
    (h1 : (400 : Int32) ≤ x2 → Cl X 1 mX7_addStep [.ref a0, .int x1] m (fun v m2 => Go X 8 mX7_readSum Q 115 [(0, .ref a0), (1, .int x1), (2, .int x2)] (v.toList ++ []) m2))
    (h2 : ¬ ((400 : Int32) ≤ x2) → Cl X 1 mX9_next [.ref 1] m (fun v m2 => Go X 8 mX7_readSum Q 27 [(0, .ref a0), (1, .int x1), (2, .int x2)] (v.toList ++ []) m2)) :
    Go X 8 mX7_readSum Q 13 [(0, .ref a0), (1, .int x1), (2, .int x2)] [] m := by
  refine g_iload_n 2 dX7_readSum_13 rfl rfl ?_
  refine g_sipush (v := 400) dX7_readSum_14 (by decide) ?_
  refine g_icmp_ge 110 dX7_readSum_17 (by decide) (fun q1 => ?_) (fun q1 => ?_)
  · refine g_aload_n 0 dX7_readSum_110 rfl rfl ?_
    refine g_iload_n 1 dX7_readSum_111 rfl rfl ?_
    exact g_callV (As := [.int x1]) (st := []) dX7_readSum_112 clX7_74 c0 rfl rfl (Nat.le_of_ble_eq_true rfl) (rmSH (by decide) (by decide)) (h1 q1)
  · refine g_aload_n 0 dX7_readSum_20 rfl rfl ?_
    refine g_getR dX7_readSum_21 fl7_9 rfl c0 (w7_0 hW c0) ?_
    exact g_callV (As := []) (st := []) dX7_readSum_24 clX7_33 sh1 rfl rfl (Nat.le_of_ble_eq_true rfl) (rmSH (by decide) (by decide)) (h2 q1)
theorem bX7_readSum_115 {X : pX} {Q : Option Value → pMem → Prop} {m : pMem} {a0 : Nat} {x1 : Int32} {x2 : Int32} (hW : Wf m) (c0 : SH[a0]? = some (.inl 7))
    (h1 : Q (some (.int (1 : Int32))) m) :
    Go X 8 mX7_readSum Q 115 [(0, .ref a0), (1, .int x1), (2, .int x2)] [] m := by
  refine g_iconst (v := 1) dX7_readSum_115 (by decide) ?_
  exact g_bret dX7_readSum_116 rfl (Or.inr rfl) enSH h1
theorem bX7_readSum_27 {X : pX} {Q : Option Value → pMem → Prop} {m : pMem} {a0 : Nat} {x1 : Int32} {x2 : Int32} {xs0 : Int32} (hW : Wf m) (c0 : SH[a0]? = some (.inl 7))
    (h1 : Cl X 0 mX7_stepOf [.int xs0] m (fun v m2 => Go X 8 mX7_readSum Q 30 [(0, .ref a0), (1, .int x1), (2, .int x2)] (v.toList ++ []) m2)) :
    Go X 8 mX7_readSum Q 27 [(0, .ref a0), (1, .int x1), (2, .int x2)] [.int xs0] m := by
  exact g_callS (As := [.int xs0]) (st := []) dX7_readSum_27 clX7_88 rfl rfl (Nat.le_of_ble_eq_true rfl) (rmSH (by decide) (by decide)) h1
theorem bX7_readSum_30 {X : pX} {Q : Option Value → pMem → Prop} {m : pMem} {a0 : Nat} {x1 : Int32} {x2 : Int32} {xs0 : Int32} (hW : Wf m) (c0 : SH[a0]? = some (.inl 7))
    (h1 : ¬ xs0 = 0 → xs0 = (-21 : Int32) → Go X 8 mX7_readSum Q 63 [(0, .ref a0), (1, .int x1), (2, .int x2), (3, .int xs0)] [] (uI m 1 2 ((mI m 1 2) + (1 : Int32))))
    (h2 : ¬ xs0 = 0 → ¬ (xs0 = (-21 : Int32)) → ¬ xs0 = (-22 : Int32) → Go X 8 mX7_readSum Q 68 [(0, .ref a0), (1, .int x1), (2, .int x2), (3, .int xs0)] [.int (0 : Int32)] (uI m 1 2 ((mI m 1 2) + (1 : Int32))))
    (h3 : ¬ xs0 = 0 → ¬ (xs0 = (-21 : Int32)) → xs0 = (-22 : Int32) → Go X 8 mX7_readSum Q 63 [(0, .ref a0), (1, .int x1), (2, .int x2), (3, .int xs0)] [] (uI m 1 2 ((mI m 1 2) + (1 : Int32))))
    (h4 : xs0 = 0 → Cl X 1 mX7_addStep [.ref a0, .int x1] m (fun v m2 => Go X 8 mX7_readSum Q 115 [(0, .ref a0), (1, .int x1), (2, .int x2), (3, .int xs0)] (v.toList ++ []) m2)) :
    Go X 8 mX7_readSum Q 30 [(0, .ref a0), (1, .int x1), (2, .int x2)] [.int xs0] m := by
  refine g_istore_n (ls2 := [(3, .int xs0), (0, .ref a0), (1, .int x1), (2, .int x2)]) dX7_readSum_30 rfl (by decide) rfl ?_
  refine g_iload_n 0 dX7_readSum_31 rfl rfl ?_
  refine g_if_ne 38 dX7_readSum_32 (by decide) (fun q1 => ?_) (fun q1 => ?_)
  · refine g_aload_n 1 dX7_readSum_38 rfl rfl ?_
    refine g_getR dX7_readSum_39 fl7_9 rfl c0 (w7_0 hW c0) ?_
    refine g_dup dX7_readSum_42 rfl ?_
    refine g_getI dX7_readSum_43 fl7_37 sh1 ?_
    refine g_iconst (v := 1) dX7_readSum_46 (by decide) ?_
    refine g_iadd dX7_readSum_47 ?_
    refine g_putI dX7_readSum_48 fl7_37 (fun h => by cases h) sh1 ?_
    refine g_iload_n 0 dX7_readSum_51 rfl rfl ?_
    refine g_bipush (v := -21) dX7_readSum_52 (by decide) ?_
    refine g_icmp_eq 63 dX7_readSum_54 (by decide) (fun q2 => ?_) (fun q2 => ?_)
    · exact g_ls [1, 2, 3, 0] rfl (h1 q1 q2)
    · refine g_iload_n 0 dX7_readSum_57 rfl rfl ?_
      refine g_bipush (v := -22) dX7_readSum_58 (by decide) ?_
      refine g_icmp_ne 67 dX7_readSum_60 (by decide) (fun q3 => ?_) (fun q3 => ?_)
      · refine g_iconst (v := 0) dX7_readSum_67 (by decide) ?_
        exact g_ls [1, 2, 3, 0] rfl (h2 q1 q2 q3)
      · exact g_ls [1, 2, 3, 0] rfl (h3 q1 q2 q3)
  · refine g_goto 110 dX7_readSum_35 (by decide) ?_
    refine g_aload_n 1 dX7_readSum_110 rfl rfl ?_
    refine g_iload_n 2 dX7_readSum_111 rfl rfl ?_
    refine g_ls [1, 2, 3, 0] (ls2 := [(0, .ref a0), (1, .int x1), (2, .int x2), (3, .int xs0)]) rfl ?_
    exact g_callV (As := [.int x1]) (st := []) dX7_readSum_112 clX7_74 c0 rfl rfl (Nat.le_of_ble_eq_true rfl) (rmSH (by decide) (by decide)) (h4 q1)
theorem bX7_readSum_63 {X : pX} {Q : Option Value → pMem → Prop} {m : pMem} {a0 : Nat} {x1 : Int32} {x2 : Int32} {x3 : Int32} (hW : Wf m) (c0 : SH[a0]? = some (.inl 7))
    (h1 : Go X 8 mX7_readSum Q 68 [(0, .ref a0), (1, .int x1), (2, .int x2), (3, .int x3)] [.int (1 : Int32)] m) :
    Go X 8 mX7_readSum Q 63 [(0, .ref a0), (1, .int x1), (2, .int x2), (3, .int x3)] [] m := by
  refine g_iconst (v := 1) dX7_readSum_63 (by decide) ?_
  refine g_goto 68 dX7_readSum_64 (by decide) ?_
  exact g_ls [0, 1, 2, 3] rfl h1
theorem bX7_readSum_68 {X : pX} {Q : Option Value → pMem → Prop} {m : pMem} {a0 : Nat} {x1 : Int32} {x2 : Int32} {x3 : Int32} (hW : Wf m) (c0 : SH[a0]? = some (.inl 7))
    (h1 : (0 : Int32) = 0 → Cl X 7 mX7_readValue [.ref a0] m (fun v m2 => Go X 8 mX7_readSum Q 86 [(0, .ref a0), (1, .int x1), (2, .int x2), (3, .int x3), (4, .int (0 : Int32))] (v.toList ++ []) m2))
    (h2 : ¬ ((0 : Int32) = 0) → Cl X 1 mX7_addStep [.ref a0, .int x1] m (fun v m2 => Go X 8 mX7_readSum Q 80 [(0, .ref a0), (1, .int x1), (2, .int x2), (3, .int x3), (4, .int (0 : Int32))] (v.toList ++ []) m2)) :
    Go X 8 mX7_readSum Q 68 [(0, .ref a0), (1, .int x1), (2, .int x2), (3, .int x3)] [.int (0 : Int32)] m := by
  refine g_istore (ls2 := [(4, .int (0 : Int32)), (0, .ref a0), (1, .int x1), (2, .int x2), (3, .int x3)]) dX7_readSum_68 (by decide) rfl ?_
  refine g_iload 0 dX7_readSum_70 rfl ?_
  refine g_if_eq 82 dX7_readSum_72 (by decide) (fun q1 => ?_) (fun q1 => ?_)
  · refine g_aload_n 1 dX7_readSum_82 rfl rfl ?_
    refine g_ls [1, 2, 3, 4, 0] (ls2 := [(0, .ref a0), (1, .int x1), (2, .int x2), (3, .int x3), (4, .int (0 : Int32))]) rfl ?_
    exact g_callV (As := []) (st := []) dX7_readSum_83 clX7_85 c0 rfl rfl (Nat.le_of_ble_eq_true rfl) (rmSH (by decide) (by decide)) (h1 q1)
  · refine g_aload_n 1 dX7_readSum_75 rfl rfl ?_
    refine g_iload_n 2 dX7_readSum_76 rfl rfl ?_
    refine g_ls [1, 2, 3, 4, 0] (ls2 := [(0, .ref a0), (1, .int x1), (2, .int x2), (3, .int x3), (4, .int (0 : Int32))]) rfl ?_
    exact g_callV (As := [.int x1]) (st := []) dX7_readSum_77 clX7_74 c0 rfl rfl (Nat.le_of_ble_eq_true rfl) (rmSH (by decide) (by decide)) (h2 q1)
theorem bX7_readSum_115v1 {X : pX} {Q : Option Value → pMem → Prop} {m : pMem} {a0 : Nat} {x1 : Int32} {x2 : Int32} {x3 : Int32} (hW : Wf m) (c0 : SH[a0]? = some (.inl 7))
    (h1 : Q (some (.int (1 : Int32))) m) :
    Go X 8 mX7_readSum Q 115 [(0, .ref a0), (1, .int x1), (2, .int x2), (3, .int x3)] [] m := by
  refine g_iconst (v := 1) dX7_readSum_115 (by decide) ?_
  exact g_bret dX7_readSum_116 rfl (Or.inr rfl) enSH h1
theorem bX7_readSum_68v1 {X : pX} {Q : Option Value → pMem → Prop} {m : pMem} {a0 : Nat} {x1 : Int32} {x2 : Int32} {x3 : Int32} (hW : Wf m) (c0 : SH[a0]? = some (.inl 7))
    (h1 : (1 : Int32) = 0 → Cl X 7 mX7_readValue [.ref a0] m (fun v m2 => Go X 8 mX7_readSum Q 86 [(0, .ref a0), (1, .int x1), (2, .int x2), (3, .int x3), (4, .int (1 : Int32))] (v.toList ++ []) m2))
    (h2 : ¬ ((1 : Int32) = 0) → Cl X 1 mX7_addStep [.ref a0, .int x1] m (fun v m2 => Go X 8 mX7_readSum Q 80 [(0, .ref a0), (1, .int x1), (2, .int x2), (3, .int x3), (4, .int (1 : Int32))] (v.toList ++ []) m2)) :
    Go X 8 mX7_readSum Q 68 [(0, .ref a0), (1, .int x1), (2, .int x2), (3, .int x3)] [.int (1 : Int32)] m := by
  refine g_istore (ls2 := [(4, .int (1 : Int32)), (0, .ref a0), (1, .int x1), (2, .int x2), (3, .int x3)]) dX7_readSum_68 (by decide) rfl ?_
  refine g_iload 0 dX7_readSum_70 rfl ?_
  refine g_if_eq 82 dX7_readSum_72 (by decide) (fun q1 => ?_) (fun q1 => ?_)
  · refine g_aload_n 1 dX7_readSum_82 rfl rfl ?_
    refine g_ls [1, 2, 3, 4, 0] (ls2 := [(0, .ref a0), (1, .int x1), (2, .int x2), (3, .int x3), (4, .int (1 : Int32))]) rfl ?_
    exact g_callV (As := []) (st := []) dX7_readSum_83 clX7_85 c0 rfl rfl (Nat.le_of_ble_eq_true rfl) (rmSH (by decide) (by decide)) (h1 q1)
  · refine g_aload_n 1 dX7_readSum_75 rfl rfl ?_
    refine g_iload_n 2 dX7_readSum_76 rfl rfl ?_
    refine g_ls [1, 2, 3, 4, 0] (ls2 := [(0, .ref a0), (1, .int x1), (2, .int x2), (3, .int x3), (4, .int (1 : Int32))]) rfl ?_
    exact g_callV (As := [.int x1]) (st := []) dX7_readSum_77 clX7_74 c0 rfl rfl (Nat.le_of_ble_eq_true rfl) (rmSH (by decide) (by decide)) (h2 q1)
theorem bX7_readSum_86 {X : pX} {Q : Option Value → pMem → Prop} {m : pMem} {a0 : Nat} {x1 : Int32} {x2 : Int32} {x3 : Int32} {x4 : Int32} {xs0 : Int32} {r97 : Nat} (hW : Wf m) (c0 : SH[a0]? = some (.inl 7)) (e97 : mR m a0 1 = some r97) (f97 : SH[r97]? = some (.inl 6))
    (h1 : ¬ xs0 = 0 → ¬ x4 = 0 → Go X 8 mX7_readSum Q 13 [(0, .ref a0), (1, .int x1), (2, .int (x2 + (1 : Int32)))] [] m)
    (h2 : ¬ xs0 = 0 → x4 = 0 → Cl X 0 mX6_add [.ref r97, .int x3] m (fun v m2 => Go X 8 mX7_readSum Q 104 [(0, .ref a0), (1, .int x1), (2, .int x2), (3, .int x3), (4, .int x4)] (v.toList ++ []) m2))
    (h3 : xs0 = 0 → Q (some (.int (0 : Int32))) m) :
    Go X 8 mX7_readSum Q 86 [(0, .ref a0), (1, .int x1), (2, .int x2), (3, .int x3), (4, .int x4)] [.int xs0] m := by
  refine g_if_ne 91 dX7_readSum_86 (by decide) (fun q1 => ?_) (fun q1 => ?_)
  · refine g_iload 4 dX7_readSum_91 rfl ?_
    refine g_if_ne 104 dX7_readSum_93 (by decide) (fun q2 => ?_) (fun q2 => ?_)
    · refine g_iinc (v := x2 + (1 : Int32)) (ls2 := [(2, .int (x2 + (1 : Int32))), (0, .ref a0), (1, .int x1), (3, .int x3), (4, .int x4)]) 2 dX7_readSum_104 rfl rfl (by decide) rfl ?_
      refine g_goto 13 dX7_readSum_107 (by decide) ?_
      exact g_ls [1, 2, 0] rfl (h1 q1 q2)
    · refine g_aload_n 0 dX7_readSum_96 rfl rfl ?_
      refine g_getR (r := r97) dX7_readSum_97 fl7_15 rfl c0 e97 ?_
      refine g_iload_n 3 dX7_readSum_100 rfl rfl ?_
      exact g_callV (As := [.int x3]) (st := []) dX7_readSum_101 clX7_60 f97 rfl rfl (Nat.le_of_ble_eq_true rfl) (rmSH (by decide) (by decide)) (h2 q1 q2)
  · refine g_iconst (v := 0) dX7_readSum_89 (by decide) ?_
    exact g_bret dX7_readSum_90 rfl (Or.inl rfl) enSH (h3 q1)
theorem bX7_readSum_80 {X : pX} {Q : Option Value → pMem → Prop} {m : pMem} {a0 : Nat} {x1 : Int32} {x2 : Int32} {x3 : Int32} {x4 : Int32} (hW : Wf m) (c0 : SH[a0]? = some (.inl 7))
    (h1 : Cl X 7 mX7_readValue [.ref a0] m (fun v m2 => Go X 8 mX7_readSum Q 86 [(0, .ref a0), (1, .int x3), (2, .int x2), (3, .int x3), (4, .int x4)] (v.toList ++ []) m2)) :
    Go X 8 mX7_readSum Q 80 [(0, .ref a0), (1, .int x1), (2, .int x2), (3, .int x3), (4, .int x4)] [] m := by
  refine g_iload_n 3 dX7_readSum_80 rfl rfl ?_
  refine g_istore_n (ls2 := [(1, .int x3), (0, .ref a0), (2, .int x2), (3, .int x3), (4, .int x4)]) dX7_readSum_81 rfl (by decide) rfl ?_
  refine g_aload_n 1 dX7_readSum_82 rfl rfl ?_
  refine g_ls [1, 0, 2, 3, 4] (ls2 := [(0, .ref a0), (1, .int x3), (2, .int x2), (3, .int x3), (4, .int x4)]) rfl ?_
  exact g_callV (As := []) (st := []) dX7_readSum_83 clX7_85 c0 rfl rfl (Nat.le_of_ble_eq_true rfl) (rmSH (by decide) (by decide)) h1
theorem bX7_readSum_104 {X : pX} {Q : Option Value → pMem → Prop} {m : pMem} {a0 : Nat} {x1 : Int32} {x2 : Int32} {x3 : Int32} {x4 : Int32} (hW : Wf m) (c0 : SH[a0]? = some (.inl 7))
    (h1 : Go X 8 mX7_readSum Q 13 [(0, .ref a0), (1, .int x1), (2, .int (x2 + (1 : Int32)))] [] m) :
    Go X 8 mX7_readSum Q 104 [(0, .ref a0), (1, .int x1), (2, .int x2), (3, .int x3), (4, .int x4)] [] m := by
  refine g_iinc (v := x2 + (1 : Int32)) (ls2 := [(2, .int (x2 + (1 : Int32))), (0, .ref a0), (1, .int x1), (3, .int x3), (4, .int x4)]) 2 dX7_readSum_104 rfl rfl (by decide) rfl ?_
  refine g_goto 13 dX7_readSum_107 (by decide) ?_
  exact g_ls [1, 2, 0] rfl h1
theorem bX7_addStep_0 {X : pX} {Q : Option Value → pMem → Prop} {m : pMem} {a0 : Nat} {x1 : Int32} {r5 : Nat} (hW : Wf m) (c0 : SH[a0]? = some (.inl 7)) (e5 : mR m a0 1 = some r5) (f5 : SH[r5]? = some (.inl 6))
    (h1 : x1 = 0 → Q none m)
    (h2 : ¬ (x1 = 0) → Cl X 0 mX6_add [.ref r5, .int x1] m (fun v m2 => Go X 1 mX7_addStep Q 12 [(0, .ref a0), (1, .int x1)] (v.toList ++ []) m2)) :
    Go X 1 mX7_addStep Q 0 [(0, .ref a0), (1, .int x1)] [] m := by
  refine g_iload_n 1 dX7_addStep_0 rfl rfl ?_
  refine g_if_eq 12 dX7_addStep_1 (by decide) (fun q1 => ?_) (fun q1 => ?_)
  · exact g_vret dX7_addStep_12 rfl enSH (h1 q1)
  · refine g_aload_n 0 dX7_addStep_4 rfl rfl ?_
    refine g_getR (r := r5) dX7_addStep_5 fl7_15 rfl c0 e5 ?_
    refine g_iload_n 1 dX7_addStep_8 rfl rfl ?_
    exact g_callV (As := [.int x1]) (st := []) dX7_addStep_9 clX7_60 f5 rfl rfl (Nat.le_of_ble_eq_true rfl) (rmSH (by decide) (by decide)) (h2 q1)
theorem bX7_addStep_12 {X : pX} {Q : Option Value → pMem → Prop} {m : pMem} {a0 : Nat} {x1 : Int32} (hW : Wf m) (c0 : SH[a0]? = some (.inl 7))
    (h1 : Q none m) :
    Go X 1 mX7_addStep Q 12 [(0, .ref a0), (1, .int x1)] [] m := by
  exact g_vret dX7_addStep_12 rfl enSH h1
theorem bX7_stepOf_0 {X : pX} {Q : Option Value → pMem → Prop} {m : pMem} {x0 : Int32} (hW : Wf m)
    (h1 : x0 = 37 → Q (some (.int (-25 : Int32))) m)
    (h2 : ¬ x0 = 37 → x0 = 42 → Q (some (.int (-23 : Int32))) m)
    (h3 : ¬ x0 = 37 → ¬ x0 = 42 → x0 = 43 → Q (some (.int (-21 : Int32))) m)
    (h4 : ¬ x0 = 37 → ¬ x0 = 42 → ¬ x0 = 43 → x0 = 45 → Q (some (.int (-22 : Int32))) m)
    (h5 : ¬ x0 = 37 → ¬ x0 = 42 → ¬ x0 = 43 → ¬ x0 = 45 → x0 = 47 → Q (some (.int (-24 : Int32))) m)
    (h6 : ¬ x0 = 37 → ¬ x0 = 42 → ¬ x0 = 43 → ¬ x0 = 45 → ¬ x0 = 47 → x0 = 38 → Q (some (.int (0 : Int32))) m)
    (h7 : ¬ x0 = 37 → ¬ x0 = 42 → ¬ x0 = 43 → ¬ x0 = 45 → ¬ x0 = 47 → ¬ x0 = 38 → x0 = 39 → Q (some (.int (0 : Int32))) m)
    (h8 : ¬ x0 = 37 → ¬ x0 = 42 → ¬ x0 = 43 → ¬ x0 = 45 → ¬ x0 = 47 → ¬ x0 = 38 → ¬ x0 = 39 → x0 = 40 → Q (some (.int (0 : Int32))) m)
    (h9 : ¬ x0 = 37 → ¬ x0 = 42 → ¬ x0 = 43 → ¬ x0 = 45 → ¬ x0 = 47 → ¬ x0 = 38 → ¬ x0 = 39 → ¬ x0 = 40 → x0 = 41 → Q (some (.int (0 : Int32))) m)
    (h10 : ¬ x0 = 37 → ¬ x0 = 42 → ¬ x0 = 43 → ¬ x0 = 45 → ¬ x0 = 47 → ¬ x0 = 38 → ¬ x0 = 39 → ¬ x0 = 40 → ¬ x0 = 41 → x0 = 44 → Q (some (.int (0 : Int32))) m)
    (h11 : ¬ x0 = 37 → ¬ x0 = 42 → ¬ x0 = 43 → ¬ x0 = 45 → ¬ x0 = 47 → ¬ x0 = 38 → ¬ x0 = 39 → ¬ x0 = 40 → ¬ x0 = 41 → ¬ x0 = 44 → x0 = 46 → Q (some (.int (0 : Int32))) m)
    (h12 : ¬ x0 = 37 → ¬ x0 = 42 → ¬ x0 = 43 → ¬ x0 = 45 → ¬ x0 = 47 → ¬ x0 = 38 → ¬ x0 = 39 → ¬ x0 = 40 → ¬ x0 = 41 → ¬ x0 = 44 → ¬ x0 = 46 → Q (some (.int (0 : Int32))) m) :
    Go X 0 mX7_stepOf Q 0 [(0, .int x0)] [] m := by
  refine g_iload_n 0 dX7_stepOf_0 rfl rfl ?_
  by_cases q1 : x0 = 37
  · refine g_tabIn 72 dX7_stepOf_1 (by rw [q1]; decide) (by rw [q1]; decide) (by rw [q1]; rfl) (by decide) ?_
    refine g_bipush (v := -25) dX7_stepOf_72 (by decide) ?_
    exact g_iret dX7_stepOf_74 rfl enSH (h1 q1)
  by_cases q2 : x0 = 42
  · refine g_tabIn 66 dX7_stepOf_1 (by rw [q2]; decide) (by rw [q2]; decide) (by rw [q2]; rfl) (by decide) ?_
    refine g_bipush (v := -23) dX7_stepOf_66 (by decide) ?_
    exact g_iret dX7_stepOf_68 rfl enSH (h2 q1 q2)
  by_cases q3 : x0 = 43
  · refine g_tabIn 60 dX7_stepOf_1 (by rw [q3]; decide) (by rw [q3]; decide) (by rw [q3]; rfl) (by decide) ?_
    refine g_bipush (v := -21) dX7_stepOf_60 (by decide) ?_
    exact g_iret dX7_stepOf_62 rfl enSH (h3 q1 q2 q3)
  by_cases q4 : x0 = 45
  · refine g_tabIn 63 dX7_stepOf_1 (by rw [q4]; decide) (by rw [q4]; decide) (by rw [q4]; rfl) (by decide) ?_
    refine g_bipush (v := -22) dX7_stepOf_63 (by decide) ?_
    exact g_iret dX7_stepOf_65 rfl enSH (h4 q1 q2 q3 q4)
  by_cases q5 : x0 = 47
  · refine g_tabIn 69 dX7_stepOf_1 (by rw [q5]; decide) (by rw [q5]; decide) (by rw [q5]; rfl) (by decide) ?_
    refine g_bipush (v := -24) dX7_stepOf_69 (by decide) ?_
    exact g_iret dX7_stepOf_71 rfl enSH (h5 q1 q2 q3 q4 q5)
  by_cases q6 : x0 = 38
  · refine g_tabIn 75 dX7_stepOf_1 (by rw [q6]; decide) (by rw [q6]; decide) (by rw [q6]; rfl) (by decide) ?_
    refine g_iconst (v := 0) dX7_stepOf_75 (by decide) ?_
    exact g_iret dX7_stepOf_76 rfl enSH (h6 q1 q2 q3 q4 q5 q6)
  by_cases q7 : x0 = 39
  · refine g_tabIn 75 dX7_stepOf_1 (by rw [q7]; decide) (by rw [q7]; decide) (by rw [q7]; rfl) (by decide) ?_
    refine g_iconst (v := 0) dX7_stepOf_75 (by decide) ?_
    exact g_iret dX7_stepOf_76 rfl enSH (h7 q1 q2 q3 q4 q5 q6 q7)
  by_cases q8 : x0 = 40
  · refine g_tabIn 75 dX7_stepOf_1 (by rw [q8]; decide) (by rw [q8]; decide) (by rw [q8]; rfl) (by decide) ?_
    refine g_iconst (v := 0) dX7_stepOf_75 (by decide) ?_
    exact g_iret dX7_stepOf_76 rfl enSH (h8 q1 q2 q3 q4 q5 q6 q7 q8)
  by_cases q9 : x0 = 41
  · refine g_tabIn 75 dX7_stepOf_1 (by rw [q9]; decide) (by rw [q9]; decide) (by rw [q9]; rfl) (by decide) ?_
    refine g_iconst (v := 0) dX7_stepOf_75 (by decide) ?_
    exact g_iret dX7_stepOf_76 rfl enSH (h9 q1 q2 q3 q4 q5 q6 q7 q8 q9)
  by_cases q10 : x0 = 44
  · refine g_tabIn 75 dX7_stepOf_1 (by rw [q10]; decide) (by rw [q10]; decide) (by rw [q10]; rfl) (by decide) ?_
    refine g_iconst (v := 0) dX7_stepOf_75 (by decide) ?_
    exact g_iret dX7_stepOf_76 rfl enSH (h10 q1 q2 q3 q4 q5 q6 q7 q8 q9 q10)
  by_cases q11 : x0 = 46
  · refine g_tabIn 75 dX7_stepOf_1 (by rw [q11]; decide) (by rw [q11]; decide) (by rw [q11]; rfl) (by decide) ?_
    refine g_iconst (v := 0) dX7_stepOf_75 (by decide) ?_
    exact g_iret dX7_stepOf_76 rfl enSH (h11 q1 q2 q3 q4 q5 q6 q7 q8 q9 q10 q11)
  refine g_tabOut 75 dX7_stepOf_1 (p_tabD (fun k hk1 hk2 => ?_)) (by decide) ?_
  · have hk : k = 37 ∨ k = 38 ∨ k = 39 ∨ k = 40 ∨ k = 41 ∨ k = 42 ∨ k = 43 ∨ k = 44 ∨ k = 45 ∨ k = 46 ∨ k = 47 := by omega
    rcases hk with rfl | rfl | rfl | rfl | rfl | rfl | rfl | rfl | rfl | rfl | rfl
    · exact q1
    · exact q6
    · exact q7
    · exact q8
    · exact q9
    · exact q2
    · exact q3
    · exact q10
    · exact q4
    · exact q11
    · exact q5
  refine g_iconst (v := 0) dX7_stepOf_75 (by decide) ?_
  exact g_iret dX7_stepOf_76 rfl enSH (h12 q1 q2 q3 q4 q5 q6 q7 q8 q9 q10 q11)
theorem bX7_readValue_0 {X : pX} {Q : Option Value → pMem → Prop} {m : pMem} {a0 : Nat} (hW : Wf m) (c0 : SH[a0]? = some (.inl 7))
    (h1 : Cl X 1 mX9_next [.ref 1] m (fun v m2 => Go X 7 mX7_readValue Q 7 [(0, .ref a0)] (v.toList ++ []) m2)) :
    Go X 7 mX7_readValue Q 0 [(0, .ref a0)] [] m := by
  refine g_aload_n 0 dX7_readValue_0 rfl rfl ?_
  refine g_getR dX7_readValue_1 fl7_9 rfl c0 (w7_0 hW c0) ?_
  exact g_callV (As := []) (st := []) dX7_readValue_4 clX7_33 sh1 rfl rfl (Nat.le_of_ble_eq_true rfl) (rmSH (by decide) (by decide)) h1
theorem bX7_readValue_7 {X : pX} {Q : Option Value → pMem → Prop} {m : pMem} {a0 : Nat} {xs0 : Int32} (hW : Wf m) (c0 : SH[a0]? = some (.inl 7))
    (h1 : Cl X 0 mX9_isDigit [.int xs0] m (fun v m2 => Go X 7 mX7_readValue Q 10 [(0, .ref a0)] (v.toList ++ []) m2)) :
    Go X 7 mX7_readValue Q 7 [(0, .ref a0)] [.int xs0] m := by
  exact g_callS (As := [.int xs0]) (st := []) dX7_readValue_7 clX7_92 rfl rfl (Nat.le_of_ble_eq_true rfl) (rmSH (by decide) (by decide)) h1
theorem bX7_readValue_10 {X : pX} {Q : Option Value → pMem → Prop} {m : pMem} {a0 : Nat} {xs0 : Int32} (hW : Wf m) (c0 : SH[a0]? = some (.inl 7))
    (h1 : xs0 = 0 → Cl X 6 mX9_takeWordOf [.ref 1, .retAddr 2] m (fun v m2 => Go X 7 mX7_readValue Q 45 [(0, .ref a0), (1, .int xs0), (2, .int (mI m 1 2))] (v.toList ++ []) m2))
    (h2 : ¬ (xs0 = 0) → Cl X 1 mX9_number [.ref 1, .int (0 : Int32), .int (99999 : Int32)] m (fun v m2 => Go X 7 mX7_readValue Q 33 [(0, .ref a0), (1, .int xs0), (2, .int (mI m 1 2))] (v.toList ++ []) m2)) :
    Go X 7 mX7_readValue Q 10 [(0, .ref a0)] [.int xs0] m := by
  refine g_istore_n (ls2 := [(1, .int xs0), (0, .ref a0)]) dX7_readValue_10 rfl (by decide) rfl ?_
  refine g_aload_n 1 dX7_readValue_11 rfl rfl ?_
  refine g_getR dX7_readValue_12 fl7_9 rfl c0 (w7_0 hW c0) ?_
  refine g_getI dX7_readValue_15 fl7_37 sh1 ?_
  refine g_istore_n (ls2 := [(2, .int (mI m 1 2)), (1, .int xs0), (0, .ref a0)]) dX7_readValue_18 rfl (by decide) rfl ?_
  refine g_iload_n 1 dX7_readValue_19 rfl rfl ?_
  refine g_if_eq 36 dX7_readValue_20 (by decide) (fun q1 => ?_) (fun q1 => ?_)
  · refine g_aload_n 2 dX7_readValue_36 rfl rfl ?_
    refine g_getR dX7_readValue_37 fl7_9 rfl c0 (w7_0 hW c0) ?_
    refine g_ldcS 1 (by decide) rfl rfl dX7_readValue_40 ?_
    refine g_ls [2, 1, 0] (ls2 := [(0, .ref a0), (1, .int xs0), (2, .int (mI m 1 2))]) rfl ?_
    exact g_callV (As := [.retAddr 2]) (st := []) dX7_readValue_42 clX7_102 sh1 rfl rfl (Nat.le_of_ble_eq_true rfl) (rmSH (by decide) (by decide)) (h1 q1)
  · refine g_aload_n 2 dX7_readValue_23 rfl rfl ?_
    refine g_getR dX7_readValue_24 fl7_9 rfl c0 (w7_0 hW c0) ?_
    refine g_iconst (v := 0) dX7_readValue_27 (by decide) ?_
    refine g_ldc (v := 99999) dX7_readValue_28 ciX7_95 ?_
    refine g_ls [2, 1, 0] (ls2 := [(0, .ref a0), (1, .int xs0), (2, .int (mI m 1 2))]) rfl ?_
    exact g_callV (As := [.int (0 : Int32), .int (99999 : Int32)]) (st := []) dX7_readValue_30 clX7_96 sh1 rfl rfl (Nat.le_of_ble_eq_true rfl) (rmSH (by decide) (by decide)) (h2 q1)
theorem bX7_readValue_45 {X : pX} {Q : Option Value → pMem → Prop} {m : pMem} {a0 : Nat} {x1 : Int32} {x2 : Int32} {xs0 : Int32} {r91 : Nat} (hW : Wf m) (c0 : SH[a0]? = some (.inl 7)) (e91 : mR (uI m a0 2 ((mI m a0 2) + (1 : Int32))) a0 1 = some r91) (f91 : SH[r91]? = some (.inl 6))
    (h1 : ¬ xs0 = (-1 : Int32) → (mI m a0 2) < (60 : Int32) → x1 = 0 → Cl X 0 mX6_add [.ref r91, .int ((-1 : Int32) - xs0)] (uI m a0 2 ((mI m a0 2) + (1 : Int32))) (fun v m2 => Go X 7 mX7_readValue Q 108 [(0, .ref a0), (1, .int x1), (2, .int x2), (3, .int xs0)] (v.toList ++ []) m2))
    (h2 : ¬ xs0 = (-1 : Int32) → (mI m a0 2) < (60 : Int32) → ¬ (x1 = 0) → Cl X 0 mX6_add [.ref r91, .int xs0] (uI m a0 2 ((mI m a0 2) + (1 : Int32))) (fun v m2 => Go X 7 mX7_readValue Q 108 [(0, .ref a0), (1, .int x1), (2, .int x2), (3, .int xs0)] (v.toList ++ []) m2))
    (h3 : ¬ xs0 = (-1 : Int32) → ¬ ((mI m a0 2) < (60 : Int32)) → Cl X 0 mX9_fail [.ref 1, .int x2, .int (3 : Int32)] m (fun v m2 => Go X 7 mX7_readValue Q 79 [(0, .ref a0), (1, .int x1), (2, .int x2), (3, .int xs0)] (v.toList ++ []) m2))
    (h4 : xs0 = (-1 : Int32) → Cl X 0 mX9_fail [.ref 1, .int x2, .int (0 : Int32)] m (fun v m2 => Go X 7 mX7_readValue Q 60 [(0, .ref a0), (1, .int x1), (2, .int x2), (3, .int xs0)] (v.toList ++ []) m2)) :
    Go X 7 mX7_readValue Q 45 [(0, .ref a0), (1, .int x1), (2, .int x2)] [.int xs0] m := by
  refine g_istore_n (ls2 := [(3, .int xs0), (0, .ref a0), (1, .int x1), (2, .int x2)]) dX7_readValue_45 rfl (by decide) rfl ?_
  refine g_iload_n 0 dX7_readValue_46 rfl rfl ?_
  refine g_iconst (v := -1) dX7_readValue_47 (by decide) ?_
  refine g_icmp_ne 61 dX7_readValue_48 (by decide) (fun q1 => ?_) (fun q1 => ?_)
  · refine g_aload_n 1 dX7_readValue_61 rfl rfl ?_
    refine g_getI dX7_readValue_62 fl7_24 c0 ?_
    refine g_bipush (v := 60) dX7_readValue_65 (by decide) ?_
    refine g_icmp_lt 80 dX7_readValue_67 (by decide) (fun q2 => ?_) (fun q2 => ?_)
    · refine g_aload_n 1 dX7_readValue_80 rfl rfl ?_
      refine g_dup dX7_readValue_81 rfl ?_
      refine g_getI dX7_readValue_82 fl7_24 c0 ?_
      refine g_iconst (v := 1) dX7_readValue_85 (by decide) ?_
      refine g_iadd dX7_readValue_86 ?_
      refine g_putI dX7_readValue_87 fl7_24 (fun h => by cases h) c0 ?_
      refine g_aload_n 1 dX7_readValue_90 rfl rfl ?_
      refine g_getR (r := r91) dX7_readValue_91 fl7_15 rfl c0 e91 ?_
      refine g_iload_n 2 dX7_readValue_94 rfl rfl ?_
      refine g_if_eq 102 dX7_readValue_95 (by decide) (fun q3 => ?_) (fun q3 => ?_)
      · refine g_iconst (v := -1) dX7_readValue_102 (by decide) ?_
        refine g_iload_n 0 dX7_readValue_103 rfl rfl ?_
        refine g_isub dX7_readValue_104 ?_
        refine g_ls [1, 2, 3, 0] (ls2 := [(0, .ref a0), (1, .int x1), (2, .int x2), (3, .int xs0)]) rfl ?_
        exact g_callV (As := [.int ((-1 : Int32) - xs0)]) (st := []) dX7_readValue_105 clX7_60 f91 rfl rfl (Nat.le_of_ble_eq_true rfl) (rmSH (by decide) (by decide)) (h1 q1 q2 q3)
      · refine g_iload_n 0 dX7_readValue_98 rfl rfl ?_
        refine g_goto 105 dX7_readValue_99 (by decide) ?_
        refine g_ls [1, 2, 3, 0] (ls2 := [(0, .ref a0), (1, .int x1), (2, .int x2), (3, .int xs0)]) rfl ?_
        exact g_callV (As := [.int xs0]) (st := []) dX7_readValue_105 clX7_60 f91 rfl rfl (Nat.le_of_ble_eq_true rfl) (rmSH (by decide) (by decide)) (h2 q1 q2 q3)
    · refine g_aload_n 1 dX7_readValue_70 rfl rfl ?_
      refine g_getR dX7_readValue_71 fl7_9 rfl c0 (w7_0 hW c0) ?_
      refine g_iload_n 3 dX7_readValue_74 rfl rfl ?_
      refine g_iconst (v := 3) dX7_readValue_75 (by decide) ?_
      refine g_ls [1, 2, 3, 0] (ls2 := [(0, .ref a0), (1, .int x1), (2, .int x2), (3, .int xs0)]) rfl ?_
      exact g_callV (As := [.int x2, .int (3 : Int32)]) (st := []) dX7_readValue_76 clX7_46 sh1 rfl rfl (Nat.le_of_ble_eq_true rfl) (rmSH (by decide) (by decide)) (h3 q1 q2)
  · refine g_aload_n 1 dX7_readValue_51 rfl rfl ?_
    refine g_getR dX7_readValue_52 fl7_9 rfl c0 (w7_0 hW c0) ?_
    refine g_iload_n 3 dX7_readValue_55 rfl rfl ?_
    refine g_iconst (v := 0) dX7_readValue_56 (by decide) ?_
    refine g_ls [1, 2, 3, 0] (ls2 := [(0, .ref a0), (1, .int x1), (2, .int x2), (3, .int xs0)]) rfl ?_
    exact g_callV (As := [.int x2, .int (0 : Int32)]) (st := []) dX7_readValue_57 clX7_46 sh1 rfl rfl (Nat.le_of_ble_eq_true rfl) (rmSH (by decide) (by decide)) (h4 q1)
theorem bX7_readValue_33 {X : pX} {Q : Option Value → pMem → Prop} {m : pMem} {a0 : Nat} {x1 : Int32} {x2 : Int32} {xs0 : Int32} (hW : Wf m) (c0 : SH[a0]? = some (.inl 7))
    (h1 : Go X 7 mX7_readValue Q 45 [(0, .ref a0), (1, .int x1), (2, .int x2)] [.int xs0] m) :
    Go X 7 mX7_readValue Q 33 [(0, .ref a0), (1, .int x1), (2, .int x2)] [.int xs0] m := by
  refine g_goto 45 dX7_readValue_33 (by decide) ?_
  exact g_ls [0, 1, 2] rfl h1
theorem bX7_readValue_108 {X : pX} {Q : Option Value → pMem → Prop} {m : pMem} {a0 : Nat} {x1 : Int32} {x2 : Int32} {x3 : Int32} (hW : Wf m) (c0 : SH[a0]? = some (.inl 7))
    (h1 : Q (some (.int (1 : Int32))) m) :
    Go X 7 mX7_readValue Q 108 [(0, .ref a0), (1, .int x1), (2, .int x2), (3, .int x3)] [] m := by
  refine g_iconst (v := 1) dX7_readValue_108 (by decide) ?_
  exact g_bret dX7_readValue_109 rfl (Or.inr rfl) enSH h1
theorem bX7_readValue_79 {X : pX} {Q : Option Value → pMem → Prop} {m : pMem} {a0 : Nat} {x1 : Int32} {x2 : Int32} {x3 : Int32} {xs0 : Int32} (hW : Wf m) (c0 : SH[a0]? = some (.inl 7))
    (h1 : xs0 = 0 ∨ xs0 = 1)
    (h2 : Q (some (.int xs0)) m) :
    Go X 7 mX7_readValue Q 79 [(0, .ref a0), (1, .int x1), (2, .int x2), (3, .int x3)] [.int xs0] m := by
  exact g_bret dX7_readValue_79 rfl h1 enSH h2
theorem bX7_readValue_60 {X : pX} {Q : Option Value → pMem → Prop} {m : pMem} {a0 : Nat} {x1 : Int32} {x2 : Int32} {x3 : Int32} {xs0 : Int32} (hW : Wf m) (c0 : SH[a0]? = some (.inl 7))
    (h1 : xs0 = 0 ∨ xs0 = 1)
    (h2 : Q (some (.int xs0)) m) :
    Go X 7 mX7_readValue Q 60 [(0, .ref a0), (1, .int x1), (2, .int x2), (3, .int x3)] [.int xs0] m := by
  exact g_bret dX7_readValue_60 rfl h1 enSH h2
