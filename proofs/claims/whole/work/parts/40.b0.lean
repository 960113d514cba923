theorem bX0_peopleInTown_0 {X : pX} {Q : Option Value → pMem → Prop} {m : pMem} {a1 : Nat} (hW : Wf m) (c1 : SH[a1]? = some (.inl 8))
    (h1 : Go X 0 mX0_peopleInTown Q 4 [(0, .ref 512), (1, .ref a1), (2, .int (0 : Int32)), (3, .int (0 : Int32))] [] m) :
    Go X 0 mX0_peopleInTown Q 0 [(0, .ref 512), (1, .ref a1)] [] m := by
  refine g_iconst (v := 0) dX0_peopleInTown_0 (by decide) ?_
  refine g_istore_n (ls2 := [(2, .int (0 : Int32)), (0, .ref 512), (1, .ref a1)]) dX0_peopleInTown_1 rfl (by decide) rfl ?_
  refine g_iconst (v := 0) dX0_peopleInTown_2 (by decide) ?_
  refine g_istore_n (ls2 := [(3, .int (0 : Int32)), (2, .int (0 : Int32)), (0, .ref 512), (1, .ref a1)]) dX0_peopleInTown_3 rfl (by decide) rfl ?_
  exact g_ls [2, 3, 1, 0] rfl h1
theorem bX0_peopleInTown_4 {X : pX} {Q : Option Value → pMem → Prop} {m : pMem} {a1 : Nat} {x2 : Int32} {x3 : Int32} (hW : Wf m) (c1 : SH[a1]? = some (.inl 8))
    (h1 : (mI m 31 3) ≤ x3 → Q (some (.int x2)) m)
    (h2 : ¬ ((mI m 31 3) ≤ x3) → vp_in x3 4)
    (h3 : ¬ ((mI m 31 3) ≤ x3) → ¬ (mI m (a1 + 1) x3.toNatClampNeg) = (mI m 31 2) → Go X 0 mX0_peopleInTown Q 4 [(0, .ref 512), (1, .ref a1), (2, .int x2), (3, .int (x3 + (1 : Int32)))] [] m)
    (h4 : ¬ ((mI m 31 3) ≤ x3) → (mI m (a1 + 1) x3.toNatClampNeg) = (mI m 31 2) → Go X 0 mX0_peopleInTown Q 4 [(0, .ref 512), (1, .ref a1), (2, .int (x2 ||| ((1 : Int32) <<< (x3 &&& 31)))), (3, .int (x3 + (1 : Int32)))] [] m) :
    Go X 0 mX0_peopleInTown Q 4 [(0, .ref 512), (1, .ref a1), (2, .int x2), (3, .int x3)] [] m := by
  refine g_iload_n 3 dX0_peopleInTown_4 rfl rfl ?_
  refine g_aload_n 0 dX0_peopleInTown_5 rfl rfl ?_
  refine g_getR dX0_peopleInTown_6 fl0_17 rfl sh512 (w0_0 hW sh512) ?_
  refine g_getI dX0_peopleInTown_9 fl0_25 sh31 ?_
  refine g_icmp_ge 43 dX0_peopleInTown_12 (by decide) (fun q1 => ?_) (fun q1 => ?_)
  · refine g_iload_n 2 dX0_peopleInTown_43 rfl rfl ?_
    exact g_iret dX0_peopleInTown_44 rfl enSH (h1 q1)
  · refine g_aload_n 1 dX0_peopleInTown_15 rfl rfl ?_
    refine g_getR dX0_peopleInTown_16 fl0_31 rfl c1 (w8_1 hW c1) ?_
    refine g_iload_n 3 dX0_peopleInTown_19 rfl rfl ?_
    refine g_iald (j := x3.toNatClampNeg) dX0_peopleInTown_20 (s8_1 c1) (h2 q1) rfl ?_
    refine g_aload_n 0 dX0_peopleInTown_21 rfl rfl ?_
    refine g_getR dX0_peopleInTown_22 fl0_17 rfl sh512 (w0_0 hW sh512) ?_
    refine g_getI dX0_peopleInTown_25 fl0_36 sh31 ?_
    refine g_icmp_ne 37 dX0_peopleInTown_28 (by decide) (fun q2 => ?_) (fun q2 => ?_)
    · refine g_iinc (v := x3 + (1 : Int32)) (ls2 := [(3, .int (x3 + (1 : Int32))), (0, .ref 512), (1, .ref a1), (2, .int x2)]) 3 dX0_peopleInTown_37 rfl rfl (by decide) rfl ?_
      refine g_goto 4 dX0_peopleInTown_40 (by decide) ?_
      exact g_ls [1, 2, 3, 0] rfl (h3 q1 q2)
    · refine g_iload_n 2 dX0_peopleInTown_31 rfl rfl ?_
      refine g_iconst (v := 1) dX0_peopleInTown_32 (by decide) ?_
      refine g_iload_n 3 dX0_peopleInTown_33 rfl rfl ?_
      refine g_ishl dX0_peopleInTown_34 ?_
      refine g_ior dX0_peopleInTown_35 ?_
      refine g_istore_n (ls2 := [(2, .int (x2 ||| ((1 : Int32) <<< (x3 &&& 31)))), (0, .ref 512), (1, .ref a1), (3, .int x3)]) dX0_peopleInTown_36 rfl (by decide) rfl ?_
      refine g_iinc (v := x3 + (1 : Int32)) (ls2 := [(3, .int (x3 + (1 : Int32))), (2, .int (x2 ||| ((1 : Int32) <<< (x3 &&& 31)))), (0, .ref 512), (1, .ref a1)]) 3 dX0_peopleInTown_37 rfl rfl (by decide) rfl ?_
      refine g_goto 4 dX0_peopleInTown_40 (by decide) ?_
      exact g_ls [2, 3, 1, 0] rfl (h4 q1 q2)
theorem bX1_worthOfSet_0 {X : pX} {Q : Option Value → pMem → Prop} {m : pMem} {x1 : Int32} (hW : Wf m)
    (h1 : vp_in x1 2)
    (h2 : (mI m 522 x1.toNatClampNeg) < 0 → Q (some (.int (0 : Int32))) m)
    (h3 : ¬ ((mI m 522 x1.toNatClampNeg) < 0) → (64 : Int32) ≤ (mI m 522 x1.toNatClampNeg) → Q (some (.int (0 : Int32))) m)
    (h4 : ¬ ((mI m 522 x1.toNatClampNeg) < 0) → ¬ ((64 : Int32) ≤ (mI m 522 x1.toNatClampNeg)) → vp_in x1 2)
    (h5 : ¬ ((mI m 522 x1.toNatClampNeg) < 0) → ¬ ((64 : Int32) ≤ (mI m 522 x1.toNatClampNeg)) → vp_in (mI m 522 x1.toNatClampNeg) 64)
    (h6 : ¬ ((mI m 522 x1.toNatClampNeg) < 0) → ¬ ((64 : Int32) ≤ (mI m 522 x1.toNatClampNeg)) → Q (some (.int (mI m (518 + x1.toNatClampNeg) ((mI m 522 x1.toNatClampNeg).toNatClampNeg)))) m) :
    Go X 0 mX1_worthOfSet Q 0 [(0, .ref 515), (1, .int x1)] [] m := by
  refine g_aload_n 0 dX1_worthOfSet_0 rfl rfl ?_
  refine g_getR dX1_worthOfSet_1 fl1_26 rfl sh515 (w1_7 hW sh515) ?_
  refine g_iload_n 1 dX1_worthOfSet_4 rfl rfl ?_
  refine g_iald (j := x1.toNatClampNeg) dX1_worthOfSet_5 (s1_7 sh515) h1 rfl ?_
  refine g_istore_n (ls2 := [(2, .int (mI m 522 x1.toNatClampNeg)), (0, .ref 515), (1, .int x1)]) dX1_worthOfSet_6 rfl (by decide) rfl ?_
  refine g_iload_n 0 dX1_worthOfSet_7 rfl rfl ?_
  refine g_if_lt 28 dX1_worthOfSet_8 (by decide) (fun q1 => ?_) (fun q1 => ?_)
  · refine g_iconst (v := 0) dX1_worthOfSet_28 (by decide) ?_
    exact g_iret dX1_worthOfSet_29 rfl enSH (h2 q1)
  · refine g_iload_n 0 dX1_worthOfSet_11 rfl rfl ?_
    refine g_bipush (v := 64) dX1_worthOfSet_12 (by decide) ?_
    refine g_icmp_ge 28 dX1_worthOfSet_14 (by decide) (fun q2 => ?_) (fun q2 => ?_)
    · refine g_iconst (v := 0) dX1_worthOfSet_28 (by decide) ?_
      exact g_iret dX1_worthOfSet_29 rfl enSH (h3 q1 q2)
    · refine g_aload_n 1 dX1_worthOfSet_17 rfl rfl ?_
      refine g_getR dX1_worthOfSet_18 fl1_17 rfl sh515 (w1_3 hW sh515) ?_
      refine g_iload_n 2 dX1_worthOfSet_21 rfl rfl ?_
      refine g_aaldA dX1_worthOfSet_22 sh517 (h4 q1 q2) rfl (wWorth hW (inN (h4 q1 q2))) ?_
      refine g_iload_n 0 dX1_worthOfSet_23 rfl rfl ?_
      refine g_iald (j := (mI m 522 x1.toNatClampNeg).toNatClampNeg) dX1_worthOfSet_24 (shWorth _ (inN (h4 q1 q2))) (h5 q1 q2) rfl ?_
      refine g_goto 29 dX1_worthOfSet_25 (by decide) ?_
      exact g_iret dX1_worthOfSet_29 rfl enSH (h6 q1 q2)
theorem bX1_isDigit_0 {X : pX} {Q : Option Value → pMem → Prop} {m : pMem} {x0 : Int32} {x1 : Int32} {x2 : Int32} (hW : Wf m)
    (h1 : x1 ≤ 0 → Q (some (.int (0 : Int32))) m)
    (h2 : ¬ (x1 ≤ 0) → ¬ x1 = 0)
    (h3 : ¬ (x1 ≤ 0) → ¬ ((x0 / x1) - (x0 / x1) / (3 : Int32) * (3 : Int32)) = x2 → Q (some (.int (0 : Int32))) m)
    (h4 : ¬ (x1 ≤ 0) → ((x0 / x1) - (x0 / x1) / (3 : Int32) * (3 : Int32)) = x2 → Q (some (.int (1 : Int32))) m) :
    Go X 0 mX1_isDigit Q 0 [(0, .int x0), (1, .int x1), (2, .int x2)] [] m := by
  refine g_iload_n 1 dX1_isDigit_0 rfl rfl ?_
  refine g_if_le 17 dX1_isDigit_1 (by decide) (fun q1 => ?_) (fun q1 => ?_)
  · refine g_iconst (v := 0) dX1_isDigit_17 (by decide) ?_
    exact g_bret dX1_isDigit_18 rfl (Or.inl rfl) enSH (h1 q1)
  · refine g_iload_n 0 dX1_isDigit_4 rfl rfl ?_
    refine g_iload_n 1 dX1_isDigit_5 rfl rfl ?_
    refine g_idiv dX1_isDigit_6 (h2 q1) ?_
    refine g_iconst (v := 3) dX1_isDigit_7 (by decide) ?_
    refine g_irem dX1_isDigit_8 (by decide) ?_
    refine g_iload_n 2 dX1_isDigit_9 rfl rfl ?_
    refine g_icmp_ne 17 dX1_isDigit_10 (by decide) (fun q2 => ?_) (fun q2 => ?_)
    · refine g_iconst (v := 0) dX1_isDigit_17 (by decide) ?_
      exact g_bret dX1_isDigit_18 rfl (Or.inl rfl) enSH (h3 q1 q2)
    · refine g_iconst (v := 1) dX1_isDigit_13 (by decide) ?_
      refine g_goto 18 dX1_isDigit_14 (by decide) ?_
      exact g_bret dX1_isDigit_18 rfl (Or.inr rfl) enSH (h4 q1 q2)
theorem bX2_clear_0 {X : pX} {Q : Option Value → pMem → Prop} {m : pMem} {a0 : Nat} (hW : Wf m) (c0 : SH[a0]? = some (.inl 2))
    (h1 : Q none (uI (uI m a0 1 (0 : Int32)) a0 2 (0 : Int32))) :
    Go X 0 mX2_clear Q 0 [(0, .ref a0)] [] m := by
  refine g_aload_n 0 dX2_clear_0 rfl rfl ?_
  refine g_iconst (v := 0) dX2_clear_1 (by decide) ?_
  refine g_putI dX2_clear_2 fl2_16 (fun h => by cases h) c0 ?_
  refine g_aload_n 0 dX2_clear_5 rfl rfl ?_
  refine g_iconst (v := 0) dX2_clear_6 (by decide) ?_
  refine g_putI dX2_clear_7 fl2_20 (fun h => by cases h) c0 ?_
  exact g_vret dX2_clear_10 rfl enSH h1
theorem bX4_isStage_0 {X : pX} {Q : Option Value → pMem → Prop} {m : pMem} {a0 : Nat} {x1 : Int32} (hW : Wf m) (c0 : SH[a0]? = some (.inl 4))
    (h1 : x1 < 0 → Q (some (.int (0 : Int32))) m)
    (h2 : ¬ (x1 < 0) → (mI m a0 2) ≤ x1 → Q (some (.int (0 : Int32))) m)
    (h3 : ¬ (x1 < 0) → ¬ ((mI m a0 2) ≤ x1) → (8 : Int32) ≤ x1 → Q (some (.int (0 : Int32))) m)
    (h4 : ¬ (x1 < 0) → ¬ ((mI m a0 2) ≤ x1) → ¬ ((8 : Int32) ≤ x1) → Q (some (.int (1 : Int32))) m) :
    Go X 0 mX4_isStage Q 0 [(0, .ref a0), (1, .int x1)] [] m := by
  refine g_iload_n 1 dX4_isStage_0 rfl rfl ?_
  refine g_if_lt 22 dX4_isStage_1 (by decide) (fun q1 => ?_) (fun q1 => ?_)
  · refine g_iconst (v := 0) dX4_isStage_22 (by decide) ?_
    exact g_bret dX4_isStage_23 rfl (Or.inl rfl) enSH (h1 q1)
  · refine g_iload_n 1 dX4_isStage_4 rfl rfl ?_
    refine g_aload_n 0 dX4_isStage_5 rfl rfl ?_
    refine g_getI dX4_isStage_6 fl4_35 c0 ?_
    refine g_icmp_ge 22 dX4_isStage_9 (by decide) (fun q2 => ?_) (fun q2 => ?_)
    · refine g_iconst (v := 0) dX4_isStage_22 (by decide) ?_
      exact g_bret dX4_isStage_23 rfl (Or.inl rfl) enSH (h2 q1 q2)
    · refine g_iload_n 1 dX4_isStage_12 rfl rfl ?_
      refine g_bipush (v := 8) dX4_isStage_13 (by decide) ?_
      refine g_icmp_ge 22 dX4_isStage_15 (by decide) (fun q3 => ?_) (fun q3 => ?_)
      · refine g_iconst (v := 0) dX4_isStage_22 (by decide) ?_
        exact g_bret dX4_isStage_23 rfl (Or.inl rfl) enSH (h3 q1 q2 q3)
      · refine g_iconst (v := 1) dX4_isStage_18 (by decide) ?_
        refine g_goto 23 dX4_isStage_19 (by decide) ?_
        exact g_bret dX4_isStage_23 rfl (Or.inr rfl) enSH (h4 q1 q2 q3)
theorem bX4_isPlace_0 {X : pX} {Q : Option Value → pMem → Prop} {m : pMem} {a0 : Nat} {x1 : Int32} (hW : Wf m) (c0 : SH[a0]? = some (.inl 4))
    (h1 : x1 < 0 → Q (some (.int (0 : Int32))) m)
    (h2 : ¬ (x1 < 0) → (mI m a0 2) < x1 → Q (some (.int (0 : Int32))) m)
    (h3 : ¬ (x1 < 0) → ¬ ((mI m a0 2) < x1) → Q (some (.int (1 : Int32))) m) :
    Go X 0 mX4_isPlace Q 0 [(0, .ref a0), (1, .int x1)] [] m := by
  refine g_iload_n 1 dX4_isPlace_0 rfl rfl ?_
  refine g_if_lt 16 dX4_isPlace_1 (by decide) (fun q1 => ?_) (fun q1 => ?_)
  · refine g_iconst (v := 0) dX4_isPlace_16 (by decide) ?_
    exact g_bret dX4_isPlace_17 rfl (Or.inl rfl) enSH (h1 q1)
  · refine g_iload_n 1 dX4_isPlace_4 rfl rfl ?_
    refine g_aload_n 0 dX4_isPlace_5 rfl rfl ?_
    refine g_getI dX4_isPlace_6 fl4_35 c0 ?_
    refine g_icmp_gt 16 dX4_isPlace_9 (by decide) (fun q2 => ?_) (fun q2 => ?_)
    · refine g_iconst (v := 0) dX4_isPlace_16 (by decide) ?_
      exact g_bret dX4_isPlace_17 rfl (Or.inl rfl) enSH (h2 q1 q2)
    · refine g_iconst (v := 1) dX4_isPlace_12 (by decide) ?_
      refine g_goto 17 dX4_isPlace_13 (by decide) ?_
      exact g_bret dX4_isPlace_17 rfl (Or.inr rfl) enSH (h3 q1 q2)
theorem bX4_isPerson_0 {X : pX} {Q : Option Value → pMem → Prop} {m : pMem} {a0 : Nat} {x1 : Int32} (hW : Wf m) (c0 : SH[a0]? = some (.inl 4))
    (h1 : x1 < 0 → Q (some (.int (0 : Int32))) m)
    (h2 : ¬ (x1 < 0) → (mI m a0 3) ≤ x1 → Q (some (.int (0 : Int32))) m)
    (h3 : ¬ (x1 < 0) → ¬ ((mI m a0 3) ≤ x1) → (4 : Int32) ≤ x1 → Q (some (.int (0 : Int32))) m)
    (h4 : ¬ (x1 < 0) → ¬ ((mI m a0 3) ≤ x1) → ¬ ((4 : Int32) ≤ x1) → Q (some (.int (1 : Int32))) m) :
    Go X 0 mX4_isPerson Q 0 [(0, .ref a0), (1, .int x1)] [] m := by
  refine g_iload_n 1 dX4_isPerson_0 rfl rfl ?_
  refine g_if_lt 21 dX4_isPerson_1 (by decide) (fun q1 => ?_) (fun q1 => ?_)
  · refine g_iconst (v := 0) dX4_isPerson_21 (by decide) ?_
    exact g_bret dX4_isPerson_22 rfl (Or.inl rfl) enSH (h1 q1)
  · refine g_iload_n 1 dX4_isPerson_4 rfl rfl ?_
    refine g_aload_n 0 dX4_isPerson_5 rfl rfl ?_
    refine g_getI dX4_isPerson_6 fl4_38 c0 ?_
    refine g_icmp_ge 21 dX4_isPerson_9 (by decide) (fun q2 => ?_) (fun q2 => ?_)
    · refine g_iconst (v := 0) dX4_isPerson_21 (by decide) ?_
      exact g_bret dX4_isPerson_22 rfl (Or.inl rfl) enSH (h2 q1 q2)
    · refine g_iload_n 1 dX4_isPerson_12 rfl rfl ?_
      refine g_iconst (v := 4) dX4_isPerson_13 (by decide) ?_
      refine g_icmp_ge 21 dX4_isPerson_14 (by decide) (fun q3 => ?_) (fun q3 => ?_)
      · refine g_iconst (v := 0) dX4_isPerson_21 (by decide) ?_
        exact g_bret dX4_isPerson_22 rfl (Or.inl rfl) enSH (h3 q1 q2 q3)
      · refine g_iconst (v := 1) dX4_isPerson_17 (by decide) ?_
        refine g_goto 22 dX4_isPerson_18 (by decide) ?_
        exact g_bret dX4_isPerson_22 rfl (Or.inr rfl) enSH (h4 q1 q2 q3)
theorem bX4_isThing_0 {X : pX} {Q : Option Value → pMem → Prop} {m : pMem} {a0 : Nat} {x1 : Int32} (hW : Wf m) (c0 : SH[a0]? = some (.inl 4))
    (h1 : x1 < 0 → Q (some (.int (0 : Int32))) m)
    (h2 : ¬ (x1 < 0) → (mI m a0 4) ≤ x1 → Q (some (.int (0 : Int32))) m)
    (h3 : ¬ (x1 < 0) → ¬ ((mI m a0 4) ≤ x1) → (6 : Int32) ≤ x1 → Q (some (.int (0 : Int32))) m)
    (h4 : ¬ (x1 < 0) → ¬ ((mI m a0 4) ≤ x1) → ¬ ((6 : Int32) ≤ x1) → Q (some (.int (1 : Int32))) m) :
    Go X 0 mX4_isThing Q 0 [(0, .ref a0), (1, .int x1)] [] m := by
  refine g_iload_n 1 dX4_isThing_0 rfl rfl ?_
  refine g_if_lt 22 dX4_isThing_1 (by decide) (fun q1 => ?_) (fun q1 => ?_)
  · refine g_iconst (v := 0) dX4_isThing_22 (by decide) ?_
    exact g_bret dX4_isThing_23 rfl (Or.inl rfl) enSH (h1 q1)
  · refine g_iload_n 1 dX4_isThing_4 rfl rfl ?_
    refine g_aload_n 0 dX4_isThing_5 rfl rfl ?_
    refine g_getI dX4_isThing_6 fl4_41 c0 ?_
    refine g_icmp_ge 22 dX4_isThing_9 (by decide) (fun q2 => ?_) (fun q2 => ?_)
    · refine g_iconst (v := 0) dX4_isThing_22 (by decide) ?_
      exact g_bret dX4_isThing_23 rfl (Or.inl rfl) enSH (h2 q1 q2)
    · refine g_iload_n 1 dX4_isThing_12 rfl rfl ?_
      refine g_bipush (v := 6) dX4_isThing_13 (by decide) ?_
      refine g_icmp_ge 22 dX4_isThing_15 (by decide) (fun q3 => ?_) (fun q3 => ?_)
      · refine g_iconst (v := 0) dX4_isThing_22 (by decide) ?_
        exact g_bret dX4_isThing_23 rfl (Or.inl rfl) enSH (h3 q1 q2 q3)
      · refine g_iconst (v := 1) dX4_isThing_18 (by decide) ?_
        refine g_goto 23 dX4_isThing_19 (by decide) ?_
        exact g_bret dX4_isThing_23 rfl (Or.inr rfl) enSH (h4 q1 q2 q3)
theorem bX4_allThings_0 {X : pX} {Q : Option Value → pMem → Prop} {m : pMem} {a0 : Nat} (hW : Wf m) (c0 : SH[a0]? = some (.inl 4))
    (h1 : Q (some (.int (((1 : Int32) <<< ((mI m a0 4) &&& 31)) - (1 : Int32)))) m) :
    Go X 0 mX4_allThings Q 0 [(0, .ref a0)] [] m := by
  refine g_iconst (v := 1) dX4_allThings_0 (by decide) ?_
  refine g_aload_n 0 dX4_allThings_1 rfl rfl ?_
  refine g_getI dX4_allThings_2 fl4_41 c0 ?_
  refine g_ishl dX4_allThings_5 ?_
  refine g_iconst (v := 1) dX4_allThings_6 (by decide) ?_
  refine g_isub dX4_allThings_7 ?_
  exact g_iret dX4_allThings_8 rfl enSH h1
theorem bX4_weightOf_0 {X : pX} {Q : Option Value → pMem → Prop} {m : pMem} {a0 : Nat} {x1 : Int32} (hW : Wf m) (c0 : SH[a0]? = some (.inl 4))
    (h1 : Go X 0 mX4_weightOf Q 4 [(0, .ref a0), (1, .int x1), (2, .int (0 : Int32)), (3, .int (0 : Int32))] [] m) :
    Go X 0 mX4_weightOf Q 0 [(0, .ref a0), (1, .int x1)] [] m := by
  refine g_iconst (v := 0) dX4_weightOf_0 (by decide) ?_
  refine g_istore_n (ls2 := [(2, .int (0 : Int32)), (0, .ref a0), (1, .int x1)]) dX4_weightOf_1 rfl (by decide) rfl ?_
  refine g_iconst (v := 0) dX4_weightOf_2 (by decide) ?_
  refine g_istore_n (ls2 := [(3, .int (0 : Int32)), (2, .int (0 : Int32)), (0, .ref a0), (1, .int x1)]) dX4_weightOf_3 rfl (by decide) rfl ?_
  exact g_ls [2, 3, 1, 0] rfl h1
theorem bX4_weightOf_4 {X : pX} {Q : Option Value → pMem → Prop} {m : pMem} {a0 : Nat} {x1 : Int32} {x2 : Int32} {x3 : Int32} (hW : Wf m) (c0 : SH[a0]? = some (.inl 4))
    (h1 : (6 : Int32) ≤ x3 → Q (some (.int x2)) m)
    (h2 : ¬ ((6 : Int32) ≤ x3) → ¬ ((x1 >>> (x3 &&& 31)) &&& (1 : Int32)) = (1 : Int32) → Go X 0 mX4_weightOf Q 4 [(0, .ref a0), (1, .int x1), (2, .int x2), (3, .int (x3 + (1 : Int32)))] [] m)
    (h3 : ¬ ((6 : Int32) ≤ x3) → ((x1 >>> (x3 &&& 31)) &&& (1 : Int32)) = (1 : Int32) → vp_in x3 6)
    (h4 : ¬ ((6 : Int32) ≤ x3) → ((x1 >>> (x3 &&& 31)) &&& (1 : Int32)) = (1 : Int32) → Go X 0 mX4_weightOf Q 4 [(0, .ref a0), (1, .int x1), (2, .int (x2 + (mI m (a0 + 3) x3.toNatClampNeg))), (3, .int (x3 + (1 : Int32)))] [] m) :
    Go X 0 mX4_weightOf Q 4 [(0, .ref a0), (1, .int x1), (2, .int x2), (3, .int x3)] [] m := by
  refine g_iload_n 3 dX4_weightOf_4 rfl rfl ?_
  refine g_bipush (v := 6) dX4_weightOf_5 (by decide) ?_
  refine g_icmp_ge 34 dX4_weightOf_7 (by decide) (fun q1 => ?_) (fun q1 => ?_)
  · refine g_iload_n 2 dX4_weightOf_34 rfl rfl ?_
    exact g_iret dX4_weightOf_35 rfl enSH (h1 q1)
  · refine g_iload_n 1 dX4_weightOf_10 rfl rfl ?_
    refine g_iload_n 3 dX4_weightOf_11 rfl rfl ?_
    refine g_ishr dX4_weightOf_12 ?_
    refine g_iconst (v := 1) dX4_weightOf_13 (by decide) ?_
    refine g_iand dX4_weightOf_14 ?_
    refine g_iconst (v := 1) dX4_weightOf_15 (by decide) ?_
    refine g_icmp_ne 28 dX4_weightOf_16 (by decide) (fun q2 => ?_) (fun q2 => ?_)
    · refine g_iinc (v := x3 + (1 : Int32)) (ls2 := [(3, .int (x3 + (1 : Int32))), (0, .ref a0), (1, .int x1), (2, .int x2)]) 3 dX4_weightOf_28 rfl rfl (by decide) rfl ?_
      refine g_goto 4 dX4_weightOf_31 (by decide) ?_
      exact g_ls [1, 2, 3, 0] rfl (h2 q1 q2)
    · refine g_iload_n 2 dX4_weightOf_19 rfl rfl ?_
      refine g_aload_n 0 dX4_weightOf_20 rfl rfl ?_
      refine g_getR dX4_weightOf_21 fl4_18 rfl c0 (w4_7 hW c0) ?_
      refine g_iload_n 3 dX4_weightOf_24 rfl rfl ?_
      refine g_iald (j := x3.toNatClampNeg) dX4_weightOf_25 (s4_7 c0) (h3 q1 q2) rfl ?_
      refine g_iadd dX4_weightOf_26 ?_
      refine g_istore_n (ls2 := [(2, .int (x2 + (mI m (a0 + 3) x3.toNatClampNeg))), (0, .ref a0), (1, .int x1), (3, .int x3)]) dX4_weightOf_27 rfl (by decide) rfl ?_
      refine g_iinc (v := x3 + (1 : Int32)) (ls2 := [(3, .int (x3 + (1 : Int32))), (2, .int (x2 + (mI m (a0 + 3) x3.toNatClampNeg))), (0, .ref a0), (1, .int x1)]) 3 dX4_weightOf_28 rfl rfl (by decide) rfl ?_
      refine g_goto 4 dX4_weightOf_31 (by decide) ?_
      exact g_ls [2, 3, 1, 0] rfl (h4 q1 q2)
theorem bX4_worthOf_0 {X : pX} {Q : Option Value → pMem → Prop} {m : pMem} {a0 : Nat} {x1 : Int32} (hW : Wf m) (c0 : SH[a0]? = some (.inl 4))
    (h1 : Go X 0 mX4_worthOf Q 4 [(0, .ref a0), (1, .int x1), (2, .int (0 : Int32)), (3, .int (0 : Int32))] [] m) :
    Go X 0 mX4_worthOf Q 0 [(0, .ref a0), (1, .int x1)] [] m := by
  refine g_iconst (v := 0) dX4_worthOf_0 (by decide) ?_
  refine g_istore_n (ls2 := [(2, .int (0 : Int32)), (0, .ref a0), (1, .int x1)]) dX4_worthOf_1 rfl (by decide) rfl ?_
  refine g_iconst (v := 0) dX4_worthOf_2 (by decide) ?_
  refine g_istore_n (ls2 := [(3, .int (0 : Int32)), (2, .int (0 : Int32)), (0, .ref a0), (1, .int x1)]) dX4_worthOf_3 rfl (by decide) rfl ?_
  exact g_ls [2, 3, 1, 0] rfl h1
theorem bX4_worthOf_4 {X : pX} {Q : Option Value → pMem → Prop} {m : pMem} {a0 : Nat} {x1 : Int32} {x2 : Int32} {x3 : Int32} (hW : Wf m) (c0 : SH[a0]? = some (.inl 4))
    (h1 : (6 : Int32) ≤ x3 → Q (some (.int x2)) m)
    (h2 : ¬ ((6 : Int32) ≤ x3) → ¬ ((x1 >>> (x3 &&& 31)) &&& (1 : Int32)) = (1 : Int32) → Go X 0 mX4_worthOf Q 4 [(0, .ref a0), (1, .int x1), (2, .int x2), (3, .int (x3 + (1 : Int32)))] [] m)
    (h3 : ¬ ((6 : Int32) ≤ x3) → ((x1 >>> (x3 &&& 31)) &&& (1 : Int32)) = (1 : Int32) → vp_in x3 6)
    (h4 : ¬ ((6 : Int32) ≤ x3) → ((x1 >>> (x3 &&& 31)) &&& (1 : Int32)) = (1 : Int32) → Go X 0 mX4_worthOf Q 4 [(0, .ref a0), (1, .int x1), (2, .int (x2 + (mI m (a0 + 4) x3.toNatClampNeg))), (3, .int (x3 + (1 : Int32)))] [] m) :
    Go X 0 mX4_worthOf Q 4 [(0, .ref a0), (1, .int x1), (2, .int x2), (3, .int x3)] [] m := by
  refine g_iload_n 3 dX4_worthOf_4 rfl rfl ?_
  refine g_bipush (v := 6) dX4_worthOf_5 (by decide) ?_
  refine g_icmp_ge 34 dX4_worthOf_7 (by decide) (fun q1 => ?_) (fun q1 => ?_)
  · refine g_iload_n 2 dX4_worthOf_34 rfl rfl ?_
    exact g_iret dX4_worthOf_35 rfl enSH (h1 q1)
  · refine g_iload_n 1 dX4_worthOf_10 rfl rfl ?_
    refine g_iload_n 3 dX4_worthOf_11 rfl rfl ?_
    refine g_ishr dX4_worthOf_12 ?_
    refine g_iconst (v := 1) dX4_worthOf_13 (by decide) ?_
    refine g_iand dX4_worthOf_14 ?_
    refine g_iconst (v := 1) dX4_worthOf_15 (by decide) ?_
    refine g_icmp_ne 28 dX4_worthOf_16 (by decide) (fun q2 => ?_) (fun q2 => ?_)
    · refine g_iinc (v := x3 + (1 : Int32)) (ls2 := [(3, .int (x3 + (1 : Int32))), (0, .ref a0), (1, .int x1), (2, .int x2)]) 3 dX4_worthOf_28 rfl rfl (by decide) rfl ?_
      refine g_goto 4 dX4_worthOf_31 (by decide) ?_
      exact g_ls [1, 2, 3, 0] rfl (h2 q1 q2)
    · refine g_iload_n 2 dX4_worthOf_19 rfl rfl ?_
      refine g_aload_n 0 dX4_worthOf_20 rfl rfl ?_
      refine g_getR dX4_worthOf_21 fl4_21 rfl c0 (w4_8 hW c0) ?_
      refine g_iload_n 3 dX4_worthOf_24 rfl rfl ?_
      refine g_iald (j := x3.toNatClampNeg) dX4_worthOf_25 (s4_8 c0) (h3 q1 q2) rfl ?_
      refine g_iadd dX4_worthOf_26 ?_
      refine g_istore_n (ls2 := [(2, .int (x2 + (mI m (a0 + 4) x3.toNatClampNeg))), (0, .ref a0), (1, .int x1), (3, .int x3)]) dX4_worthOf_27 rfl (by decide) rfl ?_
      refine g_iinc (v := x3 + (1 : Int32)) (ls2 := [(3, .int (x3 + (1 : Int32))), (2, .int (x2 + (mI m (a0 + 4) x3.toNatClampNeg))), (0, .ref a0), (1, .int x1)]) 3 dX4_worthOf_28 rfl rfl (by decide) rfl ?_
      refine g_goto 4 dX4_worthOf_31 (by decide) ?_
      exact g_ls [2, 3, 1, 0] rfl (h4 q1 q2)
theorem bX5_isFull_0 {X : pX} {Q : Option Value → pMem → Prop} {m : pMem} {x1 : Int32} (hW : Wf m)
    (h1 : ¬ x1 = (1 : Int32) → Go X 0 mX5_isFull Q 17 [(0, .ref 3), (1, .int x1)] [] m)
    (h2 : x1 = (1 : Int32) → (8 : Int32) ≤ (mI m 4 2) → Q (some (.int (1 : Int32))) m)
    (h3 : x1 = (1 : Int32) → ¬ ((8 : Int32) ≤ (mI m 4 2)) → Go X 0 mX5_isFull Q 17 [(0, .ref 3), (1, .int x1)] [] m) :
    Go X 0 mX5_isFull Q 0 [(0, .ref 3), (1, .int x1)] [] m := by
  refine g_iload_n 1 dX5_isFull_0 rfl rfl ?_
  refine g_iconst (v := 1) dX5_isFull_1 (by decide) ?_
  refine g_icmp_ne 17 dX5_isFull_2 (by decide) (fun q1 => ?_) (fun q1 => ?_)
  · exact g_ls [0, 1] rfl (h1 q1)
  · refine g_aload_n 0 dX5_isFull_5 rfl rfl ?_
    refine g_getR dX5_isFull_6 fl5_12 rfl sh3 (w5_1 hW sh3) ?_
    refine g_getI dX5_isFull_9 fl5_78 (s5_1 sh3) ?_
    refine g_bipush (v := 8) dX5_isFull_12 (by decide) ?_
    refine g_icmp_ge 50 dX5_isFull_14 (by decide) (fun q2 => ?_) (fun q2 => ?_)
    · refine g_iconst (v := 1) dX5_isFull_50 (by decide) ?_
      refine g_goto 55 dX5_isFull_51 (by decide) ?_
      exact g_bret dX5_isFull_55 rfl (Or.inr rfl) enSH (h2 q1 q2)
    · exact g_ls [0, 1] rfl (h3 q1 q2)
theorem bX5_isFull_17 {X : pX} {Q : Option Value → pMem → Prop} {m : pMem} {x1 : Int32} (hW : Wf m)
    (h1 : ¬ x1 = (2 : Int32) → Go X 0 mX5_isFull Q 33 [(0, .ref 3), (1, .int x1)] [] m)
    (h2 : x1 = (2 : Int32) → (4 : Int32) ≤ (mI m 4 3) → Q (some (.int (1 : Int32))) m)
    (h3 : x1 = (2 : Int32) → ¬ ((4 : Int32) ≤ (mI m 4 3)) → Go X 0 mX5_isFull Q 33 [(0, .ref 3), (1, .int x1)] [] m) :
    Go X 0 mX5_isFull Q 17 [(0, .ref 3), (1, .int x1)] [] m := by
  refine g_iload_n 1 dX5_isFull_17 rfl rfl ?_
  refine g_iconst (v := 2) dX5_isFull_18 (by decide) ?_
  refine g_icmp_ne 33 dX5_isFull_19 (by decide) (fun q1 => ?_) (fun q1 => ?_)
  · exact g_ls [0, 1] rfl (h1 q1)
  · refine g_aload_n 0 dX5_isFull_22 rfl rfl ?_
    refine g_getR dX5_isFull_23 fl5_12 rfl sh3 (w5_1 hW sh3) ?_
    refine g_getI dX5_isFull_26 fl5_81 (s5_1 sh3) ?_
    refine g_iconst (v := 4) dX5_isFull_29 (by decide) ?_
    refine g_icmp_ge 50 dX5_isFull_30 (by decide) (fun q2 => ?_) (fun q2 => ?_)
    · refine g_iconst (v := 1) dX5_isFull_50 (by decide) ?_
      refine g_goto 55 dX5_isFull_51 (by decide) ?_
      exact g_bret dX5_isFull_55 rfl (Or.inr rfl) enSH (h2 q1 q2)
    · exact g_ls [0, 1] rfl (h3 q1 q2)
theorem bX5_isFull_33 {X : pX} {Q : Option Value → pMem → Prop} {m : pMem} {x1 : Int32} (hW : Wf m)
    (h1 : ¬ x1 = (3 : Int32) → Q (some (.int (0 : Int32))) m)
    (h2 : x1 = (3 : Int32) → (mI m 4 4) < (6 : Int32) → Q (some (.int (0 : Int32))) m)
    (h3 : x1 = (3 : Int32) → ¬ ((mI m 4 4) < (6 : Int32)) → Q (some (.int (1 : Int32))) m) :
    Go X 0 mX5_isFull Q 33 [(0, .ref 3), (1, .int x1)] [] m := by
  refine g_iload_n 1 dX5_isFull_33 rfl rfl ?_
  refine g_iconst (v := 3) dX5_isFull_34 (by decide) ?_
  refine g_icmp_ne 54 dX5_isFull_35 (by decide) (fun q1 => ?_) (fun q1 => ?_)
  · refine g_iconst (v := 0) dX5_isFull_54 (by decide) ?_
    exact g_bret dX5_isFull_55 rfl (Or.inl rfl) enSH (h1 q1)
  · refine g_aload_n 0 dX5_isFull_38 rfl rfl ?_
    refine g_getR dX5_isFull_39 fl5_12 rfl sh3 (w5_1 hW sh3) ?_
    refine g_getI dX5_isFull_42 fl5_84 (s5_1 sh3) ?_
    refine g_bipush (v := 6) dX5_isFull_45 (by decide) ?_
    refine g_icmp_lt 54 dX5_isFull_47 (by decide) (fun q2 => ?_) (fun q2 => ?_)
    · refine g_iconst (v := 0) dX5_isFull_54 (by decide) ?_
      exact g_bret dX5_isFull_55 rfl (Or.inl rfl) enSH (h2 q1 q2)
    · refine g_iconst (v := 1) dX5_isFull_50 (by decide) ?_
      refine g_goto 55 dX5_isFull_51 (by decide) ?_
      exact g_bret dX5_isFull_55 rfl (Or.inr rfl) enSH (h3 q1 q2)
theorem bX5_manyOf_0 {X : pX} {Q : Option Value → pMem → Prop} {m : pMem} {x1 : Int32} (hW : Wf m)
    (h1 : Go X 0 mX5_manyOf Q 17 [(1, .int x1), (2, .int (0 : Int32)), (3, .ref 9), (4, .int (6 : Int32)), (5, .int (0 : Int32))] [] m) :
    Go X 0 mX5_manyOf Q 0 [(0, .ref 3), (1, .int x1)] [] m := by
  refine g_iconst (v := 0) dX5_manyOf_0 (by decide) ?_
  refine g_istore_n (ls2 := [(2, .int (0 : Int32)), (0, .ref 3), (1, .int x1)]) dX5_manyOf_1 rfl (by decide) rfl ?_
  refine g_aload_n 1 dX5_manyOf_2 rfl rfl ?_
  refine g_getR dX5_manyOf_3 fl5_12 rfl sh3 (w5_1 hW sh3) ?_
  refine g_getR dX5_manyOf_6 fl5_107 rfl (s5_1 sh3) (w4_9 hW (s5_1 sh3)) ?_
  refine g_astore_n (ls2 := [(3, .ref 9), (2, .int (0 : Int32)), (0, .ref 3), (1, .int x1)]) dX5_manyOf_9 rfl (by decide) rfl ?_
  refine g_aload_n 0 dX5_manyOf_10 rfl rfl ?_
  refine g_alen (v := (6 : Int32)) dX5_manyOf_11 (s4_9 (s5_1 sh3)) (by decide) (by first | rfl | decide) ?_
  refine g_istore (ls2 := [(4, .int (6 : Int32)), (3, .ref 9), (2, .int (0 : Int32)), (0, .ref 3), (1, .int x1)]) dX5_manyOf_12 (by decide) rfl ?_
  refine g_iconst (v := 0) dX5_manyOf_14 (by decide) ?_
  refine g_istore (ls2 := [(5, .int (0 : Int32)), (4, .int (6 : Int32)), (3, .ref 9), (2, .int (0 : Int32)), (0, .ref 3), (1, .int x1)]) dX5_manyOf_15 (by decide) rfl ?_
  exact g_ls [5, 3, 2, 1, 0] rfl h1
theorem bX5_manyOf_17 {X : pX} {Q : Option Value → pMem → Prop} {m : pMem} {x1 : Int32} {x2 : Int32} {a3 : Nat} {x4 : Int32} {x5 : Int32} (hW : Wf m) (c3 : SH[a3]? = some (.inr (.int, 6)))
    (h1 : x4 ≤ x5 → Q (some (.int x2)) m)
    (h2 : ¬ (x4 ≤ x5) → vp_in x5 6)
    (h3 : ¬ (x4 ≤ x5) → ¬ (mI m a3 x5.toNatClampNeg) = x1 → Go X 0 mX5_manyOf Q 17 [(1, .int x1), (2, .int x2), (3, .ref a3), (4, .int x4), (5, .int (x5 + (1 : Int32)))] [] m)
    (h4 : ¬ (x4 ≤ x5) → (mI m a3 x5.toNatClampNeg) = x1 → Go X 0 mX5_manyOf Q 17 [(1, .int x1), (2, .int (x2 + (1 : Int32))), (3, .ref a3), (4, .int x4), (5, .int (x5 + (1 : Int32)))] [] m) :
    Go X 0 mX5_manyOf Q 17 [(1, .int x1), (2, .int x2), (3, .ref a3), (4, .int x4), (5, .int x5)] [] m := by
  refine g_iload 4 dX5_manyOf_17 rfl ?_
  refine g_iload 3 dX5_manyOf_19 rfl ?_
  refine g_icmp_ge 45 dX5_manyOf_21 (by decide) (fun q1 => ?_) (fun q1 => ?_)
  · refine g_iload_n 1 dX5_manyOf_45 rfl rfl ?_
    exact g_iret dX5_manyOf_46 rfl enSH (h1 q1)
  · refine g_aload_n 2 dX5_manyOf_24 rfl rfl ?_
    refine g_iload 4 dX5_manyOf_25 rfl ?_
    refine g_iald (j := x5.toNatClampNeg) dX5_manyOf_27 c3 (h2 q1) rfl ?_
    refine g_istore (ls2 := [(6, .int (mI m a3 x5.toNatClampNeg)), (1, .int x1), (2, .int x2), (3, .ref a3), (4, .int x4), (5, .int x5)]) dX5_manyOf_28 (by decide) rfl ?_
    refine g_iload 0 dX5_manyOf_30 rfl ?_
    refine g_iload_n 1 dX5_manyOf_32 rfl rfl ?_
    refine g_icmp_ne 39 dX5_manyOf_33 (by decide) (fun q2 => ?_) (fun q2 => ?_)
    · refine g_iinc (v := x5 + (1 : Int32)) (ls2 := [(5, .int (x5 + (1 : Int32))), (6, .int (mI m a3 x5.toNatClampNeg)), (1, .int x1), (2, .int x2), (3, .ref a3), (4, .int x4)]) 5 dX5_manyOf_39 rfl rfl (by decide) rfl ?_
      refine g_goto 17 dX5_manyOf_42 (by decide) ?_
      exact g_ls [2, 3, 4, 5, 0] rfl (h3 q1 q2)
    · refine g_iinc (v := x2 + (1 : Int32)) (ls2 := [(2, .int (x2 + (1 : Int32))), (6, .int (mI m a3 x5.toNatClampNeg)), (1, .int x1), (3, .ref a3), (4, .int x4), (5, .int x5)]) 2 dX5_manyOf_36 rfl rfl (by decide) rfl ?_
      refine g_iinc (v := x5 + (1 : Int32)) (ls2 := [(5, .int (x5 + (1 : Int32))), (2, .int (x2 + (1 : Int32))), (6, .int (mI m a3 x5.toNatClampNeg)), (1, .int x1), (3, .ref a3), (4, .int x4)]) 5 dX5_manyOf_39 rfl rfl (by decide) rfl ?_
      refine g_goto 17 dX5_manyOf_42 (by decide) ?_
      exact g_ls [3, 1, 4, 5, 0] rfl (h4 q1 q2)
theorem bX6_clear_0 {X : pX} {Q : Option Value → pMem → Prop} {m : pMem} {a0 : Nat} (hW : Wf m) (c0 : SH[a0]? = some (.inl 6))
    (h1 : Q none (uI m a0 2 (0 : Int32))) :
    Go X 0 mX6_clear Q 0 [(0, .ref a0)] [] m := by
  refine g_aload_n 0 dX6_clear_0 rfl rfl ?_
  refine g_iconst (v := 0) dX6_clear_1 (by decide) ?_
  refine g_putI dX6_clear_2 fl6_19 (fun h => by cases h) c0 ?_
  exact g_vret dX6_clear_5 rfl enSH h1
theorem bX6_add_0 {X : pX} {Q : Option Value → pMem → Prop} {m : pMem} {a0 : Nat} {x1 : Int32} (hW : Wf m) (c0 : SH[a0]? = some (.inl 6))
    (h1 : (400 : Int32) ≤ (mI m a0 2) → Q none m)
    (h2 : ¬ ((400 : Int32) ≤ (mI m a0 2)) → vp_in (mI m a0 2) 400)
    (h3 : ¬ ((400 : Int32) ≤ (mI m a0 2)) → Q none (uI (uI m (a0 + 1) ((mI m a0 2).toNatClampNeg) x1) a0 2 ((mI (uI m (a0 + 1) ((mI m a0 2).toNatClampNeg) x1) a0 2) + (1 : Int32)))) :
    Go X 0 mX6_add Q 0 [(0, .ref a0), (1, .int x1)] [] m := by
  refine g_aload_n 0 dX6_add_0 rfl rfl ?_
  refine g_getI dX6_add_1 fl6_19 c0 ?_
  refine g_aload_n 0 dX6_add_4 rfl rfl ?_
  refine g_getR dX6_add_5 fl6_9 rfl c0 (w6_0 hW c0) ?_
  refine g_alen (v := (400 : Int32)) dX6_add_8 (s6_0 c0) (by decide) (by first | rfl | decide) ?_
  refine g_icmp_ge 32 dX6_add_9 (by decide) (fun q1 => ?_) (fun q1 => ?_)
  · exact g_vret dX6_add_32 rfl enSH (h1 q1)
  · refine g_aload_n 0 dX6_add_12 rfl rfl ?_
    refine g_getR dX6_add_13 fl6_9 rfl c0 (w6_0 hW c0) ?_
    refine g_aload_n 0 dX6_add_16 rfl rfl ?_
    refine g_getI dX6_add_17 fl6_19 c0 ?_
    refine g_iload_n 1 dX6_add_20 rfl rfl ?_
    refine g_iast (j := (mI m a0 2).toNatClampNeg) dX6_add_21 (s6_0 c0) (h2 q1) rfl ?_
    refine g_aload_n 0 dX6_add_22 rfl rfl ?_
    refine g_dup dX6_add_23 rfl ?_
    refine g_getI dX6_add_24 fl6_19 c0 ?_
    refine g_iconst (v := 1) dX6_add_27 (by decide) ?_
    refine g_iadd dX6_add_28 ?_
    refine g_putI dX6_add_29 fl6_19 (fun h => by cases h) c0 ?_
    exact g_vret dX6_add_32 rfl enSH (h3 q1)
theorem bX6_push_0 {X : pX} {Q : Option Value → pMem → Prop} {m : pMem} {a0 : Nat} {y1 : Int64} (hW : Wf m) (c0 : SH[a0]? = some (.inl 6))
    (h1 : (64 : Int32) ≤ (mI m a0 3) → Q none m)
    (h2 : ¬ ((64 : Int32) ≤ (mI m a0 3)) → vp_in (mI m a0 3) 64)
    (h3 : ¬ ((64 : Int32) ≤ (mI m a0 3)) → Q none (uI (uL m (a0 + 2) ((mI m a0 3).toNatClampNeg) y1) a0 3 ((mI m a0 3) + (1 : Int32)))) :
    Go X 0 mX6_push Q 0 [(0, .ref a0), (1, .long y1)] [] m := by
  refine g_aload_n 0 dX6_push_0 rfl rfl ?_
  refine g_getI dX6_push_1 fl6_23 c0 ?_
  refine g_bipush (v := 64) dX6_push_4 (by decide) ?_
  refine g_icmp_ge 29 dX6_push_6 (by decide) (fun q1 => ?_) (fun q1 => ?_)
  · exact g_vret dX6_push_29 rfl enSH (h1 q1)
  · refine g_aload_n 0 dX6_push_9 rfl rfl ?_
    refine g_getR dX6_push_10 fl6_15 rfl c0 (w6_1 hW c0) ?_
    refine g_aload_n 0 dX6_push_13 rfl rfl ?_
    refine g_getI dX6_push_14 fl6_23 c0 ?_
    refine g_lload_n 1 dX6_push_17 rfl rfl ?_
    refine g_last (j := (mI m a0 3).toNatClampNeg) dX6_push_18 (s6_1 c0) (h2 q1) rfl ?_
    refine g_aload_n 0 dX6_push_19 rfl rfl ?_
    refine g_dup dX6_push_20 rfl ?_
    refine g_getI dX6_push_21 fl6_23 c0 ?_
    refine g_iconst (v := 1) dX6_push_24 (by decide) ?_
    refine g_iadd dX6_push_25 ?_
    refine g_putI dX6_push_26 fl6_23 (fun h => by cases h) c0 ?_
    exact g_vret dX6_push_29 rfl enSH (h3 q1)
theorem bX6_pop_0 {X : pX} {Q : Option Value → pMem → Prop} {m : pMem} {a0 : Nat} (hW : Wf m) (c0 : SH[a0]? = some (.inl 6))
    (h1 : (1 : Int32) ≤ (mI m a0 3) → vp_in (mI (uI m a0 3 ((mI m a0 3) - (1 : Int32))) a0 3) 64)
    (h2 : (1 : Int32) ≤ (mI m a0 3) → Q (some (.long (mL m (a0 + 2) ((mI (uI m a0 3 ((mI m a0 3) - (1 : Int32))) a0 3).toNatClampNeg)))) (uI m a0 3 ((mI m a0 3) - (1 : Int32))))
    (h3 : ¬ ((1 : Int32) ≤ (mI m a0 3)) → Q (some (.long (0 : Int64))) m) :
    Go X 0 mX6_pop Q 0 [(0, .ref a0)] [] m := by
  refine g_aload_n 0 dX6_pop_0 rfl rfl ?_
  refine g_getI dX6_pop_1 fl6_23 c0 ?_
  refine g_iconst (v := 1) dX6_pop_4 (by decide) ?_
  refine g_icmp_ge 10 dX6_pop_5 (by decide) (fun q1 => ?_) (fun q1 => ?_)
  · refine g_aload_n 0 dX6_pop_10 rfl rfl ?_
    refine g_dup dX6_pop_11 rfl ?_
    refine g_getI dX6_pop_12 fl6_23 c0 ?_
    refine g_iconst (v := 1) dX6_pop_15 (by decide) ?_
    refine g_isub dX6_pop_16 ?_
    refine g_putI dX6_pop_17 fl6_23 (fun h => by cases h) c0 ?_
    refine g_aload_n 0 dX6_pop_20 rfl rfl ?_
    refine g_getR dX6_pop_21 fl6_15 rfl c0 (w6_1 hW c0) ?_
    refine g_aload_n 0 dX6_pop_24 rfl rfl ?_
    refine g_getI dX6_pop_25 fl6_23 c0 ?_
    refine g_lald (j := (mI (uI m a0 3 ((mI m a0 3) - (1 : Int32))) a0 3).toNatClampNeg) dX6_pop_28 (s6_1 c0) (h1 q1) rfl ?_
    exact g_lret dX6_pop_29 rfl enSH (h2 q1)
  · refine g_lconst (v := 0) dX6_pop_8 (by decide) ?_
    exact g_lret dX6_pop_9 rfl enSH (h3 q1)
theorem bX6_ofTwo_0 {X : pX} {Q : Option Value → pMem → Prop} {m : pMem} {x0 : Int32} {y1 : Int64} {y3 : Int64} (hW : Wf m)
    (h1 : x0 = -32 → Q (some (.long (y1 ||| y3))) m)
    (h2 : ¬ x0 = -32 → x0 = -31 → Q (some (.long (y1 &&& y3))) m)
    (h3 : ¬ x0 = -32 → ¬ x0 = -31 → x0 = -30 → (lg_cmp y1 y3) ≤ 0 → Q (some (.long (0 : Int64))) m)
    (h4 : ¬ x0 = -32 → ¬ x0 = -31 → x0 = -30 → ¬ ((lg_cmp y1 y3) ≤ 0) → Q (some (.long (1 : Int64))) m)
    (h5 : ¬ x0 = -32 → ¬ x0 = -31 → ¬ x0 = -30 → x0 = -29 → (lg_cmp y1 y3) < 0 → Q (some (.long (0 : Int64))) m)
    (h6 : ¬ x0 = -32 → ¬ x0 = -31 → ¬ x0 = -30 → x0 = -29 → ¬ ((lg_cmp y1 y3) < 0) → Q (some (.long (1 : Int64))) m)
    (h7 : ¬ x0 = -32 → ¬ x0 = -31 → ¬ x0 = -30 → ¬ x0 = -29 → x0 = -28 → ¬ (lg_cmp y1 y3) = 0 → Q (some (.long (0 : Int64))) m)
    (h8 : ¬ x0 = -32 → ¬ x0 = -31 → ¬ x0 = -30 → ¬ x0 = -29 → x0 = -28 → (lg_cmp y1 y3) = 0 → Q (some (.long (1 : Int64))) m)
    (h9 : ¬ x0 = -32 → ¬ x0 = -31 → ¬ x0 = -30 → ¬ x0 = -29 → ¬ x0 = -28 → x0 = -27 → 0 < (lg_cmp y1 y3) → Q (some (.long (0 : Int64))) m)
    (h10 : ¬ x0 = -32 → ¬ x0 = -31 → ¬ x0 = -30 → ¬ x0 = -29 → ¬ x0 = -28 → x0 = -27 → ¬ (0 < (lg_cmp y1 y3)) → Q (some (.long (1 : Int64))) m)
    (h11 : ¬ x0 = -32 → ¬ x0 = -31 → ¬ x0 = -30 → ¬ x0 = -29 → ¬ x0 = -28 → ¬ x0 = -27 → x0 = -26 → 0 ≤ (lg_cmp y1 y3) → Q (some (.long (0 : Int64))) m)
    (h12 : ¬ x0 = -32 → ¬ x0 = -31 → ¬ x0 = -30 → ¬ x0 = -29 → ¬ x0 = -28 → ¬ x0 = -27 → x0 = -26 → ¬ (0 ≤ (lg_cmp y1 y3)) → Q (some (.long (1 : Int64))) m)
    (h13 : ¬ x0 = -32 → ¬ x0 = -31 → ¬ x0 = -30 → ¬ x0 = -29 → ¬ x0 = -28 → ¬ x0 = -27 → ¬ x0 = -26 → x0 = -25 → ¬ (lg_cmp y3 (0 : Int64)) = 0 → ¬ y3 = 0)
    (h14 : ¬ x0 = -32 → ¬ x0 = -31 → ¬ x0 = -30 → ¬ x0 = -29 → ¬ x0 = -28 → ¬ x0 = -27 → ¬ x0 = -26 → x0 = -25 → ¬ (lg_cmp y3 (0 : Int64)) = 0 → Q (some (.long (y1 - y1 / y3 * y3))) m)
    (h15 : ¬ x0 = -32 → ¬ x0 = -31 → ¬ x0 = -30 → ¬ x0 = -29 → ¬ x0 = -28 → ¬ x0 = -27 → ¬ x0 = -26 → x0 = -25 → (lg_cmp y3 (0 : Int64)) = 0 → Q (some (.long (0 : Int64))) m)
    (h16 : ¬ x0 = -32 → ¬ x0 = -31 → ¬ x0 = -30 → ¬ x0 = -29 → ¬ x0 = -28 → ¬ x0 = -27 → ¬ x0 = -26 → ¬ x0 = -25 → x0 = -24 → ¬ (lg_cmp y3 (0 : Int64)) = 0 → ¬ y3 = 0)
    (h17 : ¬ x0 = -32 → ¬ x0 = -31 → ¬ x0 = -30 → ¬ x0 = -29 → ¬ x0 = -28 → ¬ x0 = -27 → ¬ x0 = -26 → ¬ x0 = -25 → x0 = -24 → ¬ (lg_cmp y3 (0 : Int64)) = 0 → Q (some (.long (y1 / y3))) m)
    (h18 : ¬ x0 = -32 → ¬ x0 = -31 → ¬ x0 = -30 → ¬ x0 = -29 → ¬ x0 = -28 → ¬ x0 = -27 → ¬ x0 = -26 → ¬ x0 = -25 → x0 = -24 → (lg_cmp y3 (0 : Int64)) = 0 → Q (some (.long (0 : Int64))) m)
    (h19 : ¬ x0 = -32 → ¬ x0 = -31 → ¬ x0 = -30 → ¬ x0 = -29 → ¬ x0 = -28 → ¬ x0 = -27 → ¬ x0 = -26 → ¬ x0 = -25 → ¬ x0 = -24 → x0 = -23 → Q (some (.long (y1 * y3))) m)
    (h20 : ¬ x0 = -32 → ¬ x0 = -31 → ¬ x0 = -30 → ¬ x0 = -29 → ¬ x0 = -28 → ¬ x0 = -27 → ¬ x0 = -26 → ¬ x0 = -25 → ¬ x0 = -24 → ¬ x0 = -23 → x0 = -22 → Q (some (.long (y1 - y3))) m)
    (h21 : ¬ x0 = -32 → ¬ x0 = -31 → ¬ x0 = -30 → ¬ x0 = -29 → ¬ x0 = -28 → ¬ x0 = -27 → ¬ x0 = -26 → ¬ x0 = -25 → ¬ x0 = -24 → ¬ x0 = -23 → ¬ x0 = -22 → x0 = -21 → Q (some (.long (y1 + y3))) m)
    (h22 : ¬ x0 = -32 → ¬ x0 = -31 → ¬ x0 = -30 → ¬ x0 = -29 → ¬ x0 = -28 → ¬ x0 = -27 → ¬ x0 = -26 → ¬ x0 = -25 → ¬ x0 = -24 → ¬ x0 = -23 → ¬ x0 = -22 → ¬ x0 = -21 → Q (some (.long (0 : Int64))) m) :
    Go X 0 mX6_ofTwo Q 0 [(0, .int x0), (1, .long y1), (3, .long y3)] [] m := by
  refine g_iload_n 0 dX6_ofTwo_0 rfl rfl ?_
  by_cases q1 : x0 = -32
  · refine g_tabIn 168 dX6_ofTwo_1 (by rw [q1]; decide) (by rw [q1]; decide) (by rw [q1]; rfl) (by decide) ?_
    refine g_lload_n 1 dX6_ofTwo_168 rfl rfl ?_
    refine g_lload_n 2 dX6_ofTwo_169 rfl rfl ?_
    refine g_lor dX6_ofTwo_170 ?_
    exact g_lret dX6_ofTwo_171 rfl enSH (h1 q1)
  by_cases q2 : x0 = -31
  · refine g_tabIn 164 dX6_ofTwo_1 (by rw [q2]; decide) (by rw [q2]; decide) (by rw [q2]; rfl) (by decide) ?_
    refine g_lload_n 1 dX6_ofTwo_164 rfl rfl ?_
    refine g_lload_n 2 dX6_ofTwo_165 rfl rfl ?_
    refine g_land dX6_ofTwo_166 ?_
    exact g_lret dX6_ofTwo_167 rfl enSH (h2 q1 q2)
  by_cases q3 : x0 = -30
  · refine g_tabIn 152 dX6_ofTwo_1 (by rw [q3]; decide) (by rw [q3]; decide) (by rw [q3]; rfl) (by decide) ?_
    refine g_lload_n 1 dX6_ofTwo_152 rfl rfl ?_
    refine g_lload_n 2 dX6_ofTwo_153 rfl rfl ?_
    refine g_lcmp dX6_ofTwo_154 ?_
    refine g_if_le 162 dX6_ofTwo_155 (by decide) (fun q4 => ?_) (fun q4 => ?_)
    · refine g_lconst (v := 0) dX6_ofTwo_162 (by decide) ?_
      exact g_lret dX6_ofTwo_163 rfl enSH (h3 q1 q2 q3 q4)
    · refine g_lconst (v := 1) dX6_ofTwo_158 (by decide) ?_
      refine g_goto 163 dX6_ofTwo_159 (by decide) ?_
      exact g_lret dX6_ofTwo_163 rfl enSH (h4 q1 q2 q3 q4)
  by_cases q5 : x0 = -29
  · refine g_tabIn 140 dX6_ofTwo_1 (by rw [q5]; decide) (by rw [q5]; decide) (by rw [q5]; rfl) (by decide) ?_
    refine g_lload_n 1 dX6_ofTwo_140 rfl rfl ?_
    refine g_lload_n 2 dX6_ofTwo_141 rfl rfl ?_
    refine g_lcmp dX6_ofTwo_142 ?_
    refine g_if_lt 150 dX6_ofTwo_143 (by decide) (fun q6 => ?_) (fun q6 => ?_)
    · refine g_lconst (v := 0) dX6_ofTwo_150 (by decide) ?_
      exact g_lret dX6_ofTwo_151 rfl enSH (h5 q1 q2 q3 q5 q6)
    · refine g_lconst (v := 1) dX6_ofTwo_146 (by decide) ?_
      refine g_goto 151 dX6_ofTwo_147 (by decide) ?_
      exact g_lret dX6_ofTwo_151 rfl enSH (h6 q1 q2 q3 q5 q6)
  by_cases q7 : x0 = -28
  · refine g_tabIn 128 dX6_ofTwo_1 (by rw [q7]; decide) (by rw [q7]; decide) (by rw [q7]; rfl) (by decide) ?_
    refine g_lload_n 1 dX6_ofTwo_128 rfl rfl ?_
    refine g_lload_n 2 dX6_ofTwo_129 rfl rfl ?_
    refine g_lcmp dX6_ofTwo_130 ?_
    refine g_if_ne 138 dX6_ofTwo_131 (by decide) (fun q8 => ?_) (fun q8 => ?_)
    · refine g_lconst (v := 0) dX6_ofTwo_138 (by decide) ?_
      exact g_lret dX6_ofTwo_139 rfl enSH (h7 q1 q2 q3 q5 q7 q8)
    · refine g_lconst (v := 1) dX6_ofTwo_134 (by decide) ?_
      refine g_goto 139 dX6_ofTwo_135 (by decide) ?_
      exact g_lret dX6_ofTwo_139 rfl enSH (h8 q1 q2 q3 q5 q7 q8)
  by_cases q9 : x0 = -27
  · refine g_tabIn 116 dX6_ofTwo_1 (by rw [q9]; decide) (by rw [q9]; decide) (by rw [q9]; rfl) (by decide) ?_
    refine g_lload_n 1 dX6_ofTwo_116 rfl rfl ?_
    refine g_lload_n 2 dX6_ofTwo_117 rfl rfl ?_
    refine g_lcmp dX6_ofTwo_118 ?_
    refine g_if_gt 126 dX6_ofTwo_119 (by decide) (fun q10 => ?_) (fun q10 => ?_)
    · refine g_lconst (v := 0) dX6_ofTwo_126 (by decide) ?_
      exact g_lret dX6_ofTwo_127 rfl enSH (h9 q1 q2 q3 q5 q7 q9 q10)
    · refine g_lconst (v := 1) dX6_ofTwo_122 (by decide) ?_
      refine g_goto 127 dX6_ofTwo_123 (by decide) ?_
      exact g_lret dX6_ofTwo_127 rfl enSH (h10 q1 q2 q3 q5 q7 q9 q10)
  by_cases q11 : x0 = -26
  · refine g_tabIn 104 dX6_ofTwo_1 (by rw [q11]; decide) (by rw [q11]; decide) (by rw [q11]; rfl) (by decide) ?_
    refine g_lload_n 1 dX6_ofTwo_104 rfl rfl ?_
    refine g_lload_n 2 dX6_ofTwo_105 rfl rfl ?_
    refine g_lcmp dX6_ofTwo_106 ?_
    refine g_if_ge 114 dX6_ofTwo_107 (by decide) (fun q12 => ?_) (fun q12 => ?_)
    · refine g_lconst (v := 0) dX6_ofTwo_114 (by decide) ?_
      exact g_lret dX6_ofTwo_115 rfl enSH (h11 q1 q2 q3 q5 q7 q9 q11 q12)
    · refine g_lconst (v := 1) dX6_ofTwo_110 (by decide) ?_
      refine g_goto 115 dX6_ofTwo_111 (by decide) ?_
      exact g_lret dX6_ofTwo_115 rfl enSH (h12 q1 q2 q3 q5 q7 q9 q11 q12)
  by_cases q13 : x0 = -25
  · refine g_tabIn 90 dX6_ofTwo_1 (by rw [q13]; decide) (by rw [q13]; decide) (by rw [q13]; rfl) (by decide) ?_
    refine g_lload_n 2 dX6_ofTwo_90 rfl rfl ?_
    refine g_lconst (v := 0) dX6_ofTwo_91 (by decide) ?_
    refine g_lcmp dX6_ofTwo_92 ?_
    refine g_if_ne 100 dX6_ofTwo_93 (by decide) (fun q14 => ?_) (fun q14 => ?_)
    · refine g_lload_n 1 dX6_ofTwo_100 rfl rfl ?_
      refine g_lload_n 2 dX6_ofTwo_101 rfl rfl ?_
      refine g_lrem dX6_ofTwo_102 (h13 q1 q2 q3 q5 q7 q9 q11 q13 q14) ?_
      exact g_lret dX6_ofTwo_103 rfl enSH (h14 q1 q2 q3 q5 q7 q9 q11 q13 q14)
    · refine g_lconst (v := 0) dX6_ofTwo_96 (by decide) ?_
      refine g_goto 103 dX6_ofTwo_97 (by decide) ?_
      exact g_lret dX6_ofTwo_103 rfl enSH (h15 q1 q2 q3 q5 q7 q9 q11 q13 q14)
  by_cases q15 : x0 = -24
  · refine g_tabIn 76 dX6_ofTwo_1 (by rw [q15]; decide) (by rw [q15]; decide) (by rw [q15]; rfl) (by decide) ?_
    refine g_lload_n 2 dX6_ofTwo_76 rfl rfl ?_
    refine g_lconst (v := 0) dX6_ofTwo_77 (by decide) ?_
    refine g_lcmp dX6_ofTwo_78 ?_
    refine g_if_ne 86 dX6_ofTwo_79 (by decide) (fun q16 => ?_) (fun q16 => ?_)
    · refine g_lload_n 1 dX6_ofTwo_86 rfl rfl ?_
      refine g_lload_n 2 dX6_ofTwo_87 rfl rfl ?_
      refine g_ldiv dX6_ofTwo_88 (h16 q1 q2 q3 q5 q7 q9 q11 q13 q15 q16) ?_
      exact g_lret dX6_ofTwo_89 rfl enSH (h17 q1 q2 q3 q5 q7 q9 q11 q13 q15 q16)
    · refine g_lconst (v := 0) dX6_ofTwo_82 (by decide) ?_
      refine g_goto 89 dX6_ofTwo_83 (by decide) ?_
      exact g_lret dX6_ofTwo_89 rfl enSH (h18 q1 q2 q3 q5 q7 q9 q11 q13 q15 q16)
  by_cases q17 : x0 = -23
  · refine g_tabIn 72 dX6_ofTwo_1 (by rw [q17]; decide) (by rw [q17]; decide) (by rw [q17]; rfl) (by decide) ?_
    refine g_lload_n 1 dX6_ofTwo_72 rfl rfl ?_
    refine g_lload_n 2 dX6_ofTwo_73 rfl rfl ?_
    refine g_lmul dX6_ofTwo_74 ?_
    exact g_lret dX6_ofTwo_75 rfl enSH (h19 q1 q2 q3 q5 q7 q9 q11 q13 q15 q17)
  by_cases q18 : x0 = -22
  · refine g_tabIn 68 dX6_ofTwo_1 (by rw [q18]; decide) (by rw [q18]; decide) (by rw [q18]; rfl) (by decide) ?_
    refine g_lload_n 1 dX6_ofTwo_68 rfl rfl ?_
    refine g_lload_n 2 dX6_ofTwo_69 rfl rfl ?_
    refine g_lsub dX6_ofTwo_70 ?_
    exact g_lret dX6_ofTwo_71 rfl enSH (h20 q1 q2 q3 q5 q7 q9 q11 q13 q15 q17 q18)
  by_cases q19 : x0 = -21
  · refine g_tabIn 64 dX6_ofTwo_1 (by rw [q19]; decide) (by rw [q19]; decide) (by rw [q19]; rfl) (by decide) ?_
    refine g_lload_n 1 dX6_ofTwo_64 rfl rfl ?_
    refine g_lload_n 2 dX6_ofTwo_65 rfl rfl ?_
    refine g_ladd dX6_ofTwo_66 ?_
    exact g_lret dX6_ofTwo_67 rfl enSH (h21 q1 q2 q3 q5 q7 q9 q11 q13 q15 q17 q18 q19)
  refine g_tabOut 172 dX6_ofTwo_1 (p_tabD (fun k hk1 hk2 => ?_)) (by decide) ?_
  · have hk : k = -32 ∨ k = -31 ∨ k = -30 ∨ k = -29 ∨ k = -28 ∨ k = -27 ∨ k = -26 ∨ k = -25 ∨ k = -24 ∨ k = -23 ∨ k = -22 ∨ k = -21 := by omega
    rcases hk with rfl | rfl | rfl | rfl | rfl | rfl | rfl | rfl | rfl | rfl | rfl | rfl
    · exact q1
    · exact q2
    · exact q3
    · exact q5
    · exact q7
    · exact q9
    · exact q11
    · exact q13
    · exact q15
    · exact q17
    · exact q18
    · exact q19
  refine g_lconst (v := 0) dX6_ofTwo_172 (by decide) ?_
  exact g_lret dX6_ofTwo_173 rfl enSH (h22 q1 q2 q3 q5 q7 q9 q11 q13 q15 q17 q18 q19)
theorem bX7_stepOf_0 {X : pX} {Q : Option Value → pMem → Prop} {m : pMem} {x0 : Int32} (hW : Wf m)
    (h1 : x0 = 37 → Q (some (.int (-25 : Int32))) m)
    (h2 : ¬ x0 = 37 → x0 = 42 → Q (some (.int (-23 : Int32))) m)
    (h3 : ¬ x0 = 37 → ¬ x0 = 42 → x0 = 43 → Q (some (.int (-21 : Int32))) m)
    (h4 : ¬ x0 = 37 → ¬ x0 = 42 → ¬ x0 = 43 → x0 = 45 → Q (some (.int (-22 : Int32))) m)
    (h5 : ¬ x0 = 37 → ¬ x0 = 42 → ¬ x0 = 43 → ¬ x0 = 45 → x0 = 47 → Q (some (.int (-24 : Int32))) m)
    (h6 : ¬ x0 = 37 → ¬ x0 = 42 → ¬ x0 = 43 → ¬ x0 = 45 → ¬ x0 = 47 → x0 = 38 → Q (some (.int (0 : Int32))) m)
    (h7 : ¬ x0 = 37 → ¬ x0 = 42 → ¬ x0 = 43 → ¬ x0 = 45 → ¬ x0 = 47 → ¬ x0 = 38 → x0 = 39 → Q (some (.int (0 : Int32))) m)
    (h8 : ¬ x0 = 37 → ¬ x0 = 42 → ¬ x0 = 43 → ¬ x0 = 45 → ¬ x0 = 47 → ¬ x0 = 38 → ¬ x0 = 39 → x0 = 40 → Q (some (.int (0 : Int32))) m)
    (h9 : ¬ x0 = 37 → ¬ x0 = 42 → ¬ x0 = 43 → ¬ x0 = 45 → ¬ x0 = 47 → ¬ x0 = 38 → ¬ x0 = 39 → ¬ x0 = 40 → x0 = 41 → Q (some (.int (0 : Int32))) m)
    (h10 : ¬ x0 = 37 → ¬ x0 = 42 → ¬ x0 = 43 → ¬ x0 = 45 → ¬ x0 = 47 → ¬ x0 = 38 → ¬ x0 = 39 → ¬ x0 = 40 → ¬ x0 = 41 → x0 = 44 → Q (some (.int (0 : Int32))) m)
    (h11 : ¬ x0 = 37 → ¬ x0 = 42 → ¬ x0 = 43 → ¬ x0 = 45 → ¬ x0 = 47 → ¬ x0 = 38 → ¬ x0 = 39 → ¬ x0 = 40 → ¬ x0 = 41 → ¬ x0 = 44 → x0 = 46 → Q (some (.int (0 : Int32))) m)
    (h12 : ¬ x0 = 37 → ¬ x0 = 42 → ¬ x0 = 43 → ¬ x0 = 45 → ¬ x0 = 47 → ¬ x0 = 38 → ¬ x0 = 39 → ¬ x0 = 40 → ¬ x0 = 41 → ¬ x0 = 44 → ¬ x0 = 46 → Q (some (.int (0 : Int32))) m) :
    Go X 0 mX7_stepOf Q 0 [(0, .int x0)] [] m := by
  refine g_iload_n 0 dX7_stepOf_0 rfl rfl ?_
  by_cases q1 : x0 = 37
  · refine g_tabIn 72 dX7_stepOf_1 (by rw [q1]; decide) (by rw [q1]; decide) (by rw [q1]; rfl) (by decide) ?_
    refine g_bipush (v := -25) dX7_stepOf_72 (by decide) ?_
    exact g_iret dX7_stepOf_74 rfl enSH (h1 q1)
  by_cases q2 : x0 = 42
  · refine g_tabIn 66 dX7_stepOf_1 (by rw [q2]; decide) (by rw [q2]; decide) (by rw [q2]; rfl) (by decide) ?_
    refine g_bipush (v := -23) dX7_stepOf_66 (by decide) ?_
    exact g_iret dX7_stepOf_68 rfl enSH (h2 q1 q2)
  by_cases q3 : x0 = 43
  · refine g_tabIn 60 dX7_stepOf_1 (by rw [q3]; decide) (by rw [q3]; decide) (by rw [q3]; rfl) (by decide) ?_
    refine g_bipush (v := -21) dX7_stepOf_60 (by decide) ?_
    exact g_iret dX7_stepOf_62 rfl enSH (h3 q1 q2 q3)
  by_cases q4 : x0 = 45
  · refine g_tabIn 63 dX7_stepOf_1 (by rw [q4]; decide) (by rw [q4]; decide) (by rw [q4]; rfl) (by decide) ?_
    refine g_bipush (v := -22) dX7_stepOf_63 (by decide) ?_
    exact g_iret dX7_stepOf_65 rfl enSH (h4 q1 q2 q3 q4)
  by_cases q5 : x0 = 47
  · refine g_tabIn 69 dX7_stepOf_1 (by rw [q5]; decide) (by rw [q5]; decide) (by rw [q5]; rfl) (by decide) ?_
    refine g_bipush (v := -24) dX7_stepOf_69 (by decide) ?_
    exact g_iret dX7_stepOf_71 rfl enSH (h5 q1 q2 q3 q4 q5)
  by_cases q6 : x0 = 38
  · refine g_tabIn 75 dX7_stepOf_1 (by rw [q6]; decide) (by rw [q6]; decide) (by rw [q6]; rfl) (by decide) ?_
    refine g_iconst (v := 0) dX7_stepOf_75 (by decide) ?_
    exact g_iret dX7_stepOf_76 rfl enSH (h6 q1 q2 q3 q4 q5 q6)
  by_cases q7 : x0 = 39
  · refine g_tabIn 75 dX7_stepOf_1 (by rw [q7]; decide) (by rw [q7]; decide) (by rw [q7]; rfl) (by decide) ?_
    refine g_iconst (v := 0) dX7_stepOf_75 (by decide) ?_
    exact g_iret dX7_stepOf_76 rfl enSH (h7 q1 q2 q3 q4 q5 q6 q7)
  by_cases q8 : x0 = 40
  · refine g_tabIn 75 dX7_stepOf_1 (by rw [q8]; decide) (by rw [q8]; decide) (by rw [q8]; rfl) (by decide) ?_
    refine g_iconst (v := 0) dX7_stepOf_75 (by decide) ?_
    exact g_iret dX7_stepOf_76 rfl enSH (h8 q1 q2 q3 q4 q5 q6 q7 q8)
  by_cases q9 : x0 = 41
  · refine g_tabIn 75 dX7_stepOf_1 (by rw [q9]; decide) (by rw [q9]; decide) (by rw [q9]; rfl) (by decide) ?_
    refine g_iconst (v := 0) dX7_stepOf_75 (by decide) ?_
    exact g_iret dX7_stepOf_76 rfl enSH (h9 q1 q2 q3 q4 q5 q6 q7 q8 q9)
  by_cases q10 : x0 = 44
  · refine g_tabIn 75 dX7_stepOf_1 (by rw [q10]; decide) (by rw [q10]; decide) (by rw [q10]; rfl) (by decide) ?_
    refine g_iconst (v := 0) dX7_stepOf_75 (by decide) ?_
    exact g_iret dX7_stepOf_76 rfl enSH (h10 q1 q2 q3 q4 q5 q6 q7 q8 q9 q10)
  by_cases q11 : x0 = 46
  · refine g_tabIn 75 dX7_stepOf_1 (by rw [q11]; decide) (by rw [q11]; decide) (by rw [q11]; rfl) (by decide) ?_
    refine g_iconst (v := 0) dX7_stepOf_75 (by decide) ?_
    exact g_iret dX7_stepOf_76 rfl enSH (h11 q1 q2 q3 q4 q5 q6 q7 q8 q9 q10 q11)
  refine g_tabOut 75 dX7_stepOf_1 (p_tabD (fun k hk1 hk2 => ?_)) (by decide) ?_
  · have hk : k = 37 ∨ k = 38 ∨ k = 39 ∨ k = 40 ∨ k = 41 ∨ k = 42 ∨ k = 43 ∨ k = 44 ∨ k = 45 ∨ k = 46 ∨ k = 47 := by omega
    rcases hk with rfl | rfl | rfl | rfl | rfl | rfl | rfl | rfl | rfl | rfl | rfl
    · exact q1
    · exact q6
    · exact q7
    · exact q8
    · exact q9
    · exact q2
    · exact q3
    · exact q10
    · exact q4
    · exact q11
    · exact q5
  refine g_iconst (v := 0) dX7_stepOf_75 (by decide) ?_
  exact g_iret dX7_stepOf_76 rfl enSH (h12 q1 q2 q3 q4 q5 q6 q7 q8 q9 q10 q11)
theorem bX8_thingsAt_0 {X : pX} {Q : Option Value → pMem → Prop} {m : pMem} {a0 : Nat} {x1 : Int32} (hW : Wf m) (c0 : SH[a0]? = some (.inl 8))
    (h1 : Go X 0 mX8_thingsAt Q 4 [(0, .ref a0), (1, .int x1), (2, .int (0 : Int32)), (3, .int (0 : Int32))] [] m) :
    Go X 0 mX8_thingsAt Q 0 [(0, .ref a0), (1, .int x1)] [] m := by
  refine g_iconst (v := 0) dX8_thingsAt_0 (by decide) ?_
  refine g_istore_n (ls2 := [(2, .int (0 : Int32)), (0, .ref a0), (1, .int x1)]) dX8_thingsAt_1 rfl (by decide) rfl ?_
  refine g_iconst (v := 0) dX8_thingsAt_2 (by decide) ?_
  refine g_istore_n (ls2 := [(3, .int (0 : Int32)), (2, .int (0 : Int32)), (0, .ref a0), (1, .int x1)]) dX8_thingsAt_3 rfl (by decide) rfl ?_
  exact g_ls [2, 3, 1, 0] rfl h1
theorem bX8_thingsAt_4 {X : pX} {Q : Option Value → pMem → Prop} {m : pMem} {a0 : Nat} {x1 : Int32} {x2 : Int32} {x3 : Int32} (hW : Wf m) (c0 : SH[a0]? = some (.inl 8))
    (h1 : (6 : Int32) ≤ x3 → Q (some (.int x2)) m)
    (h2 : ¬ ((6 : Int32) ≤ x3) → vp_in x3 6)
    (h3 : ¬ ((6 : Int32) ≤ x3) → ¬ (mI m (a0 + 3) x3.toNatClampNeg) = x1 → Go X 0 mX8_thingsAt Q 4 [(0, .ref a0), (1, .int x1), (2, .int x2), (3, .int (x3 + (1 : Int32)))] [] m)
    (h4 : ¬ ((6 : Int32) ≤ x3) → (mI m (a0 + 3) x3.toNatClampNeg) = x1 → Go X 0 mX8_thingsAt Q 4 [(0, .ref a0), (1, .int x1), (2, .int (x2 ||| ((1 : Int32) <<< (x3 &&& 31)))), (3, .int (x3 + (1 : Int32)))] [] m) :
    Go X 0 mX8_thingsAt Q 4 [(0, .ref a0), (1, .int x1), (2, .int x2), (3, .int x3)] [] m := by
  refine g_iload_n 3 dX8_thingsAt_4 rfl rfl ?_
  refine g_bipush (v := 6) dX8_thingsAt_5 (by decide) ?_
  refine g_icmp_ge 32 dX8_thingsAt_7 (by decide) (fun q1 => ?_) (fun q1 => ?_)
  · refine g_iload_n 2 dX8_thingsAt_32 rfl rfl ?_
    exact g_iret dX8_thingsAt_33 rfl enSH (h1 q1)
  · refine g_aload_n 0 dX8_thingsAt_10 rfl rfl ?_
    refine g_getR dX8_thingsAt_11 fl8_18 rfl c0 (w8_3 hW c0) ?_
    refine g_iload_n 3 dX8_thingsAt_14 rfl rfl ?_
    refine g_iald (j := x3.toNatClampNeg) dX8_thingsAt_15 (s8_3 c0) (h2 q1) rfl ?_
    refine g_iload_n 1 dX8_thingsAt_16 rfl rfl ?_
    refine g_icmp_ne 26 dX8_thingsAt_17 (by decide) (fun q2 => ?_) (fun q2 => ?_)
    · refine g_iinc (v := x3 + (1 : Int32)) (ls2 := [(3, .int (x3 + (1 : Int32))), (0, .ref a0), (1, .int x1), (2, .int x2)]) 3 dX8_thingsAt_26 rfl rfl (by decide) rfl ?_
      refine g_goto 4 dX8_thingsAt_29 (by decide) ?_
      exact g_ls [1, 2, 3, 0] rfl (h3 q1 q2)
    · refine g_iload_n 2 dX8_thingsAt_20 rfl rfl ?_
      refine g_iconst (v := 1) dX8_thingsAt_21 (by decide) ?_
      refine g_iload_n 3 dX8_thingsAt_22 rfl rfl ?_
      refine g_ishl dX8_thingsAt_23 ?_
      refine g_ior dX8_thingsAt_24 ?_
      refine g_istore_n (ls2 := [(2, .int (x2 ||| ((1 : Int32) <<< (x3 &&& 31)))), (0, .ref a0), (1, .int x1), (3, .int x3)]) dX8_thingsAt_25 rfl (by decide) rfl ?_
      refine g_iinc (v := x3 + (1 : Int32)) (ls2 := [(3, .int (x3 + (1 : Int32))), (2, .int (x2 ||| ((1 : Int32) <<< (x3 &&& 31)))), (0, .ref a0), (1, .int x1)]) 3 dX8_thingsAt_26 rfl rfl (by decide) rfl ?_
      refine g_goto 4 dX8_thingsAt_29 (by decide) ?_
      exact g_ls [2, 3, 1, 0] rfl (h4 q1 q2)
theorem bX9_hasRoom_0 {X : pX} {Q : Option Value → pMem → Prop} {m : pMem} {x1 : Int32} (hW : Wf m)
    (h1 : (400 : Int32) < ((mI m 1 1) + x1) → Q (some (.int (0 : Int32))) m)
    (h2 : ¬ ((400 : Int32) < ((mI m 1 1) + x1)) → Q (some (.int (1 : Int32))) m) :
    Go X 0 mX9_hasRoom Q 0 [(0, .ref 1), (1, .int x1)] [] m := by
  refine g_aload_n 0 dX9_hasRoom_0 rfl rfl ?_
  refine g_getI dX9_hasRoom_1 fl9_15 sh1 ?_
  refine g_iload_n 1 dX9_hasRoom_4 rfl rfl ?_
  refine g_iadd dX9_hasRoom_5 ?_
  refine g_sipush (v := 400) dX9_hasRoom_6 (by decide) ?_
  refine g_icmp_gt 16 dX9_hasRoom_9 (by decide) (fun q1 => ?_) (fun q1 => ?_)
  · refine g_iconst (v := 0) dX9_hasRoom_16 (by decide) ?_
    exact g_bret dX9_hasRoom_17 rfl (Or.inl rfl) enSH (h1 q1)
  · refine g_iconst (v := 1) dX9_hasRoom_12 (by decide) ?_
    refine g_goto 17 dX9_hasRoom_13 (by decide) ?_
    exact g_bret dX9_hasRoom_17 rfl (Or.inr rfl) enSH (h2 q1)
theorem bX9_add_0 {X : pX} {Q : Option Value → pMem → Prop} {m : pMem} {x1 : Int32} (hW : Wf m)
    (h1 : Go X 0 mX9_add Q 3 [(0, .ref 1), (1, .int x1), (2, .int (24 : Int32))] [] m) :
    Go X 0 mX9_add Q 0 [(0, .ref 1), (1, .int x1)] [] m := by
  refine g_bipush (v := 24) dX9_add_0 (by decide) ?_
  refine g_istore_n (ls2 := [(2, .int (24 : Int32)), (0, .ref 1), (1, .int x1)]) dX9_add_2 rfl (by decide) rfl ?_
  exact g_ls [1, 2, 0] rfl h1
theorem bX9_add_3 {X : pX} {Q : Option Value → pMem → Prop} {m : pMem} {x1 : Int32} {x2 : Int32} (hW : Wf m)
    (h1 : x2 < 0 → Q none m)
    (h2 : ¬ (x2 < 0) → (400 : Int32) ≤ (mI m 1 1) → Go X 0 mX9_add Q 3 [(0, .ref 1), (1, .int x1), (2, .int (x2 + (-8 : Int32)))] [] m)
    (h3 : ¬ (x2 < 0) → ¬ ((400 : Int32) ≤ (mI m 1 1)) → vp_in (mI m 1 1) 400)
    (h4 : ¬ (x2 < 0) → ¬ ((400 : Int32) ≤ (mI m 1 1)) → Go X 0 mX9_add Q 3 [(0, .ref 1), (1, .int x1), (2, .int (x2 + (-8 : Int32)))] [] (uI (uI m 2 ((mI m 1 1).toNatClampNeg) ((x1 >>> (x2 &&& 31)) &&& (255 : Int32))) 1 1 ((mI m 1 1) + (1 : Int32)))) :
    Go X 0 mX9_add Q 3 [(0, .ref 1), (1, .int x1), (2, .int x2)] [] m := by
  refine g_iload_n 2 dX9_add_3 rfl rfl ?_
  refine g_if_lt 49 dX9_add_4 (by decide) (fun q1 => ?_) (fun q1 => ?_)
  · exact g_vret dX9_add_49 rfl enSH (h1 q1)
  · refine g_aload_n 0 dX9_add_7 rfl rfl ?_
    refine g_getI dX9_add_8 fl9_15 sh1 ?_
    refine g_sipush (v := 400) dX9_add_11 (by decide) ?_
    refine g_icmp_ge 43 dX9_add_14 (by decide) (fun q2 => ?_) (fun q2 => ?_)
    · refine g_iinc (v := x2 + (-8 : Int32)) (ls2 := [(2, .int (x2 + (-8 : Int32))), (0, .ref 1), (1, .int x1)]) 2 dX9_add_43 rfl rfl (by decide) rfl ?_
      refine g_goto 3 dX9_add_46 (by decide) ?_
      exact g_ls [1, 2, 0] rfl (h2 q1 q2)
    · refine g_aload_n 0 dX9_add_17 rfl rfl ?_
      refine g_getR dX9_add_18 fl9_11 rfl sh1 (w9_0 hW sh1) ?_
      refine g_aload_n 0 dX9_add_21 rfl rfl ?_
      refine g_getI dX9_add_22 fl9_15 sh1 ?_
      refine g_iload_n 1 dX9_add_25 rfl rfl ?_
      refine g_iload_n 2 dX9_add_26 rfl rfl ?_
      refine g_ishr dX9_add_27 ?_
      refine g_sipush (v := 255) dX9_add_28 (by decide) ?_
      refine g_iand dX9_add_31 ?_
      refine g_iast (j := (mI m 1 1).toNatClampNeg) dX9_add_32 (s9_0 sh1) (h3 q1 q2) rfl ?_
      refine g_aload_n 0 dX9_add_33 rfl rfl ?_
      refine g_dup dX9_add_34 rfl ?_
      refine g_getI dX9_add_35 fl9_15 sh1 ?_
      refine g_iconst (v := 1) dX9_add_38 (by decide) ?_
      refine g_iadd dX9_add_39 ?_
      refine g_putI dX9_add_40 fl9_15 (fun h => by cases h) sh1 ?_
      refine g_iinc (v := x2 + (-8 : Int32)) (ls2 := [(2, .int (x2 + (-8 : Int32))), (0, .ref 1), (1, .int x1)]) 2 dX9_add_43 rfl rfl (by decide) rfl ?_
      refine g_goto 3 dX9_add_46 (by decide) ?_
      exact g_ls [1, 2, 0] rfl (h4 q1 q2)
theorem bX9_rewind_0 {X : pX} {Q : Option Value → pMem → Prop} {m : pMem} (hW : Wf m)
    (h1 : Q none (uI (uI m 1 2 (0 : Int32)) 1 3 (0 : Int32))) :
    Go X 0 mX9_rewind Q 0 [(0, .ref 1)] [] m := by
  refine g_aload_n 0 dX9_rewind_0 rfl rfl ?_
  refine g_iconst (v := 0) dX9_rewind_1 (by decide) ?_
  refine g_putI dX9_rewind_2 fl9_19 (fun h => by cases h) sh1 ?_
  refine g_aload_n 0 dX9_rewind_5 rfl rfl ?_
  refine g_iconst (v := 0) dX9_rewind_6 (by decide) ?_
  refine g_putI dX9_rewind_7 fl9_22 (fun h => by cases h) sh1 ?_
  exact g_vret dX9_rewind_10 rfl enSH h1
theorem bX9_fail_0 {X : pX} {Q : Option Value → pMem → Prop} {m : pMem} {x1 : Int32} {x2 : Int32} (hW : Wf m)
    (h1 : ¬ (mI m 1 3) = 0 → Q (some (.int (0 : Int32))) m)
    (h2 : (mI m 1 3) = 0 → Q (some (.int (0 : Int32))) (uI m 1 3 (((1 : Int32) + ((8 : Int32) * x1)) + x2))) :
    Go X 0 mX9_fail Q 0 [(0, .ref 1), (1, .int x1), (2, .int x2)] [] m := by
  refine g_aload_n 0 dX9_fail_0 rfl rfl ?_
  refine g_getI dX9_fail_1 fl9_22 sh1 ?_
  refine g_if_ne 19 dX9_fail_4 (by decide) (fun q1 => ?_) (fun q1 => ?_)
  · refine g_iconst (v := 0) dX9_fail_19 (by decide) ?_
    exact g_bret dX9_fail_20 rfl (Or.inl rfl) enSH (h1 q1)
  · refine g_aload_n 0 dX9_fail_7 rfl rfl ?_
    refine g_iconst (v := 1) dX9_fail_8 (by decide) ?_
    refine g_bipush (v := 8) dX9_fail_9 (by decide) ?_
    refine g_iload_n 1 dX9_fail_11 rfl rfl ?_
    refine g_imul dX9_fail_12 ?_
    refine g_iadd dX9_fail_13 ?_
    refine g_iload_n 2 dX9_fail_14 rfl rfl ?_
    refine g_iadd dX9_fail_15 ?_
    refine g_putI dX9_fail_16 fl9_22 (fun h => by cases h) sh1 ?_
    refine g_iconst (v := 0) dX9_fail_19 (by decide) ?_
    exact g_bret dX9_fail_20 rfl (Or.inl rfl) enSH (h2 q1)
theorem bX9_byteAt_0 {X : pX} {Q : Option Value → pMem → Prop} {m : pMem} {x1 : Int32} (hW : Wf m)
    (h1 : x1 < 0 → Q (some (.int (-1 : Int32))) m)
    (h2 : ¬ (x1 < 0) → (mI m 1 1) ≤ x1 → Q (some (.int (-1 : Int32))) m)
    (h3 : ¬ (x1 < 0) → ¬ ((mI m 1 1) ≤ x1) → vp_in x1 400)
    (h4 : ¬ (x1 < 0) → ¬ ((mI m 1 1) ≤ x1) → Q (some (.int (mI m 2 x1.toNatClampNeg))) m) :
    Go X 0 mX9_byteAt Q 0 [(0, .ref 1), (1, .int x1)] [] m := by
  refine g_iload_n 1 dX9_byteAt_0 rfl rfl ?_
  refine g_if_lt 21 dX9_byteAt_1 (by decide) (fun q1 => ?_) (fun q1 => ?_)
  · refine g_iconst (v := -1) dX9_byteAt_21 (by decide) ?_
    exact g_iret dX9_byteAt_22 rfl enSH (h1 q1)
  · refine g_iload_n 1 dX9_byteAt_4 rfl rfl ?_
    refine g_aload_n 0 dX9_byteAt_5 rfl rfl ?_
    refine g_getI dX9_byteAt_6 fl9_15 sh1 ?_
    refine g_icmp_ge 21 dX9_byteAt_9 (by decide) (fun q2 => ?_) (fun q2 => ?_)
    · refine g_iconst (v := -1) dX9_byteAt_21 (by decide) ?_
      exact g_iret dX9_byteAt_22 rfl enSH (h2 q1 q2)
    · refine g_aload_n 0 dX9_byteAt_12 rfl rfl ?_
      refine g_getR dX9_byteAt_13 fl9_11 rfl sh1 (w9_0 hW sh1) ?_
      refine g_iload_n 1 dX9_byteAt_16 rfl rfl ?_
      refine g_iald (j := x1.toNatClampNeg) dX9_byteAt_17 (s9_0 sh1) (h3 q1 q2) rfl ?_
      refine g_goto 22 dX9_byteAt_18 (by decide) ?_
      exact g_iret dX9_byteAt_22 rfl enSH (h4 q1 q2)
theorem bX9_isDigit_0 {X : pX} {Q : Option Value → pMem → Prop} {m : pMem} {x0 : Int32} (hW : Wf m)
    (h1 : x0 < (48 : Int32) → Q (some (.int (0 : Int32))) m)
    (h2 : ¬ (x0 < (48 : Int32)) → (57 : Int32) < x0 → Q (some (.int (0 : Int32))) m)
    (h3 : ¬ (x0 < (48 : Int32)) → ¬ ((57 : Int32) < x0) → Q (some (.int (1 : Int32))) m) :
    Go X 0 mX9_isDigit Q 0 [(0, .int x0)] [] m := by
  refine g_iload_n 0 dX9_isDigit_0 rfl rfl ?_
  refine g_bipush (v := 48) dX9_isDigit_1 (by decide) ?_
  refine g_icmp_lt 16 dX9_isDigit_3 (by decide) (fun q1 => ?_) (fun q1 => ?_)
  · refine g_iconst (v := 0) dX9_isDigit_16 (by decide) ?_
    exact g_bret dX9_isDigit_17 rfl (Or.inl rfl) enSH (h1 q1)
  · refine g_iload_n 0 dX9_isDigit_6 rfl rfl ?_
    refine g_bipush (v := 57) dX9_isDigit_7 (by decide) ?_
    refine g_icmp_gt 16 dX9_isDigit_9 (by decide) (fun q2 => ?_) (fun q2 => ?_)
    · refine g_iconst (v := 0) dX9_isDigit_16 (by decide) ?_
      exact g_bret dX9_isDigit_17 rfl (Or.inl rfl) enSH (h2 q1 q2)
    · refine g_iconst (v := 1) dX9_isDigit_12 (by decide) ?_
      refine g_goto 17 dX9_isDigit_13 (by decide) ?_
      exact g_bret dX9_isDigit_17 rfl (Or.inr rfl) enSH (h3 q1 q2)
theorem bX9_isLetter_0 {X : pX} {Q : Option Value → pMem → Prop} {m : pMem} {x0 : Int32} (hW : Wf m)
    (h1 : x0 < (97 : Int32) → Q (some (.int (0 : Int32))) m)
    (h2 : ¬ (x0 < (97 : Int32)) → (122 : Int32) < x0 → Q (some (.int (0 : Int32))) m)
    (h3 : ¬ (x0 < (97 : Int32)) → ¬ ((122 : Int32) < x0) → Q (some (.int (1 : Int32))) m) :
    Go X 0 mX9_isLetter Q 0 [(0, .int x0)] [] m := by
  refine g_iload_n 0 dX9_isLetter_0 rfl rfl ?_
  refine g_bipush (v := 97) dX9_isLetter_1 (by decide) ?_
  refine g_icmp_lt 16 dX9_isLetter_3 (by decide) (fun q1 => ?_) (fun q1 => ?_)
  · refine g_iconst (v := 0) dX9_isLetter_16 (by decide) ?_
    exact g_bret dX9_isLetter_17 rfl (Or.inl rfl) enSH (h1 q1)
  · refine g_iload_n 0 dX9_isLetter_6 rfl rfl ?_
    refine g_bipush (v := 122) dX9_isLetter_7 (by decide) ?_
    refine g_icmp_gt 16 dX9_isLetter_9 (by decide) (fun q2 => ?_) (fun q2 => ?_)
    · refine g_iconst (v := 0) dX9_isLetter_16 (by decide) ?_
      exact g_bret dX9_isLetter_17 rfl (Or.inl rfl) enSH (h2 q1 q2)
    · refine g_iconst (v := 1) dX9_isLetter_12 (by decide) ?_
      refine g_goto 17 dX9_isLetter_13 (by decide) ?_
      exact g_bret dX9_isLetter_17 rfl (Or.inr rfl) enSH (h3 q1 q2)
theorem bX10_canNote_0 {X : pX} {Q : Option Value → pMem → Prop} {m : pMem} {a0 : Nat} (hW : Wf m) (c0 : SH[a0]? = some (.inl 10))
    (h1 : (10 : Int32) ≤ (mI m a0 5) → Q (some (.int (0 : Int32))) m)
    (h2 : ¬ ((10 : Int32) ≤ (mI m a0 5)) → Q (some (.int (1 : Int32))) m) :
    Go X 0 mX10_canNote Q 0 [(0, .ref a0)] [] m := by
  refine g_aload_n 0 dX10_canNote_0 rfl rfl ?_
  refine g_getI dX10_canNote_1 fl10_58 c0 ?_
  refine g_bipush (v := 10) dX10_canNote_4 (by decide) ?_
  refine g_icmp_ge 13 dX10_canNote_6 (by decide) (fun q1 => ?_) (fun q1 => ?_)
  · refine g_iconst (v := 0) dX10_canNote_13 (by decide) ?_
    exact g_bret dX10_canNote_14 rfl (Or.inl rfl) enSH (h1 q1)
  · refine g_iconst (v := 1) dX10_canNote_9 (by decide) ?_
    refine g_goto 14 dX10_canNote_10 (by decide) ?_
    exact g_bret dX10_canNote_14 rfl (Or.inr rfl) enSH (h2 q1)
theorem bX11_end_0 {X : pX} {Q : Option Value → pMem → Prop} {m : pMem} {x1 : Int32} (hW : Wf m)
    (h1 : x1 < 0 → Q (some (.int (-1 : Int32))) m)
    (h2 : ¬ (x1 < 0) → x1 ≤ (mI m 1 1) → Q (some (.int x1)) (uI m 1 1 x1))
    (h3 : ¬ (x1 < 0) → ¬ (x1 ≤ (mI m 1 1)) → Q (some (.int (-1 : Int32))) m) :
    Go X 0 mX11_end Q 0 [(0, .ref 0), (1, .int x1)] [] m := by
  refine g_iload_n 1 dX11_end_0 rfl rfl ?_
  refine g_if_lt 15 dX11_end_1 (by decide) (fun q1 => ?_) (fun q1 => ?_)
  · refine g_iconst (v := -1) dX11_end_15 (by decide) ?_
    exact g_iret dX11_end_16 rfl enSH (h1 q1)
  · refine g_iload_n 1 dX11_end_4 rfl rfl ?_
    refine g_aload_n 0 dX11_end_5 rfl rfl ?_
    refine g_getR dX11_end_6 fl11_10 rfl sh0 (w11_0 hW sh0) ?_
    refine g_getI dX11_end_9 fl11_106 sh1 ?_
    refine g_icmp_le 17 dX11_end_12 (by decide) (fun q2 => ?_) (fun q2 => ?_)
    · refine g_aload_n 0 dX11_end_17 rfl rfl ?_
      refine g_getR dX11_end_18 fl11_10 rfl sh0 (w11_0 hW sh0) ?_
      refine g_iload_n 1 dX11_end_21 rfl rfl ?_
      refine g_putI dX11_end_22 fl11_106 (fun h => by cases h) sh1 ?_
      refine g_iload_n 1 dX11_end_25 rfl rfl ?_
      exact g_iret dX11_end_26 rfl enSH (h2 q1 q2)
    · refine g_iconst (v := -1) dX11_end_15 (by decide) ?_
      exact g_iret dX11_end_16 rfl enSH (h3 q1 q2)
theorem bX11_force_0 {X : pX} {Q : Option Value → pMem → Prop} {m : pMem} {x1 : Int32} (hW : Wf m)
    (h1 : x1 < (-1 : Int32) → Q (some (.int (-2 : Int32))) m)
    (h2 : ¬ (x1 < (-1 : Int32)) → x1 < (mI m 0 4) → Q (some (.int (mI m 30 3))) (uI m 30 3 x1))
    (h3 : ¬ (x1 < (-1 : Int32)) → ¬ (x1 < (mI m 0 4)) → Q (some (.int (-2 : Int32))) m) :
    Go X 0 mX11_force Q 0 [(0, .ref 0), (1, .int x1)] [] m := by
  refine g_iload_n 1 dX11_force_0 rfl rfl ?_
  refine g_iconst (v := -1) dX11_force_1 (by decide) ?_
  refine g_icmp_lt 13 dX11_force_2 (by decide) (fun q1 => ?_) (fun q1 => ?_)
  · refine g_bipush (v := -2) dX11_force_13 (by decide) ?_
    exact g_iret dX11_force_15 rfl enSH (h1 q1)
  · refine g_iload_n 1 dX11_force_5 rfl rfl ?_
    refine g_aload_n 0 dX11_force_6 rfl rfl ?_
    refine g_getI dX11_force_7 fl11_126 sh0 ?_
    refine g_icmp_lt 16 dX11_force_10 (by decide) (fun q2 => ?_) (fun q2 => ?_)
    · refine g_aload_n 0 dX11_force_16 rfl rfl ?_
      refine g_getR dX11_force_17 fl11_42 rfl sh0 (w11_5 hW sh0) ?_
      refine g_getI dX11_force_20 fl11_132 sh30 ?_
      refine g_istore_n (ls2 := [(2, .int (mI m 30 3)), (0, .ref 0), (1, .int x1)]) dX11_force_23 rfl (by decide) rfl ?_
      refine g_aload_n 1 dX11_force_24 rfl rfl ?_
      refine g_getR dX11_force_25 fl11_42 rfl sh0 (w11_5 hW sh0) ?_
      refine g_iload_n 2 dX11_force_28 rfl rfl ?_
      refine g_putI dX11_force_29 fl11_132 (fun h => by cases h) sh30 ?_
      refine g_iload_n 0 dX11_force_32 rfl rfl ?_
      exact g_iret dX11_force_33 rfl enSH (h2 q1 q2)
    · refine g_bipush (v := -2) dX11_force_13 (by decide) ?_
      exact g_iret dX11_force_15 rfl enSH (h3 q1 q2)
theorem bX11_seed_0 {X : pX} {Q : Option Value → pMem → Prop} {m : pMem} {x1 : Int32} (hW : Wf m)
    (h1 : 0 ≤ x1 → Q (some (.int (mI m 30 4))) (uI m 30 4 x1))
    (h2 : ¬ (0 ≤ x1) → Q (some (.int (-1 : Int32))) m) :
    Go X 0 mX11_seed Q 0 [(0, .ref 0), (1, .int x1)] [] m := by
  refine g_iload_n 1 dX11_seed_0 rfl rfl ?_
  refine g_if_ge 6 dX11_seed_1 (by decide) (fun q1 => ?_) (fun q1 => ?_)
  · refine g_aload_n 0 dX11_seed_6 rfl rfl ?_
    refine g_getR dX11_seed_7 fl11_42 rfl sh0 (w11_5 hW sh0) ?_
    refine g_getI dX11_seed_10 fl11_214 sh30 ?_
    refine g_istore_n (ls2 := [(2, .int (mI m 30 4)), (0, .ref 0), (1, .int x1)]) dX11_seed_13 rfl (by decide) rfl ?_
    refine g_aload_n 1 dX11_seed_14 rfl rfl ?_
    refine g_getR dX11_seed_15 fl11_42 rfl sh0 (w11_5 hW sh0) ?_
    refine g_iload_n 2 dX11_seed_18 rfl rfl ?_
    refine g_putI dX11_seed_19 fl11_214 (fun h => by cases h) sh30 ?_
    refine g_iload_n 0 dX11_seed_22 rfl rfl ?_
    exact g_iret dX11_seed_23 rfl enSH (h1 q1)
  · refine g_iconst (v := -1) dX11_seed_4 (by decide) ?_
    exact g_iret dX11_seed_5 rfl enSH (h2 q1)
theorem bX11_drawnFrom_0 {X : pX} {Q : Option Value → pMem → Prop} {m : pMem} {x0 : Int32} (hW : Wf m)
    (h1 : Q (some (.int ((((x0.toInt64 * (1103515245 : Int64)) + (12345 : Int64)) - ((x0.toInt64 * (1103515245 : Int64)) + (12345 : Int64)) / (2147483648 : Int64) * (2147483648 : Int64)).toInt32))) m) :
    Go X 0 mX11_drawnFrom Q 0 [(0, .int x0)] [] m := by
  refine g_iload_n 0 dX11_drawnFrom_0 rfl rfl ?_
  refine g_i2l dX11_drawnFrom_1 ?_
  refine g_ldc2 (v := 1103515245) dX11_drawnFrom_2 cjX11_348 ?_
  refine g_lmul dX11_drawnFrom_5 ?_
  refine g_ldc2 (v := 12345) dX11_drawnFrom_6 cjX11_350 ?_
  refine g_ladd dX11_drawnFrom_9 ?_
  refine g_ldc2 (v := 2147483648) dX11_drawnFrom_10 cjX11_352 ?_
  refine g_lrem dX11_drawnFrom_13 (by decide) ?_
  refine g_l2i dX11_drawnFrom_14 ?_
  exact g_iret dX11_drawnFrom_15 rfl enSH h1
theorem bX11_ruleOf_0 {X : pX} {Q : Option Value → pMem → Prop} {m : pMem} {x1 : Int32} (hW : Wf m)
    (h1 : x1 < 0 → Q (some (.null)) m)
    (h2 : ¬ (x1 < 0) → (mI m 0 4) ≤ x1 → Q (some (.null)) m)
    (h3 : ¬ (x1 < 0) → ¬ ((mI m 0 4) ≤ x1) → (6 : Int32) ≤ x1 → Q (some (.null)) m)
    (h4 : ¬ (x1 < 0) → ¬ ((mI m 0 4) ≤ x1) → ¬ ((6 : Int32) ≤ x1) → vp_in x1 6)
    (h5 : ¬ (x1 < 0) → ¬ ((mI m 0 4) ≤ x1) → ¬ ((6 : Int32) ≤ x1) → Q (some (.ref (12 + 3 * x1.toNatClampNeg))) m) :
    Go X 0 mX11_ruleOf Q 0 [(0, .ref 0), (1, .int x1)] [] m := by
  refine g_iload_n 1 dX11_ruleOf_0 rfl rfl ?_
  refine g_if_lt 27 dX11_ruleOf_1 (by decide) (fun q1 => ?_) (fun q1 => ?_)
  · refine g_null dX11_ruleOf_27 ?_
    exact g_aret dX11_ruleOf_28 rfl (Or.inl ⟨_, rfl⟩) (Or.inl rfl) enSH (h1 q1)
  · refine g_iload_n 1 dX11_ruleOf_4 rfl rfl ?_
    refine g_aload_n 0 dX11_ruleOf_5 rfl rfl ?_
    refine g_getI dX11_ruleOf_6 fl11_126 sh0 ?_
    refine g_icmp_ge 27 dX11_ruleOf_9 (by decide) (fun q2 => ?_) (fun q2 => ?_)
    · refine g_null dX11_ruleOf_27 ?_
      exact g_aret dX11_ruleOf_28 rfl (Or.inl ⟨_, rfl⟩) (Or.inl rfl) enSH (h2 q1 q2)
    · refine g_iload_n 1 dX11_ruleOf_12 rfl rfl ?_
      refine g_bipush (v := 6) dX11_ruleOf_13 (by decide) ?_
      refine g_icmp_ge 27 dX11_ruleOf_15 (by decide) (fun q3 => ?_) (fun q3 => ?_)
      · refine g_null dX11_ruleOf_27 ?_
        exact g_aret dX11_ruleOf_28 rfl (Or.inl ⟨_, rfl⟩) (Or.inl rfl) enSH (h3 q1 q2 q3)
      · refine g_aload_n 0 dX11_ruleOf_18 rfl rfl ?_
        refine g_getR dX11_ruleOf_19 fl11_34 rfl sh0 (w11_3 hW sh0) ?_
        refine g_iload_n 1 dX11_ruleOf_22 rfl rfl ?_
        refine g_aald dX11_ruleOf_23 sh11 (by decide) (h4 q1 q2 q3) rfl (wRules hW (inN (h4 q1 q2 q3))) ?_
        refine g_goto 28 dX11_ruleOf_24 (by decide) ?_
        exact g_aret dX11_ruleOf_28 rfl (Or.inl ⟨_, rfl⟩) (Or.inr (Or.inl ⟨_, rfl⟩)) enSH (h5 q1 q2 q3)
theorem bX12_in_0 {X : pX} {Q : Option Value → pMem → Prop} {m : pMem} {y0 : Int64} {y2 : Int64} {y4 : Int64} (hW : Wf m)
    (h1 : (lg_cmp y0 y2) < 0 → Q (some (.int (0 : Int32))) m)
    (h2 : ¬ ((lg_cmp y0 y2) < 0) → 0 < (lg_cmp y0 y4) → Q (some (.int (0 : Int32))) m)
    (h3 : ¬ ((lg_cmp y0 y2) < 0) → ¬ (0 < (lg_cmp y0 y4)) → Q (some (.int (1 : Int32))) m) :
    Go X 0 mX12_in Q 0 [(0, .long y0), (2, .long y2), (4, .long y4)] [] m := by
  refine g_lload_n 0 dX12_in_0 rfl rfl ?_
  refine g_lload_n 1 dX12_in_1 rfl rfl ?_
  refine g_lcmp dX12_in_2 ?_
  refine g_if_lt 17 dX12_in_3 (by decide) (fun q1 => ?_) (fun q1 => ?_)
  · refine g_iconst (v := 0) dX12_in_17 (by decide) ?_
    exact g_bret dX12_in_18 rfl (Or.inl rfl) enSH (h1 q1)
  · refine g_lload_n 0 dX12_in_6 rfl rfl ?_
    refine g_lload 2 dX12_in_7 rfl ?_
    refine g_lcmp dX12_in_9 ?_
    refine g_if_gt 17 dX12_in_10 (by decide) (fun q2 => ?_) (fun q2 => ?_)
    · refine g_iconst (v := 0) dX12_in_17 (by decide) ?_
      exact g_bret dX12_in_18 rfl (Or.inl rfl) enSH (h2 q1 q2)
    · refine g_iconst (v := 1) dX12_in_13 (by decide) ?_
      refine g_goto 18 dX12_in_14 (by decide) ?_
      exact g_bret dX12_in_18 rfl (Or.inr rfl) enSH (h3 q1 q2)
theorem bX12_bits_0 {X : pX} {Q : Option Value → pMem → Prop} {m : pMem} {x0 : Int32} (hW : Wf m)
    (h1 : Go X 0 mX12_bits Q 4 [(0, .int x0), (1, .int (0 : Int32)), (2, .int (0 : Int32))] [] m) :
    Go X 0 mX12_bits Q 0 [(0, .int x0)] [] m := by
  refine g_iconst (v := 0) dX12_bits_0 (by decide) ?_
  refine g_istore_n (ls2 := [(1, .int (0 : Int32)), (0, .int x0)]) dX12_bits_1 rfl (by decide) rfl ?_
  refine g_iconst (v := 0) dX12_bits_2 (by decide) ?_
  refine g_istore_n (ls2 := [(2, .int (0 : Int32)), (1, .int (0 : Int32)), (0, .int x0)]) dX12_bits_3 rfl (by decide) rfl ?_
  exact g_ls [2, 1, 0] rfl h1
theorem bX12_bits_4 {X : pX} {Q : Option Value → pMem → Prop} {m : pMem} {x0 : Int32} {x1 : Int32} {x2 : Int32} (hW : Wf m)
    (h1 : (16 : Int32) ≤ x2 → Q (some (.int x1)) m)
    (h2 : ¬ ((16 : Int32) ≤ x2) → Go X 0 mX12_bits Q 4 [(0, .int x0), (1, .int (x1 + ((x0 >>> (x2 &&& 31)) &&& (1 : Int32)))), (2, .int (x2 + (1 : Int32)))] [] m) :
    Go X 0 mX12_bits Q 4 [(0, .int x0), (1, .int x1), (2, .int x2)] [] m := by
  refine g_iload_n 2 dX12_bits_4 rfl rfl ?_
  refine g_bipush (v := 16) dX12_bits_5 (by decide) ?_
  refine g_icmp_ge 24 dX12_bits_7 (by decide) (fun q1 => ?_) (fun q1 => ?_)
  · refine g_iload_n 1 dX12_bits_24 rfl rfl ?_
    exact g_iret dX12_bits_25 rfl enSH (h1 q1)
  · refine g_iload_n 1 dX12_bits_10 rfl rfl ?_
    refine g_iload_n 0 dX12_bits_11 rfl rfl ?_
    refine g_iload_n 2 dX12_bits_12 rfl rfl ?_
    refine g_ishr dX12_bits_13 ?_
    refine g_iconst (v := 1) dX12_bits_14 (by decide) ?_
    refine g_iand dX12_bits_15 ?_
    refine g_iadd dX12_bits_16 ?_
    refine g_istore_n (ls2 := [(1, .int (x1 + ((x0 >>> (x2 &&& 31)) &&& (1 : Int32)))), (0, .int x0), (2, .int x2)]) dX12_bits_17 rfl (by decide) rfl ?_
    refine g_iinc (v := x2 + (1 : Int32)) (ls2 := [(2, .int (x2 + (1 : Int32))), (1, .int (x1 + ((x0 >>> (x2 &&& 31)) &&& (1 : Int32)))), (0, .int x0)]) 2 dX12_bits_18 rfl rfl (by decide) rfl ?_
    refine g_goto 4 dX12_bits_21 (by decide) ?_
    exact g_ls [2, 1, 0] rfl (h2 q1)
theorem bX12_has_0 {X : pX} {Q : Option Value → pMem → Prop} {m : pMem} {x0 : Int32} {x1 : Int32} (hW : Wf m)
    (h1 : ¬ ((x0 >>> (x1 &&& 31)) &&& (1 : Int32)) = (1 : Int32) → Q (some (.int (0 : Int32))) m)
    (h2 : ((x0 >>> (x1 &&& 31)) &&& (1 : Int32)) = (1 : Int32) → Q (some (.int (1 : Int32))) m) :
    Go X 0 mX12_has Q 0 [(0, .int x0), (1, .int x1)] [] m := by
  refine g_iload_n 0 dX12_has_0 rfl rfl ?_
  refine g_iload_n 1 dX12_has_1 rfl rfl ?_
  refine g_ishr dX12_has_2 ?_
  refine g_iconst (v := 1) dX12_has_3 (by decide) ?_
  refine g_iand dX12_has_4 ?_
  refine g_iconst (v := 1) dX12_has_5 (by decide) ?_
  refine g_icmp_ne 13 dX12_has_6 (by decide) (fun q1 => ?_) (fun q1 => ?_)
  · refine g_iconst (v := 0) dX12_has_13 (by decide) ?_
    exact g_bret dX12_has_14 rfl (Or.inl rfl) enSH (h1 q1)
  · refine g_iconst (v := 1) dX12_has_9 (by decide) ?_
    refine g_goto 14 dX12_has_10 (by decide) ?_
    exact g_bret dX12_has_14 rfl (Or.inr rfl) enSH (h2 q1)
theorem bX12_isRoad_0 {X : pX} {Q : Option Value → pMem → Prop} {m : pMem} (hW : Wf m)
    (h1 : ¬ (mI m 536 0) = (1 : Int32) → Q (some (.int (0 : Int32))) m)
    (h2 : (mI m 536 0) = (1 : Int32) → Q (some (.int (1 : Int32))) m) :
    Go X 0 mX12_isRoad Q 0 [(0, .ref 535)] [] m := by
  refine g_aload_n 0 dX12_isRoad_0 rfl rfl ?_
  refine g_getR dX12_isRoad_1 fl12_9 rfl sh535 (w12_1 hW sh535) ?_
  refine g_iconst (v := 0) dX12_isRoad_4 (by decide) ?_
  refine g_iald (j := 0) dX12_isRoad_5 (s12_1 sh535) (by unfold vp_in; decide) (by decide) ?_
  refine g_iconst (v := 1) dX12_isRoad_6 (by decide) ?_
  refine g_icmp_ne 14 dX12_isRoad_7 (by decide) (fun q1 => ?_) (fun q1 => ?_)
  · refine g_iconst (v := 0) dX12_isRoad_14 (by decide) ?_
    exact g_bret dX12_isRoad_15 rfl (Or.inl rfl) enSH (h1 q1)
  · refine g_iconst (v := 1) dX12_isRoad_10 (by decide) ?_
    refine g_goto 15 dX12_isRoad_11 (by decide) ?_
    exact g_bret dX12_isRoad_15 rfl (Or.inr rfl) enSH (h2 q1)
theorem bX12_town_0 {X : pX} {Q : Option Value → pMem → Prop} {m : pMem} (hW : Wf m)
    (h1 : Q (some (.int (mI m 536 2))) m) :
    Go X 0 mX12_town Q 0 [(0, .ref 535)] [] m := by
  refine g_aload_n 0 dX12_town_0 rfl rfl ?_
  refine g_getR dX12_town_1 fl12_9 rfl sh535 (w12_1 hW sh535) ?_
  refine g_iconst (v := 2) dX12_town_4 (by decide) ?_
  refine g_iald (j := 2) dX12_town_5 (s12_1 sh535) (by unfold vp_in; decide) (by decide) ?_
  exact g_iret dX12_town_6 rfl enSH h1
theorem bX12_put_0 {X : pX} {Q : Option Value → pMem → Prop} {m : pMem} {x1 : Int32} (hW : Wf m)
    (h1 : Go X 0 mX12_put Q 3 [(0, .ref 535), (1, .int x1), (2, .int (24 : Int32))] [] m) :
    Go X 0 mX12_put Q 0 [(0, .ref 535), (1, .int x1)] [] m := by
  refine g_bipush (v := 24) dX12_put_0 (by decide) ?_
  refine g_istore_n (ls2 := [(2, .int (24 : Int32)), (0, .ref 535), (1, .int x1)]) dX12_put_2 rfl (by decide) rfl ?_
  exact g_ls [1, 2, 0] rfl h1
theorem bX12_put_3 {X : pX} {Q : Option Value → pMem → Prop} {m : pMem} {x1 : Int32} {x2 : Int32} (hW : Wf m)
    (h1 : x2 < 0 → Q none m)
    (h2 : ¬ (x2 < 0) → vp_in (mI m 535 19) 400)
    (h3 : ¬ (x2 < 0) → Go X 0 mX12_put Q 3 [(0, .ref 535), (1, .int x1), (2, .int (x2 + (-8 : Int32)))] [] (uI (uI m 554 ((mI m 535 19).toNatClampNeg) (((x1 >>> (x2 &&& 31)).toInt8.toInt32).toInt8.toInt32)) 535 19 ((mI m 535 19) + (1 : Int32)))) :
    Go X 0 mX12_put Q 3 [(0, .ref 535), (1, .int x1), (2, .int x2)] [] m := by
  refine g_iload_n 2 dX12_put_3 rfl rfl ?_
  refine g_if_lt 36 dX12_put_4 (by decide) (fun q1 => ?_) (fun q1 => ?_)
  · exact g_vret dX12_put_36 rfl enSH (h1 q1)
  · refine g_aload_n 0 dX12_put_7 rfl rfl ?_
    refine g_getR dX12_put_8 fl12_68 rfl sh535 (w12_29 hW sh535) ?_
    refine g_aload_n 0 dX12_put_11 rfl rfl ?_
    refine g_getI dX12_put_12 fl12_132 sh535 ?_
    refine g_iload_n 1 dX12_put_15 rfl rfl ?_
    refine g_iload_n 2 dX12_put_16 rfl rfl ?_
    refine g_ishr dX12_put_17 ?_
    refine g_i2b dX12_put_18 ?_
    refine g_bast (j := (mI m 535 19).toNatClampNeg) dX12_put_19 (s12_29 sh535) (h2 q1) rfl ?_
    refine g_aload_n 0 dX12_put_20 rfl rfl ?_
    refine g_dup dX12_put_21 rfl ?_
    refine g_getI dX12_put_22 fl12_132 sh535 ?_
    refine g_iconst (v := 1) dX12_put_25 (by decide) ?_
    refine g_iadd dX12_put_26 ?_
    refine g_putI dX12_put_27 fl12_132 (fun h => by cases h) sh535 ?_
    refine g_iinc (v := x2 + (-8 : Int32)) (ls2 := [(2, .int (x2 + (-8 : Int32))), (0, .ref 535), (1, .int x1)]) 2 dX12_put_30 rfl rfl (by decide) rfl ?_
    refine g_goto 3 dX12_put_33 (by decide) ?_
    exact g_ls [1, 2, 0] rfl (h3 q1)
theorem bX12_end_0 {X : pX} {Q : Option Value → pMem → Prop} {m : pMem} {x1 : Int32} (hW : Wf m)
    (h1 : x1 < 0 → Q (some (.int (-1 : Int32))) m)
    (h2 : ¬ (x1 < 0) → x1 ≤ (mI m 535 19) → Q (some (.int x1)) (uI m 535 19 x1))
    (h3 : ¬ (x1 < 0) → ¬ (x1 ≤ (mI m 535 19)) → Q (some (.int (-1 : Int32))) m) :
    Go X 0 mX12_end Q 0 [(0, .ref 535), (1, .int x1)] [] m := by
  refine g_iload_n 1 dX12_end_0 rfl rfl ?_
  refine g_if_lt 12 dX12_end_1 (by decide) (fun q1 => ?_) (fun q1 => ?_)
  · refine g_iconst (v := -1) dX12_end_12 (by decide) ?_
    exact g_iret dX12_end_13 rfl enSH (h1 q1)
  · refine g_iload_n 1 dX12_end_4 rfl rfl ?_
    refine g_aload_n 0 dX12_end_5 rfl rfl ?_
    refine g_getI dX12_end_6 fl12_132 sh535 ?_
    refine g_icmp_le 14 dX12_end_9 (by decide) (fun q2 => ?_) (fun q2 => ?_)
    · refine g_aload_n 0 dX12_end_14 rfl rfl ?_
      refine g_iload_n 1 dX12_end_15 rfl rfl ?_
      refine g_putI dX12_end_16 fl12_132 (fun h => by cases h) sh535 ?_
      refine g_iload_n 1 dX12_end_19 rfl rfl ?_
      exact g_iret dX12_end_20 rfl enSH (h2 q1 q2)
    · refine g_iconst (v := -1) dX12_end_12 (by decide) ?_
      exact g_iret dX12_end_13 rfl enSH (h3 q1 q2)
theorem bX12_wordOf_0 {X : pX} {Q : Option Value → pMem → Prop} {m : pMem} {x0 : Int32} (hW : Wf m)
    (h1 : x0 = 0 → Q (some (.retAddr 8)) m)
    (h2 : ¬ x0 = 0 → x0 = 1 → Q (some (.retAddr 9)) m)
    (h3 : ¬ x0 = 0 → ¬ x0 = 1 → x0 = 2 → Q (some (.retAddr 10)) m)
    (h4 : ¬ x0 = 0 → ¬ x0 = 1 → ¬ x0 = 2 → x0 = 3 → Q (some (.retAddr 11)) m)
    (h5 : ¬ x0 = 0 → ¬ x0 = 1 → ¬ x0 = 2 → ¬ x0 = 3 → x0 = 4 → Q (some (.retAddr 12)) m)
    (h6 : ¬ x0 = 0 → ¬ x0 = 1 → ¬ x0 = 2 → ¬ x0 = 3 → ¬ x0 = 4 → x0 = 5 → Q (some (.retAddr 13)) m)
    (h7 : ¬ x0 = 0 → ¬ x0 = 1 → ¬ x0 = 2 → ¬ x0 = 3 → ¬ x0 = 4 → ¬ x0 = 5 → x0 = 6 → Q (some (.retAddr 14)) m)
    (h8 : ¬ x0 = 0 → ¬ x0 = 1 → ¬ x0 = 2 → ¬ x0 = 3 → ¬ x0 = 4 → ¬ x0 = 5 → ¬ x0 = 6 → x0 = 7 → Q (some (.retAddr 15)) m)
    (h9 : ¬ x0 = 0 → ¬ x0 = 1 → ¬ x0 = 2 → ¬ x0 = 3 → ¬ x0 = 4 → ¬ x0 = 5 → ¬ x0 = 6 → ¬ x0 = 7 → x0 = 8 → Q (some (.retAddr 16)) m)
    (h10 : ¬ x0 = 0 → ¬ x0 = 1 → ¬ x0 = 2 → ¬ x0 = 3 → ¬ x0 = 4 → ¬ x0 = 5 → ¬ x0 = 6 → ¬ x0 = 7 → ¬ x0 = 8 → x0 = 9 → Q (some (.retAddr 17)) m)
    (h11 : ¬ x0 = 0 → ¬ x0 = 1 → ¬ x0 = 2 → ¬ x0 = 3 → ¬ x0 = 4 → ¬ x0 = 5 → ¬ x0 = 6 → ¬ x0 = 7 → ¬ x0 = 8 → ¬ x0 = 9 → x0 = 10 → Q (some (.retAddr 18)) m)
    (h12 : ¬ x0 = 0 → ¬ x0 = 1 → ¬ x0 = 2 → ¬ x0 = 3 → ¬ x0 = 4 → ¬ x0 = 5 → ¬ x0 = 6 → ¬ x0 = 7 → ¬ x0 = 8 → ¬ x0 = 9 → ¬ x0 = 10 → Q (some (.retAddr 19)) m) :
    Go X 0 mX12_wordOf Q 0 [(0, .int x0)] [] m := by
  refine g_iload_n 0 dX12_wordOf_0 rfl rfl ?_
  by_cases q1 : x0 = 0
  · refine g_tabIn 60 dX12_wordOf_1 (by rw [q1]; decide) (by rw [q1]; decide) (by rw [q1]; rfl) (by decide) ?_
    refine g_ldcS 7 (by decide) rfl rfl dX12_wordOf_60 ?_
    exact g_aret dX12_wordOf_62 rfl (Or.inl ⟨_, rfl⟩) (Or.inr (Or.inr ⟨_, rfl⟩)) enSH (h1 q1)
  by_cases q2 : x0 = 1
  · refine g_tabIn 63 dX12_wordOf_1 (by rw [q2]; decide) (by rw [q2]; decide) (by rw [q2]; rfl) (by decide) ?_
    refine g_ldcS 8 (by decide) rfl rfl dX12_wordOf_63 ?_
    exact g_aret dX12_wordOf_65 rfl (Or.inl ⟨_, rfl⟩) (Or.inr (Or.inr ⟨_, rfl⟩)) enSH (h2 q1 q2)
  by_cases q3 : x0 = 2
  · refine g_tabIn 66 dX12_wordOf_1 (by rw [q3]; decide) (by rw [q3]; decide) (by rw [q3]; rfl) (by decide) ?_
    refine g_ldcS 9 (by decide) rfl rfl dX12_wordOf_66 ?_
    exact g_aret dX12_wordOf_68 rfl (Or.inl ⟨_, rfl⟩) (Or.inr (Or.inr ⟨_, rfl⟩)) enSH (h3 q1 q2 q3)
  by_cases q4 : x0 = 3
  · refine g_tabIn 69 dX12_wordOf_1 (by rw [q4]; decide) (by rw [q4]; decide) (by rw [q4]; rfl) (by decide) ?_
    refine g_ldcS 10 (by decide) rfl rfl dX12_wordOf_69 ?_
    exact g_aret dX12_wordOf_71 rfl (Or.inl ⟨_, rfl⟩) (Or.inr (Or.inr ⟨_, rfl⟩)) enSH (h4 q1 q2 q3 q4)
  by_cases q5 : x0 = 4
  · refine g_tabIn 72 dX12_wordOf_1 (by rw [q5]; decide) (by rw [q5]; decide) (by rw [q5]; rfl) (by decide) ?_
    refine g_ldcS 11 (by decide) rfl rfl dX12_wordOf_72 ?_
    exact g_aret dX12_wordOf_74 rfl (Or.inl ⟨_, rfl⟩) (Or.inr (Or.inr ⟨_, rfl⟩)) enSH (h5 q1 q2 q3 q4 q5)
  by_cases q6 : x0 = 5
  · refine g_tabIn 75 dX12_wordOf_1 (by rw [q6]; decide) (by rw [q6]; decide) (by rw [q6]; rfl) (by decide) ?_
    refine g_ldcS 12 (by decide) rfl rfl dX12_wordOf_75 ?_
    exact g_aret dX12_wordOf_77 rfl (Or.inl ⟨_, rfl⟩) (Or.inr (Or.inr ⟨_, rfl⟩)) enSH (h6 q1 q2 q3 q4 q5 q6)
  by_cases q7 : x0 = 6
  · refine g_tabIn 78 dX12_wordOf_1 (by rw [q7]; decide) (by rw [q7]; decide) (by rw [q7]; rfl) (by decide) ?_
    refine g_ldcS 13 (by decide) rfl rfl dX12_wordOf_78 ?_
    exact g_aret dX12_wordOf_80 rfl (Or.inl ⟨_, rfl⟩) (Or.inr (Or.inr ⟨_, rfl⟩)) enSH (h7 q1 q2 q3 q4 q5 q6 q7)
  by_cases q8 : x0 = 7
  · refine g_tabIn 81 dX12_wordOf_1 (by rw [q8]; decide) (by rw [q8]; decide) (by rw [q8]; rfl) (by decide) ?_
    refine g_ldcS 14 (by decide) rfl rfl dX12_wordOf_81 ?_
    exact g_aret dX12_wordOf_83 rfl (Or.inl ⟨_, rfl⟩) (Or.inr (Or.inr ⟨_, rfl⟩)) enSH (h8 q1 q2 q3 q4 q5 q6 q7 q8)
  by_cases q9 : x0 = 8
  · refine g_tabIn 84 dX12_wordOf_1 (by rw [q9]; decide) (by rw [q9]; decide) (by rw [q9]; rfl) (by decide) ?_
    refine g_ldcS 15 (by decide) rfl rfl dX12_wordOf_84 ?_
    exact g_aret dX12_wordOf_86 rfl (Or.inl ⟨_, rfl⟩) (Or.inr (Or.inr ⟨_, rfl⟩)) enSH (h9 q1 q2 q3 q4 q5 q6 q7 q8 q9)
  by_cases q10 : x0 = 9
  · refine g_tabIn 87 dX12_wordOf_1 (by rw [q10]; decide) (by rw [q10]; decide) (by rw [q10]; rfl) (by decide) ?_
    refine g_ldcS 16 (by decide) rfl rfl dX12_wordOf_87 ?_
    exact g_aret dX12_wordOf_89 rfl (Or.inl ⟨_, rfl⟩) (Or.inr (Or.inr ⟨_, rfl⟩)) enSH (h10 q1 q2 q3 q4 q5 q6 q7 q8 q9 q10)
  by_cases q11 : x0 = 10
  · refine g_tabIn 90 dX12_wordOf_1 (by rw [q11]; decide) (by rw [q11]; decide) (by rw [q11]; rfl) (by decide) ?_
    refine g_ldcS 17 (by decide) rfl rfl dX12_wordOf_90 ?_
    exact g_aret dX12_wordOf_92 rfl (Or.inl ⟨_, rfl⟩) (Or.inr (Or.inr ⟨_, rfl⟩)) enSH (h11 q1 q2 q3 q4 q5 q6 q7 q8 q9 q10 q11)
  refine g_tabOut 93 dX12_wordOf_1 (p_tabD (fun k hk1 hk2 => ?_)) (by decide) ?_
  · have hk : k = 0 ∨ k = 1 ∨ k = 2 ∨ k = 3 ∨ k = 4 ∨ k = 5 ∨ k = 6 ∨ k = 7 ∨ k = 8 ∨ k = 9 ∨ k = 10 := by omega
    rcases hk with rfl | rfl | rfl | rfl | rfl | rfl | rfl | rfl | rfl | rfl | rfl
    · exact q1
    · exact q2
    · exact q3
    · exact q4
    · exact q5
    · exact q6
    · exact q7
    · exact q8
    · exact q9
    · exact q10
    · exact q11
  refine g_ldcS 18 (by decide) rfl rfl dX12_wordOf_93 ?_
  exact g_aret dX12_wordOf_95 rfl (Or.inl ⟨_, rfl⟩) (Or.inr (Or.inr ⟨_, rfl⟩)) enSH (h12 q1 q2 q3 q4 q5 q6 q7 q8 q9 q10 q11)
theorem bX12_fails_0 {X : pX} {Q : Option Value → pMem → Prop} {m : pMem} {x1 : Int32} {x2 : Int32} (hW : Wf m)
    (h1 : ¬ (mI m 535 21) = 0 → Q none (uI m 535 21 (mI m 535 21)))
    (h2 : (mI m 535 21) = 0 → Q none (uI m 535 21 (((1 : Int32) + ((8 : Int32) * x2)) + x1))) :
    Go X 0 mX12_fails Q 0 [(0, .ref 535), (1, .int x1), (2, .int x2)] [] m := by
  refine g_aload_n 0 dX12_fails_0 rfl rfl ?_
  refine g_aload_n 0 dX12_fails_1 rfl rfl ?_
  refine g_getI dX12_fails_2 fl12_160 sh535 ?_
  refine g_if_ne 19 dX12_fails_5 (by decide) (fun q1 => ?_) (fun q1 => ?_)
  · refine g_aload_n 0 dX12_fails_19 rfl rfl ?_
    refine g_getI dX12_fails_20 fl12_160 sh535 ?_
    refine g_putI dX12_fails_23 fl12_160 (fun h => by cases h) sh535 ?_
    exact g_vret dX12_fails_26 rfl enSH (h1 q1)
  · refine g_iconst (v := 1) dX12_fails_8 (by decide) ?_
    refine g_bipush (v := 8) dX12_fails_9 (by decide) ?_
    refine g_iload_n 2 dX12_fails_11 rfl rfl ?_
    refine g_imul dX12_fails_12 ?_
    refine g_iadd dX12_fails_13 ?_
    refine g_iload_n 1 dX12_fails_14 rfl rfl ?_
    refine g_iadd dX12_fails_15 ?_
    refine g_goto 23 dX12_fails_16 (by decide) ?_
    refine g_putI dX12_fails_23 fl12_160 (fun h => by cases h) sh535 ?_
    exact g_vret dX12_fails_26 rfl enSH (h2 q1)
theorem bX12_sign_0 {X : pX} {Q : Option Value → pMem → Prop} {m : pMem} (hW : Wf m)
    (h1 : (mI m 535 19) ≤ (mI m 535 20) → Q (some (.int (-1 : Int32))) m)
    (h2 : ¬ ((mI m 535 19) ≤ (mI m 535 20)) → vp_in (mI m 535 20) 400)
    (h3 : ¬ ((mI m 535 19) ≤ (mI m 535 20)) → Q (some (.int ((mI m 554 ((mI m 535 20).toNatClampNeg)) &&& (255 : Int32)))) m) :
    Go X 0 mX12_sign Q 0 [(0, .ref 535)] [] m := by
  refine g_aload_n 0 dX12_sign_0 rfl rfl ?_
  refine g_getI dX12_sign_1 fl12_163 sh535 ?_
  refine g_aload_n 0 dX12_sign_4 rfl rfl ?_
  refine g_getI dX12_sign_5 fl12_132 sh535 ?_
  refine g_icmp_ge 27 dX12_sign_8 (by decide) (fun q1 => ?_) (fun q1 => ?_)
  · refine g_iconst (v := -1) dX12_sign_27 (by decide) ?_
    exact g_iret dX12_sign_28 rfl enSH (h1 q1)
  · refine g_aload_n 0 dX12_sign_11 rfl rfl ?_
    refine g_getR dX12_sign_12 fl12_68 rfl sh535 (w12_29 hW sh535) ?_
    refine g_aload_n 0 dX12_sign_15 rfl rfl ?_
    refine g_getI dX12_sign_16 fl12_163 sh535 ?_
    refine g_bald (j := (mI m 535 20).toNatClampNeg) dX12_sign_19 (s12_29 sh535) (h2 q1) rfl ?_
    refine g_sipush (v := 255) dX12_sign_20 (by decide) ?_
    refine g_iand dX12_sign_23 ?_
    refine g_goto 28 dX12_sign_24 (by decide) ?_
    exact g_iret dX12_sign_28 rfl enSH (h3 q1)
theorem bX12_entry_0 {X : pX} {Q : Option Value → pMem → Prop} {m : pMem} {x1 : Int32} {x2 : Int32} (hW : Wf m)
    (h1 : ¬ (mI m 535 21) = 0 → Q none m)
    (h2 : (mI m 535 21) = 0 → vp_in (((300 : Int32) * (mI m 535 22)) + (mI m 535 24)) 1800)
    (h3 : (mI m 535 21) = 0 → Q none (uI (uI (uI m 555 ((((300 : Int32) * (mI m 535 22)) + (mI m 535 24)).toNatClampNeg) x1) 556 ((((300 : Int32) * (mI m 535 22)) + (mI m 535 24)).toNatClampNeg) x2) 535 24 ((mI m 535 24) + (1 : Int32)))) :
    Go X 0 mX12_entry Q 0 [(0, .ref 535), (1, .int x1), (2, .int x2)] [] m := by
  refine g_aload_n 0 dX12_entry_0 rfl rfl ?_
  refine g_getI dX12_entry_1 fl12_160 sh535 ?_
  refine g_if_ne 55 dX12_entry_4 (by decide) (fun q1 => ?_) (fun q1 => ?_)
  · exact g_vret dX12_entry_55 rfl enSH (h1 q1)
  · refine g_aload_n 0 dX12_entry_7 rfl rfl ?_
    refine g_getR dX12_entry_8 fl12_72 rfl sh535 (w12_30 hW sh535) ?_
    refine g_sipush (v := 300) dX12_entry_11 (by decide) ?_
    refine g_aload_n 0 dX12_entry_14 rfl rfl ?_
    refine g_getI dX12_entry_15 fl12_190 sh535 ?_
    refine g_imul dX12_entry_18 ?_
    refine g_aload_n 0 dX12_entry_19 rfl rfl ?_
    refine g_getI dX12_entry_20 fl12_193 sh535 ?_
    refine g_iadd dX12_entry_23 ?_
    refine g_iload_n 1 dX12_entry_24 rfl rfl ?_
    refine g_iast (j := (((300 : Int32) * (mI m 535 22)) + (mI m 535 24)).toNatClampNeg) dX12_entry_25 (s12_30 sh535) (h2 q1) rfl ?_
    refine g_aload_n 0 dX12_entry_26 rfl rfl ?_
    refine g_getR dX12_entry_27 fl12_75 rfl sh535 (w12_31 hW sh535) ?_
    refine g_sipush (v := 300) dX12_entry_30 (by decide) ?_
    refine g_aload_n 0 dX12_entry_33 rfl rfl ?_
    refine g_getI dX12_entry_34 fl12_190 sh535 ?_
    refine g_imul dX12_entry_37 ?_
    refine g_aload_n 0 dX12_entry_38 rfl rfl ?_
    refine g_getI dX12_entry_39 fl12_193 sh535 ?_
    refine g_iadd dX12_entry_42 ?_
    refine g_iload_n 2 dX12_entry_43 rfl rfl ?_
    refine g_iast (j := (((300 : Int32) * (mI m 535 22)) + (mI m 535 24)).toNatClampNeg) dX12_entry_44 (s12_31 sh535) (h2 q1) rfl ?_
    refine g_aload_n 0 dX12_entry_45 rfl rfl ?_
    refine g_dup dX12_entry_46 rfl ?_
    refine g_getI dX12_entry_47 fl12_193 sh535 ?_
    refine g_iconst (v := 1) dX12_entry_50 (by decide) ?_
    refine g_iadd dX12_entry_51 ?_
    refine g_putI dX12_entry_52 fl12_193 (fun h => by cases h) sh535 ?_
    exact g_vret dX12_entry_55 rfl enSH (h3 q1)
theorem bX12_top_0 {X : pX} {Q : Option Value → pMem → Prop} {m : pMem} (hW : Wf m)
    (h1 : ¬ (mI m 535 27) = 0 → vp_in ((mI m 535 27) - (1 : Int32)) 402)
    (h2 : ¬ (mI m 535 27) = 0 → Q (some (.int (mI m 561 (((mI m 535 27) - (1 : Int32)).toNatClampNeg)))) m)
    (h3 : (mI m 535 27) = 0 → Q (some (.int (-1 : Int32))) m) :
    Go X 0 mX12_top Q 0 [(0, .ref 535)] [] m := by
  refine g_aload_n 0 dX12_top_0 rfl rfl ?_
  refine g_getI dX12_top_1 fl12_231 sh535 ?_
  refine g_if_ne 11 dX12_top_4 (by decide) (fun q1 => ?_) (fun q1 => ?_)
  · refine g_aload_n 0 dX12_top_11 rfl rfl ?_
    refine g_getR dX12_top_12 fl12_90 rfl sh535 (w12_36 hW sh535) ?_
    refine g_aload_n 0 dX12_top_15 rfl rfl ?_
    refine g_getI dX12_top_16 fl12_231 sh535 ?_
    refine g_iconst (v := 1) dX12_top_19 (by decide) ?_
    refine g_isub dX12_top_20 ?_
    refine g_iald (j := ((mI m 535 27) - (1 : Int32)).toNatClampNeg) dX12_top_21 (s12_36 sh535) (h1 q1) rfl ?_
    exact g_iret dX12_top_22 rfl enSH (h2 q1)
  · refine g_iconst (v := -1) dX12_top_7 (by decide) ?_
    refine g_goto 22 dX12_top_8 (by decide) ?_
    exact g_iret dX12_top_22 rfl enSH (h3 q1)
theorem bX12_roadWord_0 {X : pX} {Q : Option Value → pMem → Prop} {m : pMem} {x0 : Int32} (hW : Wf m)
    (h1 : x0 = 0 → Q (some (.retAddr 18)) m)
    (h2 : ¬ x0 = 0 → x0 = 1 → Q (some (.retAddr 23)) m)
    (h3 : ¬ x0 = 0 → ¬ x0 = 1 → x0 = 2 → Q (some (.retAddr 8)) m)
    (h4 : ¬ x0 = 0 → ¬ x0 = 1 → ¬ x0 = 2 → x0 = 3 → Q (some (.retAddr 9)) m)
    (h5 : ¬ x0 = 0 → ¬ x0 = 1 → ¬ x0 = 2 → ¬ x0 = 3 → Q (some (.retAddr 12)) m) :
    Go X 0 mX12_roadWord Q 0 [(0, .int x0)] [] m := by
  refine g_iload_n 0 dX12_roadWord_0 rfl rfl ?_
  by_cases q1 : x0 = 0
  · refine g_tabIn 32 dX12_roadWord_1 (by rw [q1]; decide) (by rw [q1]; decide) (by rw [q1]; rfl) (by decide) ?_
    refine g_ldcS 17 (by decide) rfl rfl dX12_roadWord_32 ?_
    exact g_aret dX12_roadWord_34 rfl (Or.inl ⟨_, rfl⟩) (Or.inr (Or.inr ⟨_, rfl⟩)) enSH (h1 q1)
  by_cases q2 : x0 = 1
  · refine g_tabIn 35 dX12_roadWord_1 (by rw [q2]; decide) (by rw [q2]; decide) (by rw [q2]; rfl) (by decide) ?_
    refine g_ldcwS 22 (by decide) rfl rfl dX12_roadWord_35 ?_
    exact g_aret dX12_roadWord_38 rfl (Or.inl ⟨_, rfl⟩) (Or.inr (Or.inr ⟨_, rfl⟩)) enSH (h2 q1 q2)
  by_cases q3 : x0 = 2
  · refine g_tabIn 39 dX12_roadWord_1 (by rw [q3]; decide) (by rw [q3]; decide) (by rw [q3]; rfl) (by decide) ?_
    refine g_ldcS 7 (by decide) rfl rfl dX12_roadWord_39 ?_
    exact g_aret dX12_roadWord_41 rfl (Or.inl ⟨_, rfl⟩) (Or.inr (Or.inr ⟨_, rfl⟩)) enSH (h3 q1 q2 q3)
  by_cases q4 : x0 = 3
  · refine g_tabIn 42 dX12_roadWord_1 (by rw [q4]; decide) (by rw [q4]; decide) (by rw [q4]; rfl) (by decide) ?_
    refine g_ldcS 8 (by decide) rfl rfl dX12_roadWord_42 ?_
    exact g_aret dX12_roadWord_44 rfl (Or.inl ⟨_, rfl⟩) (Or.inr (Or.inr ⟨_, rfl⟩)) enSH (h4 q1 q2 q3 q4)
  refine g_tabOut 45 dX12_roadWord_1 (p_tabD (fun k hk1 hk2 => ?_)) (by decide) ?_
  · have hk : k = 0 ∨ k = 1 ∨ k = 2 ∨ k = 3 := by omega
    rcases hk with rfl | rfl | rfl | rfl
    · exact q1
    · exact q2
    · exact q3
    · exact q4
  refine g_ldcS 11 (by decide) rfl rfl dX12_roadWord_45 ?_
  exact g_aret dX12_roadWord_47 rfl (Or.inl ⟨_, rfl⟩) (Or.inr (Or.inr ⟨_, rfl⟩)) enSH (h5 q1 q2 q3 q4)
theorem bX12_newHas_0 {X : pX} {Q : Option Value → pMem → Prop} {m : pMem} {x1 : Int32} (hW : Wf m)
    (h1 : Go X 0 mX12_newHas Q 4 [(0, .ref 535), (1, .int x1), (2, .int (0 : Int32)), (3, .int (0 : Int32))] [] m) :
    Go X 0 mX12_newHas Q 0 [(0, .ref 535), (1, .int x1)] [] m := by
  refine g_iconst (v := 0) dX12_newHas_0 (by decide) ?_
  refine g_istore_n (ls2 := [(2, .int (0 : Int32)), (0, .ref 535), (1, .int x1)]) dX12_newHas_1 rfl (by decide) rfl ?_
  refine g_iconst (v := 0) dX12_newHas_2 (by decide) ?_
  refine g_istore_n (ls2 := [(3, .int (0 : Int32)), (2, .int (0 : Int32)), (0, .ref 535), (1, .int x1)]) dX12_newHas_3 rfl (by decide) rfl ?_
  exact g_ls [2, 3, 1, 0] rfl h1
theorem bX12_newHas_4 {X : pX} {Q : Option Value → pMem → Prop} {m : pMem} {x1 : Int32} {x2 : Int32} {x3 : Int32} (hW : Wf m)
    (h1 : (mI m 548 4) ≤ x3 → Q (some (.int x2)) m)
    (h2 : ¬ ((mI m 548 4) ≤ x3) → vp_in x3 6)
    (h3 : ¬ ((mI m 548 4) ≤ x3) → ¬ (mI m 553 x3.toNatClampNeg) = x1 → Go X 0 mX12_newHas Q 4 [(0, .ref 535), (1, .int x1), (2, .int (x2 + (0 : Int32))), (3, .int (x3 + (1 : Int32)))] [] m)
    (h4 : ¬ ((mI m 548 4) ≤ x3) → (mI m 553 x3.toNatClampNeg) = x1 → Go X 0 mX12_newHas Q 4 [(0, .ref 535), (1, .int x1), (2, .int (x2 + (1 : Int32))), (3, .int (x3 + (1 : Int32)))] [] m) :
    Go X 0 mX12_newHas Q 4 [(0, .ref 535), (1, .int x1), (2, .int x2), (3, .int x3)] [] m := by
  refine g_iload_n 3 dX12_newHas_4 rfl rfl ?_
  refine g_aload_n 0 dX12_newHas_5 rfl rfl ?_
  refine g_getR dX12_newHas_6 fl12_46 rfl sh535 (w12_13 hW sh535) ?_
  refine g_iconst (v := 4) dX12_newHas_9 (by decide) ?_
  refine g_iald (j := 4) dX12_newHas_10 (s12_13 sh535) (by unfold vp_in; decide) (by decide) ?_
  refine g_icmp_ge 38 dX12_newHas_11 (by decide) (fun q1 => ?_) (fun q1 => ?_)
  · refine g_iload_n 2 dX12_newHas_38 rfl rfl ?_
    exact g_iret dX12_newHas_39 rfl enSH (h1 q1)
  · refine g_iload_n 2 dX12_newHas_14 rfl rfl ?_
    refine g_aload_n 0 dX12_newHas_15 rfl rfl ?_
    refine g_getR dX12_newHas_16 fl12_61 rfl sh535 (w12_18 hW sh535) ?_
    refine g_iload_n 3 dX12_newHas_19 rfl rfl ?_
    refine g_iald (j := x3.toNatClampNeg) dX12_newHas_20 (s12_18 sh535) (h2 q1) rfl ?_
    refine g_iload_n 1 dX12_newHas_21 rfl rfl ?_
    refine g_icmp_ne 29 dX12_newHas_22 (by decide) (fun q2 => ?_) (fun q2 => ?_)
    · refine g_iconst (v := 0) dX12_newHas_29 (by decide) ?_
      refine g_iadd dX12_newHas_30 ?_
      refine g_istore_n (ls2 := [(2, .int (x2 + (0 : Int32))), (0, .ref 535), (1, .int x1), (3, .int x3)]) dX12_newHas_31 rfl (by decide) rfl ?_
      refine g_iinc (v := x3 + (1 : Int32)) (ls2 := [(3, .int (x3 + (1 : Int32))), (2, .int (x2 + (0 : Int32))), (0, .ref 535), (1, .int x1)]) 3 dX12_newHas_32 rfl rfl (by decide) rfl ?_
      refine g_goto 4 dX12_newHas_35 (by decide) ?_
      exact g_ls [2, 3, 1, 0] rfl (h3 q1 q2)
    · refine g_iconst (v := 1) dX12_newHas_25 (by decide) ?_
      refine g_goto 30 dX12_newHas_26 (by decide) ?_
      refine g_iadd dX12_newHas_30 ?_
      refine g_istore_n (ls2 := [(2, .int (x2 + (1 : Int32))), (0, .ref 535), (1, .int x1), (3, .int x3)]) dX12_newHas_31 rfl (by decide) rfl ?_
      refine g_iinc (v := x3 + (1 : Int32)) (ls2 := [(3, .int (x3 + (1 : Int32))), (2, .int (x2 + (1 : Int32))), (0, .ref 535), (1, .int x1)]) 3 dX12_newHas_32 rfl rfl (by decide) rfl ?_
      refine g_goto 4 dX12_newHas_35 (by decide) ?_
      exact g_ls [2, 3, 1, 0] rfl (h4 q1 q2)
theorem bX12_isFull_0 {X : pX} {Q : Option Value → pMem → Prop} {m : pMem} {x1 : Int32} {x2 : Int32} (hW : Wf m)
    (h1 : x2 = (40 : Int32) → Q (some (.int (1 : Int32))) m)
    (h2 : ¬ (x2 = (40 : Int32)) → ¬ x1 = 0 → Go X 0 mX12_isFull Q 15 [(0, .ref 535), (1, .int x1), (2, .int x2)] [.int (0 : Int32)] m)
    (h3 : ¬ (x2 = (40 : Int32)) → x1 = 0 → Go X 0 mX12_isFull Q 15 [(0, .ref 535), (1, .int x1), (2, .int x2)] [.int (1 : Int32)] m) :
    Go X 0 mX12_isFull Q 0 [(0, .ref 535), (1, .int x1), (2, .int x2)] [] m := by
  refine g_iload_n 2 dX12_isFull_0 rfl rfl ?_
  refine g_bipush (v := 40) dX12_isFull_1 (by decide) ?_
  refine g_icmp_eq 27 dX12_isFull_3 (by decide) (fun q1 => ?_) (fun q1 => ?_)
  · refine g_iconst (v := 1) dX12_isFull_27 (by decide) ?_
    exact g_bret dX12_isFull_28 rfl (Or.inr rfl) enSH (h1 q1)
  · refine g_iload_n 1 dX12_isFull_6 rfl rfl ?_
    refine g_if_ne 14 dX12_isFull_7 (by decide) (fun q2 => ?_) (fun q2 => ?_)
    · refine g_iconst (v := 0) dX12_isFull_14 (by decide) ?_
      exact g_ls [0, 1, 2] rfl (h2 q1 q2)
    · refine g_iconst (v := 1) dX12_isFull_10 (by decide) ?_
      refine g_goto 15 dX12_isFull_11 (by decide) ?_
      exact g_ls [0, 1, 2] rfl (h3 q1 q2)
theorem bX12_isFull_15 {X : pX} {Q : Option Value → pMem → Prop} {m : pMem} {x1 : Int32} {x2 : Int32} (hW : Wf m)
    (h1 : ¬ x2 = 0 → Go X 0 mX12_isFull Q 24 [(0, .ref 535), (1, .int x1)] [.int (0 : Int32), .int (0 : Int32)] m)
    (h2 : x2 = 0 → Go X 0 mX12_isFull Q 24 [(0, .ref 535), (1, .int x1)] [.int (1 : Int32), .int (0 : Int32)] m) :
    Go X 0 mX12_isFull Q 15 [(0, .ref 535), (1, .int x1), (2, .int x2)] [.int (0 : Int32)] m := by
  refine g_iload_n 2 dX12_isFull_15 rfl rfl ?_
  refine g_if_ne 23 dX12_isFull_16 (by decide) (fun q1 => ?_) (fun q1 => ?_)
  · refine g_iconst (v := 0) dX12_isFull_23 (by decide) ?_
    exact g_ls [0, 1] rfl (h1 q1)
  · refine g_iconst (v := 1) dX12_isFull_19 (by decide) ?_
    refine g_goto 24 dX12_isFull_20 (by decide) ?_
    exact g_ls [0, 1] rfl (h2 q1)
theorem bX12_isFull_15v1 {X : pX} {Q : Option Value → pMem → Prop} {m : pMem} {x1 : Int32} {x2 : Int32} (hW : Wf m)
    (h1 : ¬ x2 = 0 → Go X 0 mX12_isFull Q 24 [(0, .ref 535), (1, .int x1)] [.int (0 : Int32), .int (1 : Int32)] m)
    (h2 : x2 = 0 → Go X 0 mX12_isFull Q 24 [(0, .ref 535), (1, .int x1)] [.int (1 : Int32), .int (1 : Int32)] m) :
    Go X 0 mX12_isFull Q 15 [(0, .ref 535), (1, .int x1), (2, .int x2)] [.int (1 : Int32)] m := by
  refine g_iload_n 2 dX12_isFull_15 rfl rfl ?_
  refine g_if_ne 23 dX12_isFull_16 (by decide) (fun q1 => ?_) (fun q1 => ?_)
  · refine g_iconst (v := 0) dX12_isFull_23 (by decide) ?_
    exact g_ls [0, 1] rfl (h1 q1)
  · refine g_iconst (v := 1) dX12_isFull_19 (by decide) ?_
    refine g_goto 24 dX12_isFull_20 (by decide) ?_
    exact g_ls [0, 1] rfl (h2 q1)
theorem bX12_isFull_24 {X : pX} {Q : Option Value → pMem → Prop} {m : pMem} {x1 : Int32} (hW : Wf m)
    (h1 : ¬ x1 = (1 : Int32) → Go X 0 mX12_isFull Q 45 [(0, .ref 535), (1, .int x1)] [] m)
    (h2 : x1 = (1 : Int32) → (mI m 548 2) = (8 : Int32) → Q (some (.int (1 : Int32))) m)
    (h3 : x1 = (1 : Int32) → ¬ ((mI m 548 2) = (8 : Int32)) → Go X 0 mX12_isFull Q 45 [(0, .ref 535), (1, .int x1)] [] m) :
    Go X 0 mX12_isFull Q 24 [(0, .ref 535), (1, .int x1)] [.int (0 : Int32), .int (0 : Int32)] m := by
  refine g_icmp_eq 29 dX12_isFull_24 (by decide) (fun q1 => ?_) (fun q1 => absurd q1 (by decide))
  refine g_iload_n 1 dX12_isFull_29 rfl rfl ?_
  refine g_iconst (v := 1) dX12_isFull_30 (by decide) ?_
  refine g_icmp_ne 45 dX12_isFull_31 (by decide) (fun q2 => ?_) (fun q2 => ?_)
  · exact g_ls [0, 1] rfl (h1 q2)
  · refine g_aload_n 0 dX12_isFull_34 rfl rfl ?_
    refine g_getR dX12_isFull_35 fl12_46 rfl sh535 (w12_13 hW sh535) ?_
    refine g_iconst (v := 2) dX12_isFull_38 (by decide) ?_
    refine g_iald (j := 2) dX12_isFull_39 (s12_13 sh535) (by unfold vp_in; decide) (by decide) ?_
    refine g_bipush (v := 8) dX12_isFull_40 (by decide) ?_
    refine g_icmp_eq 76 dX12_isFull_42 (by decide) (fun q3 => ?_) (fun q3 => ?_)
    · refine g_iconst (v := 1) dX12_isFull_76 (by decide) ?_
      refine g_goto 81 dX12_isFull_77 (by decide) ?_
      exact g_bret dX12_isFull_81 rfl (Or.inr rfl) enSH (h2 q2 q3)
    · exact g_ls [0, 1] rfl (h3 q2 q3)
theorem bX12_isFull_24v1 {X : pX} {Q : Option Value → pMem → Prop} {m : pMem} {x1 : Int32} (hW : Wf m)
    (h1 : Q (some (.int (1 : Int32))) m) :
    Go X 0 mX12_isFull Q 24 [(0, .ref 535), (1, .int x1)] [.int (1 : Int32), .int (0 : Int32)] m := by
  refine g_icmp_eq 29 dX12_isFull_24 (by decide) (fun q1 => absurd q1 (by decide)) (fun q1 => ?_)
  refine g_iconst (v := 1) dX12_isFull_27 (by decide) ?_
  exact g_bret dX12_isFull_28 rfl (Or.inr rfl) enSH h1
theorem bX12_isFull_24v2 {X : pX} {Q : Option Value → pMem → Prop} {m : pMem} {x1 : Int32} (hW : Wf m)
    (h1 : Q (some (.int (1 : Int32))) m) :
    Go X 0 mX12_isFull Q 24 [(0, .ref 535), (1, .int x1)] [.int (0 : Int32), .int (1 : Int32)] m := by
  refine g_icmp_eq 29 dX12_isFull_24 (by decide) (fun q1 => absurd q1 (by decide)) (fun q1 => ?_)
  refine g_iconst (v := 1) dX12_isFull_27 (by decide) ?_
  exact g_bret dX12_isFull_28 rfl (Or.inr rfl) enSH h1
theorem bX12_isFull_24v3 {X : pX} {Q : Option Value → pMem → Prop} {m : pMem} {x1 : Int32} (hW : Wf m)
    (h1 : ¬ x1 = (1 : Int32) → Go X 0 mX12_isFull Q 45 [(0, .ref 535), (1, .int x1)] [] m)
    (h2 : x1 = (1 : Int32) → (mI m 548 2) = (8 : Int32) → Q (some (.int (1 : Int32))) m)
    (h3 : x1 = (1 : Int32) → ¬ ((mI m 548 2) = (8 : Int32)) → Go X 0 mX12_isFull Q 45 [(0, .ref 535), (1, .int x1)] [] m) :
    Go X 0 mX12_isFull Q 24 [(0, .ref 535), (1, .int x1)] [.int (1 : Int32), .int (1 : Int32)] m := by
  refine g_icmp_eq 29 dX12_isFull_24 (by decide) (fun q1 => ?_) (fun q1 => absurd q1 (by decide))
  refine g_iload_n 1 dX12_isFull_29 rfl rfl ?_
  refine g_iconst (v := 1) dX12_isFull_30 (by decide) ?_
  refine g_icmp_ne 45 dX12_isFull_31 (by decide) (fun q2 => ?_) (fun q2 => ?_)
  · exact g_ls [0, 1] rfl (h1 q2)
  · refine g_aload_n 0 dX12_isFull_34 rfl rfl ?_
    refine g_getR dX12_isFull_35 fl12_46 rfl sh535 (w12_13 hW sh535) ?_
    refine g_iconst (v := 2) dX12_isFull_38 (by decide) ?_
    refine g_iald (j := 2) dX12_isFull_39 (s12_13 sh535) (by unfold vp_in; decide) (by decide) ?_
    refine g_bipush (v := 8) dX12_isFull_40 (by decide) ?_
    refine g_icmp_eq 76 dX12_isFull_42 (by decide) (fun q3 => ?_) (fun q3 => ?_)
    · refine g_iconst (v := 1) dX12_isFull_76 (by decide) ?_
      refine g_goto 81 dX12_isFull_77 (by decide) ?_
      exact g_bret dX12_isFull_81 rfl (Or.inr rfl) enSH (h2 q2 q3)
    · exact g_ls [0, 1] rfl (h3 q2 q3)
theorem bX12_isFull_45 {X : pX} {Q : Option Value → pMem → Prop} {m : pMem} {x1 : Int32} (hW : Wf m)
    (h1 : ¬ x1 = (2 : Int32) → Go X 0 mX12_isFull Q 60 [(0, .ref 535), (1, .int x1)] [] m)
    (h2 : x1 = (2 : Int32) → (mI m 548 3) = (4 : Int32) → Q (some (.int (1 : Int32))) m)
    (h3 : x1 = (2 : Int32) → ¬ ((mI m 548 3) = (4 : Int32)) → Go X 0 mX12_isFull Q 60 [(0, .ref 535), (1, .int x1)] [] m) :
    Go X 0 mX12_isFull Q 45 [(0, .ref 535), (1, .int x1)] [] m := by
  refine g_iload_n 1 dX12_isFull_45 rfl rfl ?_
  refine g_iconst (v := 2) dX12_isFull_46 (by decide) ?_
  refine g_icmp_ne 60 dX12_isFull_47 (by decide) (fun q1 => ?_) (fun q1 => ?_)
  · exact g_ls [0, 1] rfl (h1 q1)
  · refine g_aload_n 0 dX12_isFull_50 rfl rfl ?_
    refine g_getR dX12_isFull_51 fl12_46 rfl sh535 (w12_13 hW sh535) ?_
    refine g_iconst (v := 3) dX12_isFull_54 (by decide) ?_
    refine g_iald (j := 3) dX12_isFull_55 (s12_13 sh535) (by unfold vp_in; decide) (by decide) ?_
    refine g_iconst (v := 4) dX12_isFull_56 (by decide) ?_
    refine g_icmp_eq 76 dX12_isFull_57 (by decide) (fun q2 => ?_) (fun q2 => ?_)
    · refine g_iconst (v := 1) dX12_isFull_76 (by decide) ?_
      refine g_goto 81 dX12_isFull_77 (by decide) ?_
      exact g_bret dX12_isFull_81 rfl (Or.inr rfl) enSH (h2 q1 q2)
    · exact g_ls [0, 1] rfl (h3 q1 q2)
theorem bX12_isFull_60 {X : pX} {Q : Option Value → pMem → Prop} {m : pMem} {x1 : Int32} (hW : Wf m)
    (h1 : ¬ x1 = (3 : Int32) → Q (some (.int (0 : Int32))) m)
    (h2 : x1 = (3 : Int32) → ¬ (mI m 548 4) = (6 : Int32) → Q (some (.int (0 : Int32))) m)
    (h3 : x1 = (3 : Int32) → (mI m 548 4) = (6 : Int32) → Q (some (.int (1 : Int32))) m) :
    Go X 0 mX12_isFull Q 60 [(0, .ref 535), (1, .int x1)] [] m := by
  refine g_iload_n 1 dX12_isFull_60 rfl rfl ?_
  refine g_iconst (v := 3) dX12_isFull_61 (by decide) ?_
  refine g_icmp_ne 80 dX12_isFull_62 (by decide) (fun q1 => ?_) (fun q1 => ?_)
  · refine g_iconst (v := 0) dX12_isFull_80 (by decide) ?_
    exact g_bret dX12_isFull_81 rfl (Or.inl rfl) enSH (h1 q1)
  · refine g_aload_n 0 dX12_isFull_65 rfl rfl ?_
    refine g_getR dX12_isFull_66 fl12_46 rfl sh535 (w12_13 hW sh535) ?_
    refine g_iconst (v := 4) dX12_isFull_69 (by decide) ?_
    refine g_iald (j := 4) dX12_isFull_70 (s12_13 sh535) (by unfold vp_in; decide) (by decide) ?_
    refine g_bipush (v := 6) dX12_isFull_71 (by decide) ?_
    refine g_icmp_ne 80 dX12_isFull_73 (by decide) (fun q2 => ?_) (fun q2 => ?_)
    · refine g_iconst (v := 0) dX12_isFull_80 (by decide) ?_
      exact g_bret dX12_isFull_81 rfl (Or.inl rfl) enSH (h2 q1 q2)
    · refine g_iconst (v := 1) dX12_isFull_76 (by decide) ?_
      refine g_goto 81 dX12_isFull_77 (by decide) ?_
      exact g_bret dX12_isFull_81 rfl (Or.inr rfl) enSH (h3 q1 q2)
theorem bX12_copies_0 {X : pX} {Q : Option Value → pMem → Prop} {m : pMem} {a0 n0 : Nat} {a1 n1 : Nat} (hW : Wf m) (c0 : SH[a0]? = some (.inr (.int, n0))) (c1 : SH[a1]? = some (.inr (.int, n1)))
    (h1 : Go X 0 mX12_copies Q 2 [(0, .ref a0), (1, .ref a1), (2, .int (0 : Int32))] [] m) :
    Go X 0 mX12_copies Q 0 [(0, .ref a0), (1, .ref a1)] [] m := by
  refine g_iconst (v := 0) dX12_copies_0 (by decide) ?_
  refine g_istore_n (ls2 := [(2, .int (0 : Int32)), (0, .ref a0), (1, .ref a1)]) dX12_copies_1 rfl (by decide) rfl ?_
  exact g_ls [1, 2, 0] rfl h1
theorem bX12_copies_2 {X : pX} {Q : Option Value → pMem → Prop} {m : pMem} {a0 n0 : Nat} {a1 n1 : Nat} {x2 : Int32} (hW : Wf m) (c0 : SH[a0]? = some (.inr (.int, n0))) (c1 : SH[a1]? = some (.inr (.int, n1)))
    (h1 : (Int32.ofNat n0) ≤ x2 → Q none m)
    (h2 : ¬ ((Int32.ofNat n0) ≤ x2) → vp_in x2 n0)
    (h3 : ¬ ((Int32.ofNat n0) ≤ x2) → vp_in x2 n1)
    (h4 : ¬ ((Int32.ofNat n0) ≤ x2) → Go X 0 mX12_copies Q 2 [(0, .ref a0), (1, .ref a1), (2, .int (x2 + (1 : Int32)))] [] (uI m a1 x2.toNatClampNeg (mI m a0 x2.toNatClampNeg))) :
    Go X 0 mX12_copies Q 2 [(0, .ref a0), (1, .ref a1), (2, .int x2)] [] m := by
  refine g_iload_n 2 dX12_copies_2 rfl rfl ?_
  refine g_aload_n 0 dX12_copies_3 rfl rfl ?_
  refine g_alen (v := Int32.ofNat n0) dX12_copies_4 c0 (by decide) (by first | rfl | decide) ?_
  refine g_icmp_ge 20 dX12_copies_5 (by decide) (fun q1 => ?_) (fun q1 => ?_)
  · exact g_vret dX12_copies_20 rfl enSH (h1 q1)
  · refine g_aload_n 1 dX12_copies_8 rfl rfl ?_
    refine g_iload_n 2 dX12_copies_9 rfl rfl ?_
    refine g_aload_n 0 dX12_copies_10 rfl rfl ?_
    refine g_iload_n 2 dX12_copies_11 rfl rfl ?_
    refine g_iald (j := x2.toNatClampNeg) dX12_copies_12 c0 (h2 q1) rfl ?_
    refine g_iast (j := x2.toNatClampNeg) dX12_copies_13 c1 (h3 q1) rfl ?_
    refine g_iinc (v := x2 + (1 : Int32)) (ls2 := [(2, .int (x2 + (1 : Int32))), (0, .ref a0), (1, .ref a1)]) 2 dX12_copies_14 rfl rfl (by decide) rfl ?_
    refine g_goto 2 dX12_copies_17 (by decide) ?_
    exact g_ls [1, 2, 0] rfl (h4 q1)
theorem bX12_starts_0 {X : pX} {Q : Option Value → pMem → Prop} {m : pMem} (hW : Wf m)
    (h1 : Q none (uI (uI (uI (uI (uI m 535 20 (0 : Int32)) 535 21 (0 : Int32)) 535 24 (0 : Int32)) 535 25 (0 : Int32)) 535 26 (0 : Int32))) :
    Go X 0 mX12_starts Q 0 [(0, .ref 535)] [] m := by
  refine g_aload_n 0 dX12_starts_0 rfl rfl ?_
  refine g_iconst (v := 0) dX12_starts_1 (by decide) ?_
  refine g_putI dX12_starts_2 fl12_163 (fun h => by cases h) sh535 ?_
  refine g_aload_n 0 dX12_starts_5 rfl rfl ?_
  refine g_iconst (v := 0) dX12_starts_6 (by decide) ?_
  refine g_putI dX12_starts_7 fl12_160 (fun h => by cases h) sh535 ?_
  refine g_aload_n 0 dX12_starts_10 rfl rfl ?_
  refine g_iconst (v := 0) dX12_starts_11 (by decide) ?_
  refine g_putI dX12_starts_12 fl12_193 (fun h => by cases h) sh535 ?_
  refine g_aload_n 0 dX12_starts_15 rfl rfl ?_
  refine g_iconst (v := 0) dX12_starts_16 (by decide) ?_
  refine g_putI dX12_starts_17 fl12_234 (fun h => by cases h) sh535 ?_
  refine g_aload_n 0 dX12_starts_20 rfl rfl ?_
  refine g_iconst (v := 0) dX12_starts_21 (by decide) ?_
  refine g_putI dX12_starts_22 fl12_196 (fun h => by cases h) sh535 ?_
  exact g_vret dX12_starts_25 rfl enSH h1
theorem bX12_truth_0 {X : pX} {Q : Option Value → pMem → Prop} {m : pMem} {x0 : Int32} (hW : Wf m)
    (h1 : x0 = 0 → Q (some (.long (0 : Int64))) m)
    (h2 : ¬ (x0 = 0) → Q (some (.long (1 : Int64))) m) :
    Go X 0 mX12_truth Q 0 [(0, .int x0)] [] m := by
  refine g_iload_n 0 dX12_truth_0 rfl rfl ?_
  refine g_if_eq 8 dX12_truth_1 (by decide) (fun q1 => ?_) (fun q1 => ?_)
  · refine g_lconst (v := 0) dX12_truth_8 (by decide) ?_
    exact g_lret dX12_truth_9 rfl enSH (h1 q1)
  · refine g_lconst (v := 1) dX12_truth_4 (by decide) ?_
    refine g_goto 9 dX12_truth_5 (by decide) ?_
    exact g_lret dX12_truth_9 rfl enSH (h2 q1)
theorem bX12_thingsOf_0 {X : pX} {Q : Option Value → pMem → Prop} {m : pMem} {x1 : Int32} (hW : Wf m)
    (h1 : Go X 0 mX12_thingsOf Q 4 [(0, .ref 535), (1, .int x1), (2, .int (0 : Int32)), (3, .int (0 : Int32))] [] m) :
    Go X 0 mX12_thingsOf Q 0 [(0, .ref 535), (1, .int x1)] [] m := by
  refine g_iconst (v := 0) dX12_thingsOf_0 (by decide) ?_
  refine g_istore_n (ls2 := [(2, .int (0 : Int32)), (0, .ref 535), (1, .int x1)]) dX12_thingsOf_1 rfl (by decide) rfl ?_
  refine g_iconst (v := 0) dX12_thingsOf_2 (by decide) ?_
  refine g_istore_n (ls2 := [(3, .int (0 : Int32)), (2, .int (0 : Int32)), (0, .ref 535), (1, .int x1)]) dX12_thingsOf_3 rfl (by decide) rfl ?_
  exact g_ls [2, 3, 1, 0] rfl h1
theorem bX12_thingsOf_4 {X : pX} {Q : Option Value → pMem → Prop} {m : pMem} {x1 : Int32} {x2 : Int32} {x3 : Int32} (hW : Wf m)
    (h1 : (mI m 536 4) ≤ x3 → Q (some (.int x2)) m)
    (h2 : ¬ ((mI m 536 4) ≤ x3) → vp_in x3 6)
    (h3 : ¬ ((mI m 536 4) ≤ x3) → ¬ (mI m 539 x3.toNatClampNeg) = x1 → Go X 0 mX12_thingsOf Q 4 [(0, .ref 535), (1, .int x1), (2, .int (x2 ||| (0 : Int32))), (3, .int (x3 + (1 : Int32)))] [] m)
    (h4 : ¬ ((mI m 536 4) ≤ x3) → (mI m 539 x3.toNatClampNeg) = x1 → Go X 0 mX12_thingsOf Q 4 [(0, .ref 535), (1, .int x1), (2, .int (x2 ||| ((1 : Int32) <<< (x3 &&& 31)))), (3, .int (x3 + (1 : Int32)))] [] m) :
    Go X 0 mX12_thingsOf Q 4 [(0, .ref 535), (1, .int x1), (2, .int x2), (3, .int x3)] [] m := by
  refine g_iload_n 3 dX12_thingsOf_4 rfl rfl ?_
  refine g_aload_n 0 dX12_thingsOf_5 rfl rfl ?_
  refine g_getR dX12_thingsOf_6 fl12_9 rfl sh535 (w12_1 hW sh535) ?_
  refine g_iconst (v := 4) dX12_thingsOf_9 (by decide) ?_
  refine g_iald (j := 4) dX12_thingsOf_10 (s12_1 sh535) (by unfold vp_in; decide) (by decide) ?_
  refine g_icmp_ge 40 dX12_thingsOf_11 (by decide) (fun q1 => ?_) (fun q1 => ?_)
  · refine g_iload_n 2 dX12_thingsOf_40 rfl rfl ?_
    exact g_iret dX12_thingsOf_41 rfl enSH (h1 q1)
  · refine g_iload_n 2 dX12_thingsOf_14 rfl rfl ?_
    refine g_aload_n 0 dX12_thingsOf_15 rfl rfl ?_
    refine g_getR dX12_thingsOf_16 fl12_19 rfl sh535 (w12_4 hW sh535) ?_
    refine g_iload_n 3 dX12_thingsOf_19 rfl rfl ?_
    refine g_iald (j := x3.toNatClampNeg) dX12_thingsOf_20 (s12_4 sh535) (h2 q1) rfl ?_
    refine g_iload_n 1 dX12_thingsOf_21 rfl rfl ?_
    refine g_icmp_ne 31 dX12_thingsOf_22 (by decide) (fun q2 => ?_) (fun q2 => ?_)
    · refine g_iconst (v := 0) dX12_thingsOf_31 (by decide) ?_
      refine g_ior dX12_thingsOf_32 ?_
      refine g_istore_n (ls2 := [(2, .int (x2 ||| (0 : Int32))), (0, .ref 535), (1, .int x1), (3, .int x3)]) dX12_thingsOf_33 rfl (by decide) rfl ?_
      refine g_iinc (v := x3 + (1 : Int32)) (ls2 := [(3, .int (x3 + (1 : Int32))), (2, .int (x2 ||| (0 : Int32))), (0, .ref 535), (1, .int x1)]) 3 dX12_thingsOf_34 rfl rfl (by decide) rfl ?_
      refine g_goto 4 dX12_thingsOf_37 (by decide) ?_
      exact g_ls [2, 3, 1, 0] rfl (h3 q1 q2)
    · refine g_iconst (v := 1) dX12_thingsOf_25 (by decide) ?_
      refine g_iload_n 3 dX12_thingsOf_26 rfl rfl ?_
      refine g_ishl dX12_thingsOf_27 ?_
      refine g_goto 32 dX12_thingsOf_28 (by decide) ?_
      refine g_ior dX12_thingsOf_32 ?_
      refine g_istore_n (ls2 := [(2, .int (x2 ||| ((1 : Int32) <<< (x3 &&& 31)))), (0, .ref 535), (1, .int x1), (3, .int x3)]) dX12_thingsOf_33 rfl (by decide) rfl ?_
      refine g_iinc (v := x3 + (1 : Int32)) (ls2 := [(3, .int (x3 + (1 : Int32))), (2, .int (x2 ||| ((1 : Int32) <<< (x3 &&& 31)))), (0, .ref 535), (1, .int x1)]) 3 dX12_thingsOf_34 rfl rfl (by decide) rfl ?_
      refine g_goto 4 dX12_thingsOf_37 (by decide) ?_
      exact g_ls [2, 3, 1, 0] rfl (h4 q1 q2)
theorem bX12_moves_0 {X : pX} {Q : Option Value → pMem → Prop} {m : pMem} {x1 : Int32} (hW : Wf m)
    (h1 : (mI m 535 43) = 0 → Go X 0 mX12_moves Q 20 [(0, .ref 535)] [.int x1] m)
    (h2 : ¬ ((mI m 535 43) = 0) → vp_in (mI m 535 42) 300)
    (h3 : ¬ ((mI m 535 43) = 0) → Go X 0 mX12_moves Q 20 [(0, .ref 535)] [.int (mI m 564 ((mI m 535 42).toNatClampNeg))] m) :
    Go X 0 mX12_moves Q 0 [(0, .ref 535), (1, .int x1)] [] m := by
  refine g_aload_n 0 dX12_moves_0 rfl rfl ?_
  refine g_getZ dX12_moves_1 fl12_371 sh535 ?_
  refine g_if_eq 19 dX12_moves_4 (by decide) (fun q1 => ?_) (fun q1 => ?_)
  · refine g_iload_n 1 dX12_moves_19 rfl rfl ?_
    exact g_ls [0] rfl (h1 q1)
  · refine g_aload_n 0 dX12_moves_7 rfl rfl ?_
    refine g_getR dX12_moves_8 fl12_100 rfl sh535 (w12_39 hW sh535) ?_
    refine g_aload_n 0 dX12_moves_11 rfl rfl ?_
    refine g_getI dX12_moves_12 fl12_375 sh535 ?_
    refine g_iald (j := (mI m 535 42).toNatClampNeg) dX12_moves_15 (s12_39 sh535) (h2 q1) rfl ?_
    refine g_goto 20 dX12_moves_16 (by decide) ?_
    exact g_ls [0] rfl (h3 q1)
theorem bX12_moves_20 {X : pX} {Q : Option Value → pMem → Prop} {m : pMem} {xs0 : Int32} (hW : Wf m)
    (h1 : vp_in (mI m 535 42) 300)
    (h2 : Q (some (.int xs0)) (uI (uI m 564 ((mI m 535 42).toNatClampNeg) xs0) 535 42 ((mI m 535 42) + (1 : Int32)))) :
    Go X 0 mX12_moves Q 20 [(0, .ref 535)] [.int xs0] m := by
  refine g_istore_n (ls2 := [(2, .int xs0), (0, .ref 535)]) dX12_moves_20 rfl (by decide) rfl ?_
  refine g_aload_n 1 dX12_moves_21 rfl rfl ?_
  refine g_getR dX12_moves_22 fl12_100 rfl sh535 (w12_39 hW sh535) ?_
  refine g_aload_n 1 dX12_moves_25 rfl rfl ?_
  refine g_getI dX12_moves_26 fl12_375 sh535 ?_
  refine g_iload_n 0 dX12_moves_29 rfl rfl ?_
  refine g_iast (j := (mI m 535 42).toNatClampNeg) dX12_moves_30 (s12_39 sh535) h1 rfl ?_
  refine g_aload_n 1 dX12_moves_31 rfl rfl ?_
  refine g_dup dX12_moves_32 rfl ?_
  refine g_getI dX12_moves_33 fl12_375 sh535 ?_
  refine g_iconst (v := 1) dX12_moves_36 (by decide) ?_
  refine g_iadd dX12_moves_37 ?_
  refine g_putI dX12_moves_38 fl12_375 (fun h => by cases h) sh535 ?_
  refine g_iload_n 0 dX12_moves_41 rfl rfl ?_
  exact g_iret dX12_moves_42 rfl enSH h2
theorem bX12_daysOf_0 {X : pX} {Q : Option Value → pMem → Prop} {m : pMem} {x1 : Int32} {x2 : Int32} {x3 : Int32} {x4 : Int32} (hW : Wf m)
    (h1 : Go X 0 mX12_daysOf Q 6 [(0, .ref 535), (1, .int x1), (3, .int x3), (4, .int x4), (5, .int (0 : Int32)), (6, .int x2)] [] m) :
    Go X 0 mX12_daysOf Q 0 [(0, .ref 535), (1, .int x1), (2, .int x2), (3, .int x3), (4, .int x4)] [] m := by
  refine g_iconst (v := 0) dX12_daysOf_0 (by decide) ?_
  refine g_istore (ls2 := [(5, .int (0 : Int32)), (0, .ref 535), (1, .int x1), (2, .int x2), (3, .int x3), (4, .int x4)]) dX12_daysOf_1 (by decide) rfl ?_
  refine g_iload_n 3 dX12_daysOf_3 rfl rfl ?_
  refine g_istore (ls2 := [(6, .int x2), (5, .int (0 : Int32)), (0, .ref 535), (1, .int x1), (2, .int x2), (3, .int x3), (4, .int x4)]) dX12_daysOf_4 (by decide) rfl ?_
  exact g_ls [2, 3, 5, 6, 1, 0] rfl h1
theorem bX12_daysOf_6 {X : pX} {Q : Option Value → pMem → Prop} {m : pMem} {x1 : Int32} {x3 : Int32} {x4 : Int32} {x5 : Int32} {x6 : Int32} (hW : Wf m)
    (h1 : x3 ≤ x6 → Q (some (.int x5)) m)
    (h2 : ¬ (x3 ≤ x6) → vp_in x6 8)
    (h3 : ¬ (x3 ≤ x6) → vp_in x1 4)
    (h4 : ¬ (x3 ≤ x6) → ¬ (mI m 541 x1.toNatClampNeg) = 0)
    (h5 : ¬ (x3 ≤ x6) → Go X 0 mX12_daysOf Q 6 [(0, .ref 535), (1, .int x1), (3, .int x3), (4, .int x4), (5, .int (x5 + (((((mI m 540 x6.toNatClampNeg) + x4) + (mI m 541 x1.toNatClampNeg)) - (1 : Int32)) / (mI m 541 x1.toNatClampNeg)))), (6, .int (x6 + (1 : Int32)))] [] m) :
    Go X 0 mX12_daysOf Q 6 [(0, .ref 535), (1, .int x1), (3, .int x3), (4, .int x4), (5, .int x5), (6, .int x6)] [] m := by
  refine g_iload 5 dX12_daysOf_6 rfl ?_
  refine g_iload_n 2 dX12_daysOf_8 rfl rfl ?_
  refine g_icmp_ge 49 dX12_daysOf_9 (by decide) (fun q1 => ?_) (fun q1 => ?_)
  · refine g_iload 4 dX12_daysOf_49 rfl ?_
    exact g_iret dX12_daysOf_51 rfl enSH (h1 q1)
  · refine g_iload 4 dX12_daysOf_12 rfl ?_
    refine g_aload_n 0 dX12_daysOf_14 rfl rfl ?_
    refine g_getR dX12_daysOf_15 fl12_22 rfl sh535 (w12_5 hW sh535) ?_
    refine g_iload 5 dX12_daysOf_18 rfl ?_
    refine g_iald (j := x6.toNatClampNeg) dX12_daysOf_20 (s12_5 sh535) (h2 q1) rfl ?_
    refine g_iload 3 dX12_daysOf_21 rfl ?_
    refine g_iadd dX12_daysOf_23 ?_
    refine g_aload_n 0 dX12_daysOf_24 rfl rfl ?_
    refine g_getR dX12_daysOf_25 fl12_25 rfl sh535 (w12_6 hW sh535) ?_
    refine g_iload_n 1 dX12_daysOf_28 rfl rfl ?_
    refine g_iald (j := x1.toNatClampNeg) dX12_daysOf_29 (s12_6 sh535) (h3 q1) rfl ?_
    refine g_iadd dX12_daysOf_30 ?_
    refine g_iconst (v := 1) dX12_daysOf_31 (by decide) ?_
    refine g_isub dX12_daysOf_32 ?_
    refine g_aload_n 0 dX12_daysOf_33 rfl rfl ?_
    refine g_getR dX12_daysOf_34 fl12_25 rfl sh535 (w12_6 hW sh535) ?_
    refine g_iload_n 1 dX12_daysOf_37 rfl rfl ?_
    refine g_iald (j := x1.toNatClampNeg) dX12_daysOf_38 (s12_6 sh535) (h3 q1) rfl ?_
    refine g_idiv dX12_daysOf_39 (h4 q1) ?_
    refine g_iadd dX12_daysOf_40 ?_
    refine g_istore (ls2 := [(5, .int (x5 + (((((mI m 540 x6.toNatClampNeg) + x4) + (mI m 541 x1.toNatClampNeg)) - (1 : Int32)) / (mI m 541 x1.toNatClampNeg)))), (0, .ref 535), (1, .int x1), (3, .int x3), (4, .int x4), (6, .int x6)]) dX12_daysOf_41 (by decide) rfl ?_
    refine g_iinc (v := x6 + (1 : Int32)) (ls2 := [(6, .int (x6 + (1 : Int32))), (5, .int (x5 + (((((mI m 540 x6.toNatClampNeg) + x4) + (mI m 541 x1.toNatClampNeg)) - (1 : Int32)) / (mI m 541 x1.toNatClampNeg)))), (0, .ref 535), (1, .int x1), (3, .int x3), (4, .int x4)]) 5 dX12_daysOf_43 rfl rfl (by decide) rfl ?_
    refine g_goto 6 dX12_daysOf_46 (by decide) ?_
    exact g_ls [2, 3, 4, 5, 1, 0] rfl (h5 q1)
theorem bX12_howManyTaken_0 {X : pX} {Q : Option Value → pMem → Prop} {m : pMem} {x1 : Int32} (hW : Wf m)
    (h1 : Go X 0 mX12_howManyTaken Q 4 [(0, .ref 535), (1, .int x1), (2, .int (0 : Int32)), (3, .int (0 : Int32))] [] m) :
    Go X 0 mX12_howManyTaken Q 0 [(0, .ref 535), (1, .int x1)] [] m := by
  refine g_iconst (v := 0) dX12_howManyTaken_0 (by decide) ?_
  refine g_istore_n (ls2 := [(2, .int (0 : Int32)), (0, .ref 535), (1, .int x1)]) dX12_howManyTaken_1 rfl (by decide) rfl ?_
  refine g_iconst (v := 0) dX12_howManyTaken_2 (by decide) ?_
  refine g_istore_n (ls2 := [(3, .int (0 : Int32)), (2, .int (0 : Int32)), (0, .ref 535), (1, .int x1)]) dX12_howManyTaken_3 rfl (by decide) rfl ?_
  exact g_ls [2, 3, 1, 0] rfl h1
theorem bX12_howManyTaken_4 {X : pX} {Q : Option Value → pMem → Prop} {m : pMem} {x1 : Int32} {x2 : Int32} {x3 : Int32} (hW : Wf m)
    (h1 : (6 : Int32) ≤ x3 → Q (some (.int x2)) m)
    (h2 : ¬ ((6 : Int32) ≤ x3) → vp_in x3 6)
    (h3 : ¬ ((6 : Int32) ≤ x3) → ¬ (mI m 567 x3.toNatClampNeg) = 0)
    (h4 : ¬ ((6 : Int32) ≤ x3) → ((x1 / (mI m 567 x3.toNatClampNeg)) - (x1 / (mI m 567 x3.toNatClampNeg)) / (3 : Int32) * (3 : Int32)) ≤ 0 → Go X 0 mX12_howManyTaken Q 4 [(0, .ref 535), (1, .int x1), (2, .int (x2 + (0 : Int32))), (3, .int (x3 + (1 : Int32)))] [] m)
    (h5 : ¬ ((6 : Int32) ≤ x3) → ¬ (((x1 / (mI m 567 x3.toNatClampNeg)) - (x1 / (mI m 567 x3.toNatClampNeg)) / (3 : Int32) * (3 : Int32)) ≤ 0) → Go X 0 mX12_howManyTaken Q 4 [(0, .ref 535), (1, .int x1), (2, .int (x2 + (1 : Int32))), (3, .int (x3 + (1 : Int32)))] [] m) :
    Go X 0 mX12_howManyTaken Q 4 [(0, .ref 535), (1, .int x1), (2, .int x2), (3, .int x3)] [] m := by
  refine g_iload_n 3 dX12_howManyTaken_4 rfl rfl ?_
  refine g_bipush (v := 6) dX12_howManyTaken_5 (by decide) ?_
  refine g_icmp_ge 37 dX12_howManyTaken_7 (by decide) (fun q1 => ?_) (fun q1 => ?_)
  · refine g_iload_n 2 dX12_howManyTaken_37 rfl rfl ?_
    exact g_iret dX12_howManyTaken_38 rfl enSH (h1 q1)
  · refine g_iload_n 2 dX12_howManyTaken_10 rfl rfl ?_
    refine g_iload_n 1 dX12_howManyTaken_11 rfl rfl ?_
    refine g_aload_n 0 dX12_howManyTaken_12 rfl rfl ?_
    refine g_getR dX12_howManyTaken_13 fl12_109 rfl sh535 (w12_45 hW sh535) ?_
    refine g_iload_n 3 dX12_howManyTaken_16 rfl rfl ?_
    refine g_iald (j := x3.toNatClampNeg) dX12_howManyTaken_17 (s12_45 sh535) (h2 q1) rfl ?_
    refine g_idiv dX12_howManyTaken_18 (h3 q1) ?_
    refine g_iconst (v := 3) dX12_howManyTaken_19 (by decide) ?_
    refine g_irem dX12_howManyTaken_20 (by decide) ?_
    refine g_if_le 28 dX12_howManyTaken_21 (by decide) (fun q2 => ?_) (fun q2 => ?_)
    · refine g_iconst (v := 0) dX12_howManyTaken_28 (by decide) ?_
      refine g_iadd dX12_howManyTaken_29 ?_
      refine g_istore_n (ls2 := [(2, .int (x2 + (0 : Int32))), (0, .ref 535), (1, .int x1), (3, .int x3)]) dX12_howManyTaken_30 rfl (by decide) rfl ?_
      refine g_iinc (v := x3 + (1 : Int32)) (ls2 := [(3, .int (x3 + (1 : Int32))), (2, .int (x2 + (0 : Int32))), (0, .ref 535), (1, .int x1)]) 3 dX12_howManyTaken_31 rfl rfl (by decide) rfl ?_
      refine g_goto 4 dX12_howManyTaken_34 (by decide) ?_
      exact g_ls [2, 3, 1, 0] rfl (h4 q1 q2)
    · refine g_iconst (v := 1) dX12_howManyTaken_24 (by decide) ?_
      refine g_goto 29 dX12_howManyTaken_25 (by decide) ?_
      refine g_iadd dX12_howManyTaken_29 ?_
      refine g_istore_n (ls2 := [(2, .int (x2 + (1 : Int32))), (0, .ref 535), (1, .int x1), (3, .int x3)]) dX12_howManyTaken_30 rfl (by decide) rfl ?_
      refine g_iinc (v := x3 + (1 : Int32)) (ls2 := [(3, .int (x3 + (1 : Int32))), (2, .int (x2 + (1 : Int32))), (0, .ref 535), (1, .int x1)]) 3 dX12_howManyTaken_31 rfl rfl (by decide) rfl ?_
      refine g_goto 4 dX12_howManyTaken_34 (by decide) ?_
      exact g_ls [2, 3, 1, 0] rfl (h5 q1 q2)
theorem bX12_mostAlike_0 {X : pX} {Q : Option Value → pMem → Prop} {m : pMem} {x1 : Int32} {x2 : Int32} (hW : Wf m)
    (h1 : Go X 0 mX12_mostAlike Q 5 [(0, .ref 535), (1, .int x1), (2, .int x2), (3, .int (0 : Int32)), (4, .int (0 : Int32))] [] m) :
    Go X 0 mX12_mostAlike Q 0 [(0, .ref 535), (1, .int x1), (2, .int x2)] [] m := by
  refine g_iconst (v := 0) dX12_mostAlike_0 (by decide) ?_
  refine g_istore_n (ls2 := [(3, .int (0 : Int32)), (0, .ref 535), (1, .int x1), (2, .int x2)]) dX12_mostAlike_1 rfl (by decide) rfl ?_
  refine g_iconst (v := 0) dX12_mostAlike_2 (by decide) ?_
  refine g_istore (ls2 := [(4, .int (0 : Int32)), (3, .int (0 : Int32)), (0, .ref 535), (1, .int x1), (2, .int x2)]) dX12_mostAlike_3 (by decide) rfl ?_
  exact g_ls [2, 3, 4, 1, 0] rfl h1
theorem bX12_mostAlike_5 {X : pX} {Q : Option Value → pMem → Prop} {m : pMem} {x1 : Int32} {x2 : Int32} {x3 : Int32} {x4 : Int32} (hW : Wf m)
    (h1 : x2 ≤ x4 → Q (some (.int x3)) m)
    (h2 : ¬ (x2 ≤ x4) → Go X 0 mX12_mostAlike Q 17 [(0, .ref 535), (1, .int x1), (2, .int x2), (3, .int x3), (4, .int x4), (5, .int (0 : Int32)), (6, .int (0 : Int32))] [] m) :
    Go X 0 mX12_mostAlike Q 5 [(0, .ref 535), (1, .int x1), (2, .int x2), (3, .int x3), (4, .int x4)] [] m := by
  refine g_iload 4 dX12_mostAlike_5 rfl ?_
  refine g_iload_n 2 dX12_mostAlike_7 rfl rfl ?_
  refine g_icmp_ge 83 dX12_mostAlike_8 (by decide) (fun q1 => ?_) (fun q1 => ?_)
  · refine g_iload_n 3 dX12_mostAlike_83 rfl rfl ?_
    exact g_iret dX12_mostAlike_84 rfl enSH (h1 q1)
  · refine g_iconst (v := 0) dX12_mostAlike_11 (by decide) ?_
    refine g_istore (ls2 := [(5, .int (0 : Int32)), (0, .ref 535), (1, .int x1), (2, .int x2), (3, .int x3), (4, .int x4)]) dX12_mostAlike_12 (by decide) rfl ?_
    refine g_iconst (v := 0) dX12_mostAlike_14 (by decide) ?_
    refine g_istore (ls2 := [(6, .int (0 : Int32)), (5, .int (0 : Int32)), (0, .ref 535), (1, .int x1), (2, .int x2), (3, .int x3), (4, .int x4)]) dX12_mostAlike_15 (by decide) rfl ?_
    exact g_ls [2, 3, 4, 5, 6, 1, 0] rfl (h2 q1)
theorem bX12_mostAlike_17 {X : pX} {Q : Option Value → pMem → Prop} {m : pMem} {x1 : Int32} {x2 : Int32} {x3 : Int32} {x4 : Int32} {x5 : Int32} {x6 : Int32} (hW : Wf m)
    (h1 : x2 ≤ x6 → x5 ≤ x3 → Go X 0 mX12_mostAlike Q 5 [(0, .ref 535), (1, .int x1), (2, .int x2), (3, .int x3), (4, .int (x4 + (1 : Int32)))] [] m)
    (h2 : x2 ≤ x6 → ¬ (x5 ≤ x3) → Go X 0 mX12_mostAlike Q 5 [(0, .ref 535), (1, .int x1), (2, .int x2), (3, .int x5), (4, .int (x4 + (1 : Int32)))] [] m)
    (h3 : ¬ (x2 ≤ x6) → vp_in (((4 : Int32) * x6) + x1) 28)
    (h4 : ¬ (x2 ≤ x6) → vp_in (((4 : Int32) * x4) + x1) 28)
    (h5 : ¬ (x2 ≤ x6) → ¬ (mI m 569 ((((4 : Int32) * x6) + x1).toNatClampNeg)) = (mI m 569 ((((4 : Int32) * x4) + x1).toNatClampNeg)) → Go X 0 mX12_mostAlike Q 17 [(0, .ref 535), (1, .int x1), (2, .int x2), (3, .int x3), (4, .int x4), (5, .int (x5 + (0 : Int32))), (6, .int (x6 + (1 : Int32)))] [] m)
    (h6 : ¬ (x2 ≤ x6) → (mI m 569 ((((4 : Int32) * x6) + x1).toNatClampNeg)) = (mI m 569 ((((4 : Int32) * x4) + x1).toNatClampNeg)) → Go X 0 mX12_mostAlike Q 17 [(0, .ref 535), (1, .int x1), (2, .int x2), (3, .int x3), (4, .int x4), (5, .int (x5 + (1 : Int32))), (6, .int (x6 + (1 : Int32)))] [] m) :
    Go X 0 mX12_mostAlike Q 17 [(0, .ref 535), (1, .int x1), (2, .int x2), (3, .int x3), (4, .int x4), (5, .int x5), (6, .int x6)] [] m := by
  refine g_iload 6 dX12_mostAlike_17 rfl ?_
  refine g_iload_n 2 dX12_mostAlike_19 rfl rfl ?_
  refine g_icmp_ge 64 dX12_mostAlike_20 (by decide) (fun q1 => ?_) (fun q1 => ?_)
  · refine g_iload 5 dX12_mostAlike_64 rfl ?_
    refine g_iload_n 3 dX12_mostAlike_66 rfl rfl ?_
    refine g_icmp_le 75 dX12_mostAlike_67 (by decide) (fun q2 => ?_) (fun q2 => ?_)
    · refine g_iload_n 3 dX12_mostAlike_75 rfl rfl ?_
      refine g_istore_n (ls2 := [(3, .int x3), (0, .ref 535), (1, .int x1), (2, .int x2), (4, .int x4), (5, .int x5), (6, .int x6)]) dX12_mostAlike_76 rfl (by decide) rfl ?_
      refine g_iinc (v := x4 + (1 : Int32)) (ls2 := [(4, .int (x4 + (1 : Int32))), (3, .int x3), (0, .ref 535), (1, .int x1), (2, .int x2), (5, .int x5), (6, .int x6)]) 4 dX12_mostAlike_77 rfl rfl (by decide) rfl ?_
      refine g_goto 5 dX12_mostAlike_80 (by decide) ?_
      exact g_ls [2, 3, 4, 1, 0] rfl (h1 q1 q2)
    · refine g_iload 5 dX12_mostAlike_70 rfl ?_
      refine g_goto 76 dX12_mostAlike_72 (by decide) ?_
      refine g_istore_n (ls2 := [(3, .int x5), (0, .ref 535), (1, .int x1), (2, .int x2), (4, .int x4), (5, .int x5), (6, .int x6)]) dX12_mostAlike_76 rfl (by decide) rfl ?_
      refine g_iinc (v := x4 + (1 : Int32)) (ls2 := [(4, .int (x4 + (1 : Int32))), (3, .int x5), (0, .ref 535), (1, .int x1), (2, .int x2), (5, .int x5), (6, .int x6)]) 4 dX12_mostAlike_77 rfl rfl (by decide) rfl ?_
      refine g_goto 5 dX12_mostAlike_80 (by decide) ?_
      exact g_ls [2, 3, 4, 1, 0] rfl (h2 q1 q2)
  · refine g_iload 5 dX12_mostAlike_23 rfl ?_
    refine g_aload_n 0 dX12_mostAlike_25 rfl rfl ?_
    refine g_getR dX12_mostAlike_26 fl12_115 rfl sh535 (w12_51 hW sh535) ?_
    refine g_iconst (v := 4) dX12_mostAlike_29 (by decide) ?_
    refine g_iload 6 dX12_mostAlike_30 rfl ?_
    refine g_imul dX12_mostAlike_32 ?_
    refine g_iload_n 1 dX12_mostAlike_33 rfl rfl ?_
    refine g_iadd dX12_mostAlike_34 ?_
    refine g_iald (j := (((4 : Int32) * x6) + x1).toNatClampNeg) dX12_mostAlike_35 (s12_51 sh535) (h3 q1) rfl ?_
    refine g_aload_n 0 dX12_mostAlike_36 rfl rfl ?_
    refine g_getR dX12_mostAlike_37 fl12_115 rfl sh535 (w12_51 hW sh535) ?_
    refine g_iconst (v := 4) dX12_mostAlike_40 (by decide) ?_
    refine g_iload 4 dX12_mostAlike_41 rfl ?_
    refine g_imul dX12_mostAlike_43 ?_
    refine g_iload_n 1 dX12_mostAlike_44 rfl rfl ?_
    refine g_iadd dX12_mostAlike_45 ?_
    refine g_iald (j := (((4 : Int32) * x4) + x1).toNatClampNeg) dX12_mostAlike_46 (s12_51 sh535) (h4 q1) rfl ?_
    refine g_icmp_ne 54 dX12_mostAlike_47 (by decide) (fun q3 => ?_) (fun q3 => ?_)
    · refine g_iconst (v := 0) dX12_mostAlike_54 (by decide) ?_
      refine g_iadd dX12_mostAlike_55 ?_
      refine g_istore (ls2 := [(5, .int (x5 + (0 : Int32))), (0, .ref 535), (1, .int x1), (2, .int x2), (3, .int x3), (4, .int x4), (6, .int x6)]) dX12_mostAlike_56 (by decide) rfl ?_
      refine g_iinc (v := x6 + (1 : Int32)) (ls2 := [(6, .int (x6 + (1 : Int32))), (5, .int (x5 + (0 : Int32))), (0, .ref 535), (1, .int x1), (2, .int x2), (3, .int x3), (4, .int x4)]) 6 dX12_mostAlike_58 rfl rfl (by decide) rfl ?_
      refine g_goto 17 dX12_mostAlike_61 (by decide) ?_
      exact g_ls [2, 3, 4, 5, 6, 1, 0] rfl (h5 q1 q3)
    · refine g_iconst (v := 1) dX12_mostAlike_50 (by decide) ?_
      refine g_goto 55 dX12_mostAlike_51 (by decide) ?_
      refine g_iadd dX12_mostAlike_55 ?_
      refine g_istore (ls2 := [(5, .int (x5 + (1 : Int32))), (0, .ref 535), (1, .int x1), (2, .int x2), (3, .int x3), (4, .int x4), (6, .int x6)]) dX12_mostAlike_56 (by decide) rfl ?_
      refine g_iinc (v := x6 + (1 : Int32)) (ls2 := [(6, .int (x6 + (1 : Int32))), (5, .int (x5 + (1 : Int32))), (0, .ref 535), (1, .int x1), (2, .int x2), (3, .int x3), (4, .int x4)]) 6 dX12_mostAlike_58 rfl rfl (by decide) rfl ?_
      refine g_goto 17 dX12_mostAlike_61 (by decide) ?_
      exact g_ls [2, 3, 4, 5, 6, 1, 0] rfl (h6 q1 q3)
theorem bX12_seed_0 {X : pX} {Q : Option Value → pMem → Prop} {m : pMem} {x1 : Int32} (hW : Wf m)
    (h1 : 0 ≤ x1 → Q (some (.int (mI m 536 7))) (uI m 536 7 x1))
    (h2 : ¬ (0 ≤ x1) → Q (some (.int (-1 : Int32))) m) :
    Go X 0 mX12_seed Q 0 [(0, .ref 535), (1, .int x1)] [] m := by
  refine g_iload_n 1 dX12_seed_0 rfl rfl ?_
  refine g_if_ge 6 dX12_seed_1 (by decide) (fun q1 => ?_) (fun q1 => ?_)
  · refine g_aload_n 0 dX12_seed_6 rfl rfl ?_
    refine g_getR dX12_seed_7 fl12_9 rfl sh535 (w12_1 hW sh535) ?_
    refine g_bipush (v := 7) dX12_seed_10 (by decide) ?_
    refine g_iald (j := 7) dX12_seed_12 (s12_1 sh535) (by unfold vp_in; decide) (by decide) ?_
    refine g_istore_n (ls2 := [(2, .int (mI m 536 7)), (0, .ref 535), (1, .int x1)]) dX12_seed_13 rfl (by decide) rfl ?_
    refine g_aload_n 1 dX12_seed_14 rfl rfl ?_
    refine g_getR dX12_seed_15 fl12_9 rfl sh535 (w12_1 hW sh535) ?_
    refine g_bipush (v := 7) dX12_seed_18 (by decide) ?_
    refine g_iload_n 2 dX12_seed_20 rfl rfl ?_
    refine g_iast (j := 7) dX12_seed_21 (s12_1 sh535) (by unfold vp_in; decide) (by decide) ?_
    refine g_iload_n 0 dX12_seed_22 rfl rfl ?_
    exact g_iret dX12_seed_23 rfl enSH (h1 q1)
  · refine g_iconst (v := -1) dX12_seed_4 (by decide) ?_
    exact g_iret dX12_seed_5 rfl enSH (h2 q1)
theorem bX12_draws_0 {X : pX} {Q : Option Value → pMem → Prop} {m : pMem} {x1 : Int32} (hW : Wf m)
    (h1 : ¬ x1 = 0)
    (h2 : Q (some (.int ((((((((mI m 536 7).toInt64) * (1103515245 : Int64)) + (12345 : Int64)) - ((((mI m 536 7).toInt64) * (1103515245 : Int64)) + (12345 : Int64)) / (2147483648 : Int64) * (2147483648 : Int64)).toInt32) / (65536 : Int32)) - (((((((mI m 536 7).toInt64) * (1103515245 : Int64)) + (12345 : Int64)) - ((((mI m 536 7).toInt64) * (1103515245 : Int64)) + (12345 : Int64)) / (2147483648 : Int64) * (2147483648 : Int64)).toInt32) / (65536 : Int32)) / x1 * x1))) (uI m 536 7 ((((((mI m 536 7).toInt64) * (1103515245 : Int64)) + (12345 : Int64)) - ((((mI m 536 7).toInt64) * (1103515245 : Int64)) + (12345 : Int64)) / (2147483648 : Int64) * (2147483648 : Int64)).toInt32))) :
    Go X 0 mX12_draws Q 0 [(0, .ref 535), (1, .int x1)] [] m := by
  refine g_aload_n 0 dX12_draws_0 rfl rfl ?_
  refine g_getR dX12_draws_1 fl12_9 rfl sh535 (w12_1 hW sh535) ?_
  refine g_bipush (v := 7) dX12_draws_4 (by decide) ?_
  refine g_aload_n 0 dX12_draws_6 rfl rfl ?_
  refine g_getR dX12_draws_7 fl12_9 rfl sh535 (w12_1 hW sh535) ?_
  refine g_bipush (v := 7) dX12_draws_10 (by decide) ?_
  refine g_iald (j := 7) dX12_draws_12 (s12_1 sh535) (by unfold vp_in; decide) (by decide) ?_
  refine g_i2l dX12_draws_13 ?_
  refine g_ldc2 (v := 1103515245) dX12_draws_14 cjX12_469 ?_
  refine g_lmul dX12_draws_17 ?_
  refine g_ldc2 (v := 12345) dX12_draws_18 cjX12_471 ?_
  refine g_ladd dX12_draws_21 ?_
  refine g_ldc2 (v := 2147483648) dX12_draws_22 cjX12_473 ?_
  refine g_lrem dX12_draws_25 (by decide) ?_
  refine g_l2i dX12_draws_26 ?_
  refine g_iast (j := 7) dX12_draws_27 (s12_1 sh535) (by unfold vp_in; decide) (by decide) ?_
  refine g_aload_n 0 dX12_draws_28 rfl rfl ?_
  refine g_getR dX12_draws_29 fl12_9 rfl sh535 (w12_1 hW sh535) ?_
  refine g_bipush (v := 7) dX12_draws_32 (by decide) ?_
  refine g_iald (j := 7) dX12_draws_34 (s12_1 sh535) (by unfold vp_in; decide) (by decide) ?_
  refine g_ldcw (v := 65536) dX12_draws_35 ciX12_475 ?_
  refine g_idiv dX12_draws_38 (by decide) ?_
  refine g_iload_n 1 dX12_draws_39 rfl rfl ?_
  refine g_irem dX12_draws_40 h1 ?_
  exact g_iret dX12_draws_41 rfl enSH h2
theorem bX12_carryRow_0 {X : pX} {Q : Option Value → pMem → Prop} {m : pMem} {a1 n1 : Nat} (hW : Wf m) (c1 : SH[a1]? = some (.inr (.int, n1)))
    (h1 : Go X 0 mX12_carryRow Q 2 [(0, .ref 535), (1, .ref a1), (2, .int (0 : Int32))] [] m) :
    Go X 0 mX12_carryRow Q 0 [(0, .ref 535), (1, .ref a1)] [] m := by
  refine g_iconst (v := 0) dX12_carryRow_0 (by decide) ?_
  refine g_istore_n (ls2 := [(2, .int (0 : Int32)), (0, .ref 535), (1, .ref a1)]) dX12_carryRow_1 rfl (by decide) rfl ?_
  exact g_ls [1, 2, 0] rfl h1
theorem bX12_carryRow_2 {X : pX} {Q : Option Value → pMem → Prop} {m : pMem} {a1 n1 : Nat} {x2 : Int32} (hW : Wf m) (c1 : SH[a1]? = some (.inr (.int, n1)))
    (h1 : (Int32.ofNat n1) ≤ x2 → Q none m)
    (h2 : ¬ ((Int32.ofNat n1) ≤ x2) → (mI m 535 55) = 0 → vp_in x2 n1)
    (h3 : ¬ ((Int32.ofNat n1) ≤ x2) → (mI m 535 55) = 0 → vp_in (mI m 535 54) 2250)
    (h4 : ¬ ((Int32.ofNat n1) ≤ x2) → (mI m 535 55) = 0 → Go X 0 mX12_carryRow Q 2 [(0, .ref 535), (1, .ref a1), (2, .int (x2 + (1 : Int32)))] [] (uI (uI m 570 ((mI m 535 54).toNatClampNeg) (mI m a1 x2.toNatClampNeg)) 535 54 ((mI m 535 54) + (1 : Int32))))
    (h5 : ¬ ((Int32.ofNat n1) ≤ x2) → ¬ ((mI m 535 55) = 0) → vp_in (mI m 535 54) 2250)
    (h6 : ¬ ((Int32.ofNat n1) ≤ x2) → ¬ ((mI m 535 55) = 0) → vp_in x2 n1)
    (h7 : ¬ ((Int32.ofNat n1) ≤ x2) → ¬ ((mI m 535 55) = 0) → Go X 0 mX12_carryRow Q 2 [(0, .ref 535), (1, .ref a1), (2, .int (x2 + (1 : Int32)))] [] (uI (uI m a1 x2.toNatClampNeg (mI m 570 ((mI m 535 54).toNatClampNeg))) 535 54 ((mI (uI m a1 x2.toNatClampNeg (mI m 570 ((mI m 535 54).toNatClampNeg))) 535 54) + (1 : Int32)))) :
    Go X 0 mX12_carryRow Q 2 [(0, .ref 535), (1, .ref a1), (2, .int x2)] [] m := by
  refine g_iload_n 2 dX12_carryRow_2 rfl rfl ?_
  refine g_aload_n 1 dX12_carryRow_3 rfl rfl ?_
  refine g_alen (v := Int32.ofNat n1) dX12_carryRow_4 c1 (by decide) (by first | rfl | decide) ?_
  refine g_icmp_ge 58 dX12_carryRow_5 (by decide) (fun q1 => ?_) (fun q1 => ?_)
  · exact g_vret dX12_carryRow_58 rfl enSH (h1 q1)
  · refine g_aload_n 0 dX12_carryRow_8 rfl rfl ?_
    refine g_getZ dX12_carryRow_9 fl12_484 sh535 ?_
    refine g_if_eq 30 dX12_carryRow_12 (by decide) (fun q2 => ?_) (fun q2 => ?_)
    · refine g_aload_n 0 dX12_carryRow_30 rfl rfl ?_
      refine g_getR dX12_carryRow_31 fl12_118 rfl sh535 (w12_52 hW sh535) ?_
      refine g_aload_n 0 dX12_carryRow_34 rfl rfl ?_
      refine g_getI dX12_carryRow_35 fl12_487 sh535 ?_
      refine g_aload_n 1 dX12_carryRow_38 rfl rfl ?_
      refine g_iload_n 2 dX12_carryRow_39 rfl rfl ?_
      refine g_iald (j := x2.toNatClampNeg) dX12_carryRow_40 c1 (h2 q1 q2) rfl ?_
      refine g_iast (j := (mI m 535 54).toNatClampNeg) dX12_carryRow_41 (s12_52 sh535) (h3 q1 q2) rfl ?_
      refine g_aload_n 0 dX12_carryRow_42 rfl rfl ?_
      refine g_dup dX12_carryRow_43 rfl ?_
      refine g_getI dX12_carryRow_44 fl12_487 sh535 ?_
      refine g_iconst (v := 1) dX12_carryRow_47 (by decide) ?_
      refine g_iadd dX12_carryRow_48 ?_
      refine g_putI dX12_carryRow_49 fl12_487 (fun h => by cases h) sh535 ?_
      refine g_iinc (v := x2 + (1 : Int32)) (ls2 := [(2, .int (x2 + (1 : Int32))), (0, .ref 535), (1, .ref a1)]) 2 dX12_carryRow_52 rfl rfl (by decide) rfl ?_
      refine g_goto 2 dX12_carryRow_55 (by decide) ?_
      exact g_ls [1, 2, 0] rfl (h4 q1 q2)
    · refine g_aload_n 1 dX12_carryRow_15 rfl rfl ?_
      refine g_iload_n 2 dX12_carryRow_16 rfl rfl ?_
      refine g_aload_n 0 dX12_carryRow_17 rfl rfl ?_
      refine g_getR dX12_carryRow_18 fl12_118 rfl sh535 (w12_52 hW sh535) ?_
      refine g_aload_n 0 dX12_carryRow_21 rfl rfl ?_
      refine g_getI dX12_carryRow_22 fl12_487 sh535 ?_
      refine g_iald (j := (mI m 535 54).toNatClampNeg) dX12_carryRow_25 (s12_52 sh535) (h5 q1 q2) rfl ?_
      refine g_iast (j := x2.toNatClampNeg) dX12_carryRow_26 c1 (h6 q1 q2) rfl ?_
      refine g_goto 42 dX12_carryRow_27 (by decide) ?_
      refine g_aload_n 0 dX12_carryRow_42 rfl rfl ?_
      refine g_dup dX12_carryRow_43 rfl ?_
      refine g_getI dX12_carryRow_44 fl12_487 sh535 ?_
      refine g_iconst (v := 1) dX12_carryRow_47 (by decide) ?_
      refine g_iadd dX12_carryRow_48 ?_
      refine g_putI dX12_carryRow_49 fl12_487 (fun h => by cases h) sh535 ?_
      refine g_iinc (v := x2 + (1 : Int32)) (ls2 := [(2, .int (x2 + (1 : Int32))), (0, .ref 535), (1, .ref a1)]) 2 dX12_carryRow_52 rfl rfl (by decide) rfl ?_
      refine g_goto 2 dX12_carryRow_55 (by decide) ?_
      exact g_ls [1, 2, 0] rfl (h7 q1 q2)
theorem bJ6_bitCount_0f7a4_0 {X : pX} {Q : Option Value → pMem → Prop} {m : pMem} {x0 : Int32} (hW : Wf m)
    (h1 : Q (some (.int ((((((((x0 - (((x0.toUInt32 >>> ((1 : Int32).toUInt32 &&& Int32.toUInt32 31)).toInt32) &&& (1431655765 : Int32))) &&& (858993459 : Int32)) + ((((x0 - (((x0.toUInt32 >>> ((1 : Int32).toUInt32 &&& Int32.toUInt32 31)).toInt32) &&& (1431655765 : Int32))).toUInt32 >>> ((2 : Int32).toUInt32 &&& Int32.toUInt32 31)).toInt32) &&& (858993459 : Int32))) + (((((x0 - (((x0.toUInt32 >>> ((1 : Int32).toUInt32 &&& Int32.toUInt32 31)).toInt32) &&& (1431655765 : Int32))) &&& (858993459 : Int32)) + ((((x0 - (((x0.toUInt32 >>> ((1 : Int32).toUInt32 &&& Int32.toUInt32 31)).toInt32) &&& (1431655765 : Int32))).toUInt32 >>> ((2 : Int32).toUInt32 &&& Int32.toUInt32 31)).toInt32) &&& (858993459 : Int32))).toUInt32 >>> ((4 : Int32).toUInt32 &&& Int32.toUInt32 31)).toInt32)) &&& (252645135 : Int32)) + (((((((x0 - (((x0.toUInt32 >>> ((1 : Int32).toUInt32 &&& Int32.toUInt32 31)).toInt32) &&& (1431655765 : Int32))) &&& (858993459 : Int32)) + ((((x0 - (((x0.toUInt32 >>> ((1 : Int32).toUInt32 &&& Int32.toUInt32 31)).toInt32) &&& (1431655765 : Int32))).toUInt32 >>> ((2 : Int32).toUInt32 &&& Int32.toUInt32 31)).toInt32) &&& (858993459 : Int32))) + (((((x0 - (((x0.toUInt32 >>> ((1 : Int32).toUInt32 &&& Int32.toUInt32 31)).toInt32) &&& (1431655765 : Int32))) &&& (858993459 : Int32)) + ((((x0 - (((x0.toUInt32 >>> ((1 : Int32).toUInt32 &&& Int32.toUInt32 31)).toInt32) &&& (1431655765 : Int32))).toUInt32 >>> ((2 : Int32).toUInt32 &&& Int32.toUInt32 31)).toInt32) &&& (858993459 : Int32))).toUInt32 >>> ((4 : Int32).toUInt32 &&& Int32.toUInt32 31)).toInt32)) &&& (252645135 : Int32)).toUInt32 >>> ((8 : Int32).toUInt32 &&& Int32.toUInt32 31)).toInt32)) + ((((((((x0 - (((x0.toUInt32 >>> ((1 : Int32).toUInt32 &&& Int32.toUInt32 31)).toInt32) &&& (1431655765 : Int32))) &&& (858993459 : Int32)) + ((((x0 - (((x0.toUInt32 >>> ((1 : Int32).toUInt32 &&& Int32.toUInt32 31)).toInt32) &&& (1431655765 : Int32))).toUInt32 >>> ((2 : Int32).toUInt32 &&& Int32.toUInt32 31)).toInt32) &&& (858993459 : Int32))) + (((((x0 - (((x0.toUInt32 >>> ((1 : Int32).toUInt32 &&& Int32.toUInt32 31)).toInt32) &&& (1431655765 : Int32))) &&& (858993459 : Int32)) + ((((x0 - (((x0.toUInt32 >>> ((1 : Int32).toUInt32 &&& Int32.toUInt32 31)).toInt32) &&& (1431655765 : Int32))).toUInt32 >>> ((2 : Int32).toUInt32 &&& Int32.toUInt32 31)).toInt32) &&& (858993459 : Int32))).toUInt32 >>> ((4 : Int32).toUInt32 &&& Int32.toUInt32 31)).toInt32)) &&& (252645135 : Int32)) + (((((((x0 - (((x0.toUInt32 >>> ((1 : Int32).toUInt32 &&& Int32.toUInt32 31)).toInt32) &&& (1431655765 : Int32))) &&& (858993459 : Int32)) + ((((x0 - (((x0.toUInt32 >>> ((1 : Int32).toUInt32 &&& Int32.toUInt32 31)).toInt32) &&& (1431655765 : Int32))).toUInt32 >>> ((2 : Int32).toUInt32 &&& Int32.toUInt32 31)).toInt32) &&& (858993459 : Int32))) + (((((x0 - (((x0.toUInt32 >>> ((1 : Int32).toUInt32 &&& Int32.toUInt32 31)).toInt32) &&& (1431655765 : Int32))) &&& (858993459 : Int32)) + ((((x0 - (((x0.toUInt32 >>> ((1 : Int32).toUInt32 &&& Int32.toUInt32 31)).toInt32) &&& (1431655765 : Int32))).toUInt32 >>> ((2 : Int32).toUInt32 &&& Int32.toUInt32 31)).toInt32) &&& (858993459 : Int32))).toUInt32 >>> ((4 : Int32).toUInt32 &&& Int32.toUInt32 31)).toInt32)) &&& (252645135 : Int32)).toUInt32 >>> ((8 : Int32).toUInt32 &&& Int32.toUInt32 31)).toInt32)).toUInt32 >>> ((16 : Int32).toUInt32 &&& Int32.toUInt32 31)).toInt32)) &&& (63 : Int32)))) m) :
    Go X 0 mJ6_bitCount_0f7a4 Q 0 [(0, .int x0)] [] m := by
  refine g_iload_n 0 dJ6_bitCount_0f7a4_0 rfl rfl ?_
  refine g_iload_n 0 dJ6_bitCount_0f7a4_1 rfl rfl ?_
  refine g_iconst (v := 1) dJ6_bitCount_0f7a4_2 (by decide) ?_
  refine g_iushr dJ6_bitCount_0f7a4_3 ?_
  refine g_ldcw (v := 1431655765) dJ6_bitCount_0f7a4_4 ciJ6_265 ?_
  refine g_iand dJ6_bitCount_0f7a4_7 ?_
  refine g_isub dJ6_bitCount_0f7a4_8 ?_
  refine g_istore_n (ls2 := [(0, .int (x0 - (((x0.toUInt32 >>> ((1 : Int32).toUInt32 &&& Int32.toUInt32 31)).toInt32) &&& (1431655765 : Int32))))]) dJ6_bitCount_0f7a4_9 rfl (by decide) rfl ?_
  refine g_iload_n 0 dJ6_bitCount_0f7a4_10 rfl rfl ?_
  refine g_ldcw (v := 858993459) dJ6_bitCount_0f7a4_11 ciJ6_266 ?_
  refine g_iand dJ6_bitCount_0f7a4_14 ?_
  refine g_iload_n 0 dJ6_bitCount_0f7a4_15 rfl rfl ?_
  refine g_iconst (v := 2) dJ6_bitCount_0f7a4_16 (by decide) ?_
  refine g_iushr dJ6_bitCount_0f7a4_17 ?_
  refine g_ldcw (v := 858993459) dJ6_bitCount_0f7a4_18 ciJ6_266 ?_
  refine g_iand dJ6_bitCount_0f7a4_21 ?_
  refine g_iadd dJ6_bitCount_0f7a4_22 ?_
  refine g_istore_n (ls2 := [(0, .int (((x0 - (((x0.toUInt32 >>> ((1 : Int32).toUInt32 &&& Int32.toUInt32 31)).toInt32) &&& (1431655765 : Int32))) &&& (858993459 : Int32)) + ((((x0 - (((x0.toUInt32 >>> ((1 : Int32).toUInt32 &&& Int32.toUInt32 31)).toInt32) &&& (1431655765 : Int32))).toUInt32 >>> ((2 : Int32).toUInt32 &&& Int32.toUInt32 31)).toInt32) &&& (858993459 : Int32))))]) dJ6_bitCount_0f7a4_23 rfl (by decide) rfl ?_
  refine g_iload_n 0 dJ6_bitCount_0f7a4_24 rfl rfl ?_
  refine g_iload_n 0 dJ6_bitCount_0f7a4_25 rfl rfl ?_
  refine g_iconst (v := 4) dJ6_bitCount_0f7a4_26 (by decide) ?_
  refine g_iushr dJ6_bitCount_0f7a4_27 ?_
  refine g_iadd dJ6_bitCount_0f7a4_28 ?_
  refine g_ldcw (v := 252645135) dJ6_bitCount_0f7a4_29 ciJ6_267 ?_
  refine g_iand dJ6_bitCount_0f7a4_32 ?_
  refine g_istore_n (ls2 := [(0, .int (((((x0 - (((x0.toUInt32 >>> ((1 : Int32).toUInt32 &&& Int32.toUInt32 31)).toInt32) &&& (1431655765 : Int32))) &&& (858993459 : Int32)) + ((((x0 - (((x0.toUInt32 >>> ((1 : Int32).toUInt32 &&& Int32.toUInt32 31)).toInt32) &&& (1431655765 : Int32))).toUInt32 >>> ((2 : Int32).toUInt32 &&& Int32.toUInt32 31)).toInt32) &&& (858993459 : Int32))) + (((((x0 - (((x0.toUInt32 >>> ((1 : Int32).toUInt32 &&& Int32.toUInt32 31)).toInt32) &&& (1431655765 : Int32))) &&& (858993459 : Int32)) + ((((x0 - (((x0.toUInt32 >>> ((1 : Int32).toUInt32 &&& Int32.toUInt32 31)).toInt32) &&& (1431655765 : Int32))).toUInt32 >>> ((2 : Int32).toUInt32 &&& Int32.toUInt32 31)).toInt32) &&& (858993459 : Int32))).toUInt32 >>> ((4 : Int32).toUInt32 &&& Int32.toUInt32 31)).toInt32)) &&& (252645135 : Int32)))]) dJ6_bitCount_0f7a4_33 rfl (by decide) rfl ?_
  refine g_iload_n 0 dJ6_bitCount_0f7a4_34 rfl rfl ?_
  refine g_iload_n 0 dJ6_bitCount_0f7a4_35 rfl rfl ?_
  refine g_bipush (v := 8) dJ6_bitCount_0f7a4_36 (by decide) ?_
  refine g_iushr dJ6_bitCount_0f7a4_38 ?_
  refine g_iadd dJ6_bitCount_0f7a4_39 ?_
  refine g_istore_n (ls2 := [(0, .int ((((((x0 - (((x0.toUInt32 >>> ((1 : Int32).toUInt32 &&& Int32.toUInt32 31)).toInt32) &&& (1431655765 : Int32))) &&& (858993459 : Int32)) + ((((x0 - (((x0.toUInt32 >>> ((1 : Int32).toUInt32 &&& Int32.toUInt32 31)).toInt32) &&& (1431655765 : Int32))).toUInt32 >>> ((2 : Int32).toUInt32 &&& Int32.toUInt32 31)).toInt32) &&& (858993459 : Int32))) + (((((x0 - (((x0.toUInt32 >>> ((1 : Int32).toUInt32 &&& Int32.toUInt32 31)).toInt32) &&& (1431655765 : Int32))) &&& (858993459 : Int32)) + ((((x0 - (((x0.toUInt32 >>> ((1 : Int32).toUInt32 &&& Int32.toUInt32 31)).toInt32) &&& (1431655765 : Int32))).toUInt32 >>> ((2 : Int32).toUInt32 &&& Int32.toUInt32 31)).toInt32) &&& (858993459 : Int32))).toUInt32 >>> ((4 : Int32).toUInt32 &&& Int32.toUInt32 31)).toInt32)) &&& (252645135 : Int32)) + (((((((x0 - (((x0.toUInt32 >>> ((1 : Int32).toUInt32 &&& Int32.toUInt32 31)).toInt32) &&& (1431655765 : Int32))) &&& (858993459 : Int32)) + ((((x0 - (((x0.toUInt32 >>> ((1 : Int32).toUInt32 &&& Int32.toUInt32 31)).toInt32) &&& (1431655765 : Int32))).toUInt32 >>> ((2 : Int32).toUInt32 &&& Int32.toUInt32 31)).toInt32) &&& (858993459 : Int32))) + (((((x0 - (((x0.toUInt32 >>> ((1 : Int32).toUInt32 &&& Int32.toUInt32 31)).toInt32) &&& (1431655765 : Int32))) &&& (858993459 : Int32)) + ((((x0 - (((x0.toUInt32 >>> ((1 : Int32).toUInt32 &&& Int32.toUInt32 31)).toInt32) &&& (1431655765 : Int32))).toUInt32 >>> ((2 : Int32).toUInt32 &&& Int32.toUInt32 31)).toInt32) &&& (858993459 : Int32))).toUInt32 >>> ((4 : Int32).toUInt32 &&& Int32.toUInt32 31)).toInt32)) &&& (252645135 : Int32)).toUInt32 >>> ((8 : Int32).toUInt32 &&& Int32.toUInt32 31)).toInt32)))]) dJ6_bitCount_0f7a4_40 rfl (by decide) rfl ?_
  refine g_iload_n 0 dJ6_bitCount_0f7a4_41 rfl rfl ?_
  refine g_iload_n 0 dJ6_bitCount_0f7a4_42 rfl rfl ?_
  refine g_bipush (v := 16) dJ6_bitCount_0f7a4_43 (by decide) ?_
  refine g_iushr dJ6_bitCount_0f7a4_45 ?_
  refine g_iadd dJ6_bitCount_0f7a4_46 ?_
  refine g_istore_n (ls2 := [(0, .int (((((((x0 - (((x0.toUInt32 >>> ((1 : Int32).toUInt32 &&& Int32.toUInt32 31)).toInt32) &&& (1431655765 : Int32))) &&& (858993459 : Int32)) + ((((x0 - (((x0.toUInt32 >>> ((1 : Int32).toUInt32 &&& Int32.toUInt32 31)).toInt32) &&& (1431655765 : Int32))).toUInt32 >>> ((2 : Int32).toUInt32 &&& Int32.toUInt32 31)).toInt32) &&& (858993459 : Int32))) + (((((x0 - (((x0.toUInt32 >>> ((1 : Int32).toUInt32 &&& Int32.toUInt32 31)).toInt32) &&& (1431655765 : Int32))) &&& (858993459 : Int32)) + ((((x0 - (((x0.toUInt32 >>> ((1 : Int32).toUInt32 &&& Int32.toUInt32 31)).toInt32) &&& (1431655765 : Int32))).toUInt32 >>> ((2 : Int32).toUInt32 &&& Int32.toUInt32 31)).toInt32) &&& (858993459 : Int32))).toUInt32 >>> ((4 : Int32).toUInt32 &&& Int32.toUInt32 31)).toInt32)) &&& (252645135 : Int32)) + (((((((x0 - (((x0.toUInt32 >>> ((1 : Int32).toUInt32 &&& Int32.toUInt32 31)).toInt32) &&& (1431655765 : Int32))) &&& (858993459 : Int32)) + ((((x0 - (((x0.toUInt32 >>> ((1 : Int32).toUInt32 &&& Int32.toUInt32 31)).toInt32) &&& (1431655765 : Int32))).toUInt32 >>> ((2 : Int32).toUInt32 &&& Int32.toUInt32 31)).toInt32) &&& (858993459 : Int32))) + (((((x0 - (((x0.toUInt32 >>> ((1 : Int32).toUInt32 &&& Int32.toUInt32 31)).toInt32) &&& (1431655765 : Int32))) &&& (858993459 : Int32)) + ((((x0 - (((x0.toUInt32 >>> ((1 : Int32).toUInt32 &&& Int32.toUInt32 31)).toInt32) &&& (1431655765 : Int32))).toUInt32 >>> ((2 : Int32).toUInt32 &&& Int32.toUInt32 31)).toInt32) &&& (858993459 : Int32))).toUInt32 >>> ((4 : Int32).toUInt32 &&& Int32.toUInt32 31)).toInt32)) &&& (252645135 : Int32)).toUInt32 >>> ((8 : Int32).toUInt32 &&& Int32.toUInt32 31)).toInt32)) + ((((((((x0 - (((x0.toUInt32 >>> ((1 : Int32).toUInt32 &&& Int32.toUInt32 31)).toInt32) &&& (1431655765 : Int32))) &&& (858993459 : Int32)) + ((((x0 - (((x0.toUInt32 >>> ((1 : Int32).toUInt32 &&& Int32.toUInt32 31)).toInt32) &&& (1431655765 : Int32))).toUInt32 >>> ((2 : Int32).toUInt32 &&& Int32.toUInt32 31)).toInt32) &&& (858993459 : Int32))) + (((((x0 - (((x0.toUInt32 >>> ((1 : Int32).toUInt32 &&& Int32.toUInt32 31)).toInt32) &&& (1431655765 : Int32))) &&& (858993459 : Int32)) + ((((x0 - (((x0.toUInt32 >>> ((1 : Int32).toUInt32 &&& Int32.toUInt32 31)).toInt32) &&& (1431655765 : Int32))).toUInt32 >>> ((2 : Int32).toUInt32 &&& Int32.toUInt32 31)).toInt32) &&& (858993459 : Int32))).toUInt32 >>> ((4 : Int32).toUInt32 &&& Int32.toUInt32 31)).toInt32)) &&& (252645135 : Int32)) + (((((((x0 - (((x0.toUInt32 >>> ((1 : Int32).toUInt32 &&& Int32.toUInt32 31)).toInt32) &&& (1431655765 : Int32))) &&& (858993459 : Int32)) + ((((x0 - (((x0.toUInt32 >>> ((1 : Int32).toUInt32 &&& Int32.toUInt32 31)).toInt32) &&& (1431655765 : Int32))).toUInt32 >>> ((2 : Int32).toUInt32 &&& Int32.toUInt32 31)).toInt32) &&& (858993459 : Int32))) + (((((x0 - (((x0.toUInt32 >>> ((1 : Int32).toUInt32 &&& Int32.toUInt32 31)).toInt32) &&& (1431655765 : Int32))) &&& (858993459 : Int32)) + ((((x0 - (((x0.toUInt32 >>> ((1 : Int32).toUInt32 &&& Int32.toUInt32 31)).toInt32) &&& (1431655765 : Int32))).toUInt32 >>> ((2 : Int32).toUInt32 &&& Int32.toUInt32 31)).toInt32) &&& (858993459 : Int32))).toUInt32 >>> ((4 : Int32).toUInt32 &&& Int32.toUInt32 31)).toInt32)) &&& (252645135 : Int32)).toUInt32 >>> ((8 : Int32).toUInt32 &&& Int32.toUInt32 31)).toInt32)).toUInt32 >>> ((16 : Int32).toUInt32 &&& Int32.toUInt32 31)).toInt32)))]) dJ6_bitCount_0f7a4_47 rfl (by decide) rfl ?_
  refine g_iload_n 0 dJ6_bitCount_0f7a4_48 rfl rfl ?_
  refine g_bipush (v := 63) dJ6_bitCount_0f7a4_49 (by decide) ?_
  refine g_iand dJ6_bitCount_0f7a4_51 ?_
  exact g_iret dJ6_bitCount_0f7a4_52 rfl enSH h1
theorem bJ9_max_7cf53_0 {X : pX} {Q : Option Value → pMem → Prop} {m : pMem} {x0 : Int32} {x1 : Int32} (hW : Wf m)
    (h1 : x0 < x1 → Q (some (.int x1)) m)
    (h2 : ¬ (x0 < x1) → Q (some (.int x0)) m) :
    Go X 0 mJ9_max_7cf53 Q 0 [(0, .int x0), (1, .int x1)] [] m := by
  refine g_iload_n 0 dJ9_max_7cf53_0 rfl rfl ?_
  refine g_iload_n 1 dJ9_max_7cf53_1 rfl rfl ?_
  refine g_icmp_lt 9 dJ9_max_7cf53_2 (by decide) (fun q1 => ?_) (fun q1 => ?_)
  · refine g_iload_n 1 dJ9_max_7cf53_9 rfl rfl ?_
    exact g_iret dJ9_max_7cf53_10 rfl enSH (h1 q1)
  · refine g_iload_n 0 dJ9_max_7cf53_5 rfl rfl ?_
    refine g_goto 10 dJ9_max_7cf53_6 (by decide) ?_
    exact g_iret dJ9_max_7cf53_10 rfl enSH (h2 q1)
theorem bJ9_min_7cf53_0 {X : pX} {Q : Option Value → pMem → Prop} {m : pMem} {x0 : Int32} {x1 : Int32} (hW : Wf m)
    (h1 : x1 < x0 → Q (some (.int x1)) m)
    (h2 : ¬ (x1 < x0) → Q (some (.int x0)) m) :
    Go X 0 mJ9_min_7cf53 Q 0 [(0, .int x0), (1, .int x1)] [] m := by
  refine g_iload_n 0 dJ9_min_7cf53_0 rfl rfl ?_
  refine g_iload_n 1 dJ9_min_7cf53_1 rfl rfl ?_
  refine g_icmp_gt 9 dJ9_min_7cf53_2 (by decide) (fun q1 => ?_) (fun q1 => ?_)
  · refine g_iload_n 1 dJ9_min_7cf53_9 rfl rfl ?_
    exact g_iret dJ9_min_7cf53_10 rfl enSH (h1 q1)
  · refine g_iload_n 0 dJ9_min_7cf53_5 rfl rfl ?_
    refine g_goto 10 dJ9_min_7cf53_6 (by decide) ?_
    exact g_iret dJ9_min_7cf53_10 rfl enSH (h2 q1)
theorem bJ7_fill_53178_0 {X : pX} {Q : Option Value → pMem → Prop} {m : pMem} {a0 n0 : Nat} {x1 : Int32} (hW : Wf m) (c0 : SH[a0]? = some (.inr (.int, n0)))
    (h1 : Go X 0 mJ7_fill_53178 Q 5 [(0, .ref a0), (1, .int x1), (2, .int (0 : Int32)), (3, .int (Int32.ofNat n0))] [] m) :
    Go X 0 mJ7_fill_53178 Q 0 [(0, .ref a0), (1, .int x1)] [] m := by
  refine g_iconst (v := 0) dJ7_fill_53178_0 (by decide) ?_
  refine g_istore_n (ls2 := [(2, .int (0 : Int32)), (0, .ref a0), (1, .int x1)]) dJ7_fill_53178_1 rfl (by decide) rfl ?_
  refine g_aload_n 1 dJ7_fill_53178_2 rfl rfl ?_
  refine g_alen (v := Int32.ofNat n0) dJ7_fill_53178_3 c0 (by decide) (by first | rfl | decide) ?_
  refine g_istore_n (ls2 := [(3, .int (Int32.ofNat n0)), (2, .int (0 : Int32)), (0, .ref a0), (1, .int x1)]) dJ7_fill_53178_4 rfl (by decide) rfl ?_
  exact g_ls [2, 3, 1, 0] rfl h1
theorem bJ7_fill_53178_5 {X : pX} {Q : Option Value → pMem → Prop} {m : pMem} {a0 n0 : Nat} {x1 : Int32} {x2 : Int32} {x3 : Int32} (hW : Wf m) (c0 : SH[a0]? = some (.inr (.int, n0)))
    (h1 : x3 ≤ x2 → Q none m)
    (h2 : ¬ (x3 ≤ x2) → vp_in x2 n0)
    (h3 : ¬ (x3 ≤ x2) → Go X 0 mJ7_fill_53178 Q 5 [(0, .ref a0), (1, .int x1), (2, .int (x2 + (1 : Int32))), (3, .int x3)] [] (uI m a0 x2.toNatClampNeg x1)) :
    Go X 0 mJ7_fill_53178 Q 5 [(0, .ref a0), (1, .int x1), (2, .int x2), (3, .int x3)] [] m := by
  refine g_iload_n 2 dJ7_fill_53178_5 rfl rfl ?_
  refine g_iload_n 3 dJ7_fill_53178_6 rfl rfl ?_
  refine g_icmp_ge 20 dJ7_fill_53178_7 (by decide) (fun q1 => ?_) (fun q1 => ?_)
  · exact g_vret dJ7_fill_53178_20 rfl enSH (h1 q1)
  · refine g_aload_n 0 dJ7_fill_53178_10 rfl rfl ?_
    refine g_iload_n 2 dJ7_fill_53178_11 rfl rfl ?_
    refine g_iload_n 1 dJ7_fill_53178_12 rfl rfl ?_
    refine g_iast (j := x2.toNatClampNeg) dJ7_fill_53178_13 c0 (h2 q1) rfl ?_
    refine g_iinc (v := x2 + (1 : Int32)) (ls2 := [(2, .int (x2 + (1 : Int32))), (0, .ref a0), (1, .int x1), (3, .int x3)]) 2 dJ7_fill_53178_14 rfl rfl (by decide) rfl ?_
    refine g_goto 5 dJ7_fill_53178_17 (by decide) ?_
    exact g_ls [1, 2, 0, 3] rfl (h3 q1)
