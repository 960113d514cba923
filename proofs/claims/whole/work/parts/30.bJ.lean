theorem bJ6_bitCount_0f7a4_0 {X : pX} {Q : Option Value → pMem → Prop} {m : pMem} {x0 : Int32} (hW : Wf m)
    (h1 : Q (some (.int ((((((((x0 - (((x0.toUInt32 >>> ((1 : Int32).toUInt32 &&& Int32.toUInt32 31)).toInt32) &&& (1431655765 : Int32))) &&& (858993459 : Int32)) + ((((x0 - (((x0.toUInt32 >>> ((1 : Int32).toUInt32 &&& Int32.toUInt32 31)).toInt32) &&& (1431655765 : Int32))).toUInt32 >>> ((2 : Int32).toUInt32 &&& Int32.toUInt32 31)).toInt32) &&& (858993459 : Int32))) + (((((x0 - (((x0.toUInt32 >>> ((1 : Int32).toUInt32 &&& Int32.toUInt32 31)).toInt32) &&& (1431655765 : Int32))) &&& (858993459 : Int32)) + ((((x0 - (((x0.toUInt32 >>> ((1 : Int32).toUInt32 &&& Int32.toUInt32 31)).toInt32) &&& (1431655765 : Int32))).toUInt32 >>> ((2 : Int32).toUInt32 &&& Int32.toUInt32 31)).toInt32) &&& (858993459 : Int32))).toUInt32 >>> ((4 : Int32).toUInt32 &&& Int32.toUInt32 31)).toInt32)) &&& (252645135 : Int32)) + (((((((x0 - (((x0.toUInt32 >>> ((1 : Int32).toUInt32 &&& Int32.toUInt32 31)).toInt32) &&& (1431655765 : Int32))) &&& (858993459 : Int32)) + ((((x0 - (((x0.toUInt32 >>> ((1 : Int32).toUInt32 &&& Int32.toUInt32 31)).toInt32) &&& (1431655765 : Int32))).toUInt32 >>> ((2 : Int32).toUInt32 &&& Int32.toUInt32 31)).toInt32) &&& (858993459 : Int32))) + (((((x0 - (((x0.toUInt32 >>> ((1 : Int32).toUInt32 &&& Int32.toUInt32 31)).toInt32) &&& (1431655765 : Int32))) &&& (858993459 : Int32)) + ((((x0 - (((x0.toUInt32 >>> ((1 : Int32).toUInt32 &&& Int32.toUInt32 31)).toInt32) &&& (1431655765 : Int32))).toUInt32 >>> ((2 : Int32).toUInt32 &&& Int32.toUInt32 31)).toInt32) &&& (858993459 : Int32))).toUInt32 >>> ((4 : Int32).toUInt32 &&& Int32.toUInt32 31)).toInt32)) &&& (252645135 : Int32)).toUInt32 >>> ((8 : Int32).toUInt32 &&& Int32.toUInt32 31)).toInt32)) + ((((((((x0 - (((x0.toUInt32 >>> ((1 : Int32).toUInt32 &&& Int32.toUInt32 31)).toInt32) &&& (1431655765 : Int32))) &&& (858993459 : Int32)) + ((((x0 - (((x0.toUInt32 >>> ((1 : Int32).toUInt32 &&& Int32.toUInt32 31)).toInt32) &&& (1431655765 : Int32))).toUInt32 >>> ((2 : Int32).toUInt32 &&& Int32.toUInt32 31)).toInt32) &&& (858993459 : Int32))) + (((((x0 - (((x0.toUInt32 >>> ((1 : Int32).toUInt32 &&& Int32.toUInt32 31)).toInt32) &&& (1431655765 : Int32))) &&& (858993459 : Int32)) + ((((x0 - (((x0.toUInt32 >>> ((1 : Int32).toUInt32 &&& Int32.toUInt32 31)).toInt32) &&& (1431655765 : Int32))).toUInt32 >>> ((2 : Int32).toUInt32 &&& Int32.toUInt32 31)).toInt32) &&& (858993459 : Int32))).toUInt32 >>> ((4 : Int32).toUInt32 &&& Int32.toUInt32 31)).toInt32)) &&& (252645135 : Int32)) + (((((((x0 - (((x0.toUInt32 >>> ((1 : Int32).toUInt32 &&& Int32.toUInt32 31)).toInt32) &&& (1431655765 : Int32))) &&& (858993459 : Int32)) + ((((x0 - (((x0.toUInt32 >>> ((1 : Int32).toUInt32 &&& Int32.toUInt32 31)).toInt32) &&& (1431655765 : Int32))).toUInt32 >>> ((2 : Int32).toUInt32 &&& Int32.toUInt32 31)).toInt32) &&& (858993459 : Int32))) + (((((x0 - (((x0.toUInt32 >>> ((1 : Int32).toUInt32 &&& Int32.toUInt32 31)).toInt32) &&& (1431655765 : Int32))) &&& (858993459 : Int32)) + ((((x0 - (((x0.toUInt32 >>> ((1 : Int32).toUInt32 &&& Int32.toUInt32 31)).toInt32) &&& (1431655765 : Int32))).toUInt32 >>> ((2 : Int32).toUInt32 &&& Int32.toUInt32 31)).toInt32) &&& (858993459 : Int32))).toUInt32 >>> ((4 : Int32).toUInt32 &&& Int32.toUInt32 31)).toInt32)) &&& (252645135 : Int32)).toUInt32 >>> ((8 : Int32).toUInt32 &&& Int32.toUInt32 31)).toInt32)).toUInt32 >>> ((16 : Int32).toUInt32 &&& Int32.toUInt32 31)).toInt32)) &&& (63 : Int32)))) m) :
    Go X 0 mJ6_bitCount_0f7a4 Q 0 [(0, .int x0)] [] m := by
  refine g_iload_n 0 dJ6_bitCount_0f7a4_0 rfl rfl ?_
  refine g_iload_n 0 dJ6_bitCount_0f7a4_1 rfl rfl ?_
  refine g_iconst (v := 1) dJ6_bitCount_0f7a4_2 (by decide) ?_
  refine g_iushr dJ6_bitCount_0f7a4_3 ?_
  refine g_ldcw (v := 1431655765) dJ6_bitCount_0f7a4_4 ciJ6_265 ?_
  refine g_iand dJ6_bitCount_0f7a4_7 ?_
  refine g_isub dJ6_bitCount_0f7a4_8 ?_
  refine g_istore_n (ls2 := [(0, .int (x0 - (((x0.toUInt32 >>> ((1 : Int32).toUInt32 &&& Int32.toUInt32 31)).toInt32) &&& (1431655765 : Int32))))]) dJ6_bitCount_0f7a4_9 rfl (by decide) rfl ?_
  refine g_iload_n 0 dJ6_bitCount_0f7a4_10 rfl rfl ?_
  refine g_ldcw (v := 858993459) dJ6_bitCount_0f7a4_11 ciJ6_266 ?_
  refine g_iand dJ6_bitCount_0f7a4_14 ?_
  refine g_iload_n 0 dJ6_bitCount_0f7a4_15 rfl rfl ?_
  refine g_iconst (v := 2) dJ6_bitCount_0f7a4_16 (by decide) ?_
  refine g_iushr dJ6_bitCount_0f7a4_17 ?_
  refine g_ldcw (v := 858993459) dJ6_bitCount_0f7a4_18 ciJ6_266 ?_
  refine g_iand dJ6_bitCount_0f7a4_21 ?_
  refine g_iadd dJ6_bitCount_0f7a4_22 ?_
  refine g_istore_n (ls2 := [(0, .int (((x0 - (((x0.toUInt32 >>> ((1 : Int32).toUInt32 &&& Int32.toUInt32 31)).toInt32) &&& (1431655765 : Int32))) &&& (858993459 : Int32)) + ((((x0 - (((x0.toUInt32 >>> ((1 : Int32).toUInt32 &&& Int32.toUInt32 31)).toInt32) &&& (1431655765 : Int32))).toUInt32 >>> ((2 : Int32).toUInt32 &&& Int32.toUInt32 31)).toInt32) &&& (858993459 : Int32))))]) dJ6_bitCount_0f7a4_23 rfl (by decide) rfl ?_
  refine g_iload_n 0 dJ6_bitCount_0f7a4_24 rfl rfl ?_
  refine g_iload_n 0 dJ6_bitCount_0f7a4_25 rfl rfl ?_
  refine g_iconst (v := 4) dJ6_bitCount_0f7a4_26 (by decide) ?_
  refine g_iushr dJ6_bitCount_0f7a4_27 ?_
  refine g_iadd dJ6_bitCount_0f7a4_28 ?_
  refine g_ldcw (v := 252645135) dJ6_bitCount_0f7a4_29 ciJ6_267 ?_
  refine g_iand dJ6_bitCount_0f7a4_32 ?_
  refine g_istore_n (ls2 := [(0, .int (((((x0 - (((x0.toUInt32 >>> ((1 : Int32).toUInt32 &&& Int32.toUInt32 31)).toInt32) &&& (1431655765 : Int32))) &&& (858993459 : Int32)) + ((((x0 - (((x0.toUInt32 >>> ((1 : Int32).toUInt32 &&& Int32.toUInt32 31)).toInt32) &&& (1431655765 : Int32))).toUInt32 >>> ((2 : Int32).toUInt32 &&& Int32.toUInt32 31)).toInt32) &&& (858993459 : Int32))) + (((((x0 - (((x0.toUInt32 >>> ((1 : Int32).toUInt32 &&& Int32.toUInt32 31)).toInt32) &&& (1431655765 : Int32))) &&& (858993459 : Int32)) + ((((x0 - (((x0.toUInt32 >>> ((1 : Int32).toUInt32 &&& Int32.toUInt32 31)).toInt32) &&& (1431655765 : Int32))).toUInt32 >>> ((2 : Int32).toUInt32 &&& Int32.toUInt32 31)).toInt32) &&& (858993459 : Int32))).toUInt32 >>> ((4 : Int32).toUInt32 &&& Int32.toUInt32 31)).toInt32)) &&& (252645135 : Int32)))]) dJ6_bitCount_0f7a4_33 rfl (by decide) rfl ?_
  refine g_iload_n 0 dJ6_bitCount_0f7a4_34 rfl rfl ?_
  refine g_iload_n 0 dJ6_bitCount_0f7a4_35 rfl rfl ?_
  refine g_bipush (v := 8) dJ6_bitCount_0f7a4_36 (by decide) ?_
  refine g_iushr dJ6_bitCount_0f7a4_38 ?_
  refine g_iadd dJ6_bitCount_0f7a4_39 ?_
  refine g_istore_n (ls2 := [(0, .int ((((((x0 - (((x0.toUInt32 >>> ((1 : Int32).toUInt32 &&& Int32.toUInt32 31)).toInt32) &&& (1431655765 : Int32))) &&& (858993459 : Int32)) + ((((x0 - (((x0.toUInt32 >>> ((1 : Int32).toUInt32 &&& Int32.toUInt32 31)).toInt32) &&& (1431655765 : Int32))).toUInt32 >>> ((2 : Int32).toUInt32 &&& Int32.toUInt32 31)).toInt32) &&& (858993459 : Int32))) + (((((x0 - (((x0.toUInt32 >>> ((1 : Int32).toUInt32 &&& Int32.toUInt32 31)).toInt32) &&& (1431655765 : Int32))) &&& (858993459 : Int32)) + ((((x0 - (((x0.toUInt32 >>> ((1 : Int32).toUInt32 &&& Int32.toUInt32 31)).toInt32) &&& (1431655765 : Int32))).toUInt32 >>> ((2 : Int32).toUInt32 &&& Int32.toUInt32 31)).toInt32) &&& (858993459 : Int32))).toUInt32 >>> ((4 : Int32).toUInt32 &&& Int32.toUInt32 31)).toInt32)) &&& (252645135 : Int32)) + (((((((x0 - (((x0.toUInt32 >>> ((1 : Int32).toUInt32 &&& Int32.toUInt32 31)).toInt32) &&& (1431655765 : Int32))) &&& (858993459 : Int32)) + ((((x0 - (((x0.toUInt32 >>> ((1 : Int32).toUInt32 &&& Int32.toUInt32 31)).toInt32) &&& (1431655765 : Int32))).toUInt32 >>> ((2 : Int32).toUInt32 &&& Int32.toUInt32 31)).toInt32) &&& (858993459 : Int32))) + (((((x0 - (((x0.toUInt32 >>> ((1 : Int32).toUInt32 &&& Int32.toUInt32 31)).toInt32) &&& (1431655765 : Int32))) &&& (858993459 : Int32)) + ((((x0 - (((x0.toUInt32 >>> ((1 : Int32).toUInt32 &&& Int32.toUInt32 31)).toInt32) &&& (1431655765 : Int32))).toUInt32 >>> ((2 : Int32).toUInt32 &&& Int32.toUInt32 31)).toInt32) &&& (858993459 : Int32))).toUInt32 >>> ((4 : Int32).toUInt32 &&& Int32.toUInt32 31)).toInt32)) &&& (252645135 : Int32)).toUInt32 >>> ((8 : Int32).toUInt32 &&& Int32.toUInt32 31)).toInt32)))]) dJ6_bitCount_0f7a4_40 rfl (by decide) rfl ?_
  refine g_iload_n 0 dJ6_bitCount_0f7a4_41 rfl rfl ?_
  refine g_iload_n 0 dJ6_bitCount_0f7a4_42 rfl rfl ?_
  refine g_bipush (v := 16) dJ6_bitCount_0f7a4_43 (by decide) ?_
  refine g_iushr dJ6_bitCount_0f7a4_45 ?_
  refine g_iadd dJ6_bitCount_0f7a4_46 ?_
  refine g_istore_n (ls2 := [(0, .int (((((((x0 - (((x0.toUInt32 >>> ((1 : Int32).toUInt32 &&& Int32.toUInt32 31)).toInt32) &&& (1431655765 : Int32))) &&& (858993459 : Int32)) + ((((x0 - (((x0.toUInt32 >>> ((1 : Int32).toUInt32 &&& Int32.toUInt32 31)).toInt32) &&& (1431655765 : Int32))).toUInt32 >>> ((2 : Int32).toUInt32 &&& Int32.toUInt32 31)).toInt32) &&& (858993459 : Int32))) + (((((x0 - (((x0.toUInt32 >>> ((1 : Int32).toUInt32 &&& Int32.toUInt32 31)).toInt32) &&& (1431655765 : Int32))) &&& (858993459 : Int32)) + ((((x0 - (((x0.toUInt32 >>> ((1 : Int32).toUInt32 &&& Int32.toUInt32 31)).toInt32) &&& (1431655765 : Int32))).toUInt32 >>> ((2 : Int32).toUInt32 &&& Int32.toUInt32 31)).toInt32) &&& (858993459 : Int32))).toUInt32 >>> ((4 : Int32).toUInt32 &&& Int32.toUInt32 31)).toInt32)) &&& (252645135 : Int32)) + (((((((x0 - (((x0.toUInt32 >>> ((1 : Int32).toUInt32 &&& Int32.toUInt32 31)).toInt32) &&& (1431655765 : Int32))) &&& (858993459 : Int32)) + ((((x0 - (((x0.toUInt32 >>> ((1 : Int32).toUInt32 &&& Int32.toUInt32 31)).toInt32) &&& (1431655765 : Int32))).toUInt32 >>> ((2 : Int32).toUInt32 &&& Int32.toUInt32 31)).toInt32) &&& (858993459 : Int32))) + (((((x0 - (((x0.toUInt32 >>> ((1 : Int32).toUInt32 &&& Int32.toUInt32 31)).toInt32) &&& (1431655765 : Int32))) &&& (858993459 : Int32)) + ((((x0 - (((x0.toUInt32 >>> ((1 : Int32).toUInt32 &&& Int32.toUInt32 31)).toInt32) &&& (1431655765 : Int32))).toUInt32 >>> ((2 : Int32).toUInt32 &&& Int32.toUInt32 31)).toInt32) &&& (858993459 : Int32))).toUInt32 >>> ((4 : Int32).toUInt32 &&& Int32.toUInt32 31)).toInt32)) &&& (252645135 : Int32)).toUInt32 >>> ((8 : Int32).toUInt32 &&& Int32.toUInt32 31)).toInt32)) + ((((((((x0 - (((x0.toUInt32 >>> ((1 : Int32).toUInt32 &&& Int32.toUInt32 31)).toInt32) &&& (1431655765 : Int32))) &&& (858993459 : Int32)) + ((((x0 - (((x0.toUInt32 >>> ((1 : Int32).toUInt32 &&& Int32.toUInt32 31)).toInt32) &&& (1431655765 : Int32))).toUInt32 >>> ((2 : Int32).toUInt32 &&& Int32.toUInt32 31)).toInt32) &&& (858993459 : Int32))) + (((((x0 - (((x0.toUInt32 >>> ((1 : Int32).toUInt32 &&& Int32.toUInt32 31)).toInt32) &&& (1431655765 : Int32))) &&& (858993459 : Int32)) + ((((x0 - (((x0.toUInt32 >>> ((1 : Int32).toUInt32 &&& Int32.toUInt32 31)).toInt32) &&& (1431655765 : Int32))).toUInt32 >>> ((2 : Int32).toUInt32 &&& Int32.toUInt32 31)).toInt32) &&& (858993459 : Int32))).toUInt32 >>> ((4 : Int32).toUInt32 &&& Int32.toUInt32 31)).toInt32)) &&& (252645135 : Int32)) + (((((((x0 - (((x0.toUInt32 >>> ((1 : Int32).toUInt32 &&& Int32.toUInt32 31)).toInt32) &&& (1431655765 : Int32))) &&& (858993459 : Int32)) + ((((x0 - (((x0.toUInt32 >>> ((1 : Int32).toUInt32 &&& Int32.toUInt32 31)).toInt32) &&& (1431655765 : Int32))).toUInt32 >>> ((2 : Int32).toUInt32 &&& Int32.toUInt32 31)).toInt32) &&& (858993459 : Int32))) + (((((x0 - (((x0.toUInt32 >>> ((1 : Int32).toUInt32 &&& Int32.toUInt32 31)).toInt32) &&& (1431655765 : Int32))) &&& (858993459 : Int32)) + ((((x0 - (((x0.toUInt32 >>> ((1 : Int32).toUInt32 &&& Int32.toUInt32 31)).toInt32) &&& (1431655765 : Int32))).toUInt32 >>> ((2 : Int32).toUInt32 &&& Int32.toUInt32 31)).toInt32) &&& (858993459 : Int32))).toUInt32 >>> ((4 : Int32).toUInt32 &&& Int32.toUInt32 31)).toInt32)) &&& (252645135 : Int32)).toUInt32 >>> ((8 : Int32).toUInt32 &&& Int32.toUInt32 31)).toInt32)).toUInt32 >>> ((16 : Int32).toUInt32 &&& Int32.toUInt32 31)).toInt32)))]) dJ6_bitCount_0f7a4_47 rfl (by decide) rfl ?_
  refine g_iload_n 0 dJ6_bitCount_0f7a4_48 rfl rfl ?_
  refine g_bipush (v := 63) dJ6_bitCount_0f7a4_49 (by decide) ?_
  refine g_iand dJ6_bitCount_0f7a4_51 ?_
  exact g_iret dJ6_bitCount_0f7a4_52 rfl enSH h1
theorem bJ9_max_7cf53_0 {X : pX} {Q : Option Value → pMem → Prop} {m : pMem} {x0 : Int32} {x1 : Int32} (hW : Wf m)
    (h1 : x0 < x1 → Q (some (.int x1)) m)
    (h2 : ¬ (x0 < x1) → Q (some (.int x0)) m) :
    Go X 0 mJ9_max_7cf53 Q 0 [(0, .int x0), (1, .int x1)] [] m := by
  refine g_iload_n 0 dJ9_max_7cf53_0 rfl rfl ?_
  refine g_iload_n 1 dJ9_max_7cf53_1 rfl rfl ?_
  refine g_icmp_lt 9 dJ9_max_7cf53_2 (by decide) (fun q1 => ?_) (fun q1 => ?_)
  · refine g_iload_n 1 dJ9_max_7cf53_9 rfl rfl ?_
    exact g_iret dJ9_max_7cf53_10 rfl enSH (h1 q1)
  · refine g_iload_n 0 dJ9_max_7cf53_5 rfl rfl ?_
    refine g_goto 10 dJ9_max_7cf53_6 (by decide) ?_
    exact g_iret dJ9_max_7cf53_10 rfl enSH (h2 q1)
theorem bJ9_min_7cf53_0 {X : pX} {Q : Option Value → pMem → Prop} {m : pMem} {x0 : Int32} {x1 : Int32} (hW : Wf m)
    (h1 : x1 < x0 → Q (some (.int x1)) m)
    (h2 : ¬ (x1 < x0) → Q (some (.int x0)) m) :
    Go X 0 mJ9_min_7cf53 Q 0 [(0, .int x0), (1, .int x1)] [] m := by
  refine g_iload_n 0 dJ9_min_7cf53_0 rfl rfl ?_
  refine g_iload_n 1 dJ9_min_7cf53_1 rfl rfl ?_
  refine g_icmp_gt 9 dJ9_min_7cf53_2 (by decide) (fun q1 => ?_) (fun q1 => ?_)
  · refine g_iload_n 1 dJ9_min_7cf53_9 rfl rfl ?_
    exact g_iret dJ9_min_7cf53_10 rfl enSH (h1 q1)
  · refine g_iload_n 0 dJ9_min_7cf53_5 rfl rfl ?_
    refine g_goto 10 dJ9_min_7cf53_6 (by decide) ?_
    exact g_iret dJ9_min_7cf53_10 rfl enSH (h2 q1)
theorem bJ7_fill_53178_0 {X : pX} {Q : Option Value → pMem → Prop} {m : pMem} {a0 n0 : Nat} {x1 : Int32} (hW : Wf m) (c0 : SH[a0]? = some (.inr (.int, n0)))
    (h1 : Go X 0 mJ7_fill_53178 Q 5 [(0, .ref a0), (1, .int x1), (2, .int (0 : Int32)), (3, .int (Int32.ofNat n0))] [] m) :
    Go X 0 mJ7_fill_53178 Q 0 [(0, .ref a0), (1, .int x1)] [] m := by
  refine g_iconst (v := 0) dJ7_fill_53178_0 (by decide) ?_
  refine g_istore_n (ls2 := [(2, .int (0 : Int32)), (0, .ref a0), (1, .int x1)]) dJ7_fill_53178_1 rfl (by decide) rfl ?_
  refine g_aload_n 1 dJ7_fill_53178_2 rfl rfl ?_
  refine g_alen (v := Int32.ofNat n0) dJ7_fill_53178_3 c0 (by decide) (by first | rfl | decide) ?_
  refine g_istore_n (ls2 := [(3, .int (Int32.ofNat n0)), (2, .int (0 : Int32)), (0, .ref a0), (1, .int x1)]) dJ7_fill_53178_4 rfl (by decide) rfl ?_
  exact g_ls [2, 3, 1, 0] rfl h1
theorem bJ7_fill_53178_5 {X : pX} {Q : Option Value → pMem → Prop} {m : pMem} {a0 n0 : Nat} {x1 : Int32} {x2 : Int32} {x3 : Int32} (hW : Wf m) (c0 : SH[a0]? = some (.inr (.int, n0)))
    (h1 : x3 ≤ x2 → Q none m)
    (h2 : ¬ (x3 ≤ x2) → vp_in x2 n0)
    (h3 : ¬ (x3 ≤ x2) → Go X 0 mJ7_fill_53178 Q 5 [(0, .ref a0), (1, .int x1), (2, .int (x2 + (1 : Int32))), (3, .int x3)] [] (uI m a0 x2.toNatClampNeg x1)) :
    Go X 0 mJ7_fill_53178 Q 5 [(0, .ref a0), (1, .int x1), (2, .int x2), (3, .int x3)] [] m := by
  refine g_iload_n 2 dJ7_fill_53178_5 rfl rfl ?_
  refine g_iload_n 3 dJ7_fill_53178_6 rfl rfl ?_
  refine g_icmp_ge 20 dJ7_fill_53178_7 (by decide) (fun q1 => ?_) (fun q1 => ?_)
  · exact g_vret dJ7_fill_53178_20 rfl enSH (h1 q1)
  · refine g_aload_n 0 dJ7_fill_53178_10 rfl rfl ?_
    refine g_iload_n 2 dJ7_fill_53178_11 rfl rfl ?_
    refine g_iload_n 1 dJ7_fill_53178_12 rfl rfl ?_
    refine g_iast (j := x2.toNatClampNeg) dJ7_fill_53178_13 c0 (h2 q1) rfl ?_
    refine g_iinc (v := x2 + (1 : Int32)) (ls2 := [(2, .int (x2 + (1 : Int32))), (0, .ref a0), (1, .int x1), (3, .int x3)]) 2 dJ7_fill_53178_14 rfl rfl (by decide) rfl ?_
    refine g_goto 5 dJ7_fill_53178_17 (by decide) ?_
    exact g_ls [1, 2, 0, 3] rfl (h3 q1)
