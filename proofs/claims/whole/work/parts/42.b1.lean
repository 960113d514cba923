theorem bX8_hadBy_0 {X : pX} {Q : Option Value → pMem → Prop} {m : pMem} {a0 : Nat} {x1 : Int32} (hW : Wf m) (c0 : SH[a0]? = some (.inl 8))
    (h1 : Q (some (.int (tAt (mI m (a0 + 3)) x1 6))) m) :
    Go X 1 mX8_hadBy Q 0 [(0, .ref a0), (1, .int x1)] [] m := by
  refine g_aload_n 0 dX8_hadBy_0 rfl rfl ?_
  refine g_iload_n 1 dX8_hadBy_1 rfl rfl ?_
  refine g_callV (As := [.int x1]) (st := []) dX8_hadBy_2 clX8_31 c0 rfl rfl (Nat.le_of_ble_eq_true rfl) (rmSH (by decide) (by decide)) (s_thingsAt hW c0 ?_)
  show Go X 1 mX8_hadBy Q 5 [(0, .ref a0), (1, .int x1)] [.int (tAt (mI m (a0 + 3)) x1 6)] m
  exact g_iret dX8_hadBy_5 rfl enSH h1
theorem bX8_manyOf_0 {X : pX} {Q : Option Value → pMem → Prop} {m : pMem} {a0 : Nat} {x1 : Int32} (hW : Wf m) (c0 : SH[a0]? = some (.inl 8))
    (h1 : sm64 (tAt (mI m (a0 + 3)) x1 6))
    (h2 : Q (some (.int (pcI (tAt (mI m (a0 + 3)) x1 6)))) m) :
    Go X 1 mX8_manyOf Q 0 [(0, .ref a0), (1, .int x1)] [] m := by
  refine g_aload_n 0 dX8_manyOf_0 rfl rfl ?_
  refine g_iload_n 1 dX8_manyOf_1 rfl rfl ?_
  refine g_callV (As := [.int x1]) (st := []) dX8_manyOf_2 clX8_31 c0 rfl rfl (Nat.le_of_ble_eq_true rfl) (rmSH (by decide) (by decide)) (s_thingsAt hW c0 ?_)
  show Go X 1 mX8_manyOf Q 5 [(0, .ref a0), (1, .int x1)] [.int (tAt (mI m (a0 + 3)) x1 6)] m
  refine g_callS (As := [.int (tAt (mI m (a0 + 3)) x1 6)]) (st := []) dX8_manyOf_5 clX8_35 rfl rfl (Nat.le_of_ble_eq_true rfl) (rmSH (by decide) (by decide)) (s_bitCount hW h1 ?_)
  show Go X 1 mX8_manyOf Q 8 [(0, .ref a0), (1, .int x1)] [.int (pcI (tAt (mI m (a0 + 3)) x1 6))] m
  exact g_iret dX8_manyOf_8 rfl enSH h2
theorem bX8_lyingBy_0 {X : pX} {Q : Option Value → pMem → Prop} {m : pMem} {a0 : Nat} {x1 : Int32} (hW : Wf m) (c0 : SH[a0]? = some (.inl 8))
    (h1 : vp_in x1 4)
    (h2 : Q (some (.int (tAt (mI m (a0 + 3)) ((10 : Int32) + (mI m (a0 + 1) x1.toNatClampNeg)) 6))) m) :
    Go X 1 mX8_lyingBy Q 0 [(0, .ref a0), (1, .int x1)] [] m := by
  refine g_aload_n 0 dX8_lyingBy_0 rfl rfl ?_
  refine g_bipush (v := 10) dX8_lyingBy_1 (by decide) ?_
  refine g_aload_n 0 dX8_lyingBy_3 rfl rfl ?_
  refine g_getR dX8_lyingBy_4 fl8_9 rfl c0 (w8_1 hW c0) ?_
  refine g_iload_n 1 dX8_lyingBy_7 rfl rfl ?_
  refine g_iald (j := x1.toNatClampNeg) dX8_lyingBy_8 (s8_1 c0) h1 rfl ?_
  refine g_iadd dX8_lyingBy_9 ?_
  refine g_callV (As := [.int ((10 : Int32) + (mI m (a0 + 1) x1.toNatClampNeg))]) (st := []) dX8_lyingBy_10 clX8_31 c0 rfl rfl (Nat.le_of_ble_eq_true rfl) (rmSH (by decide) (by decide)) (s_thingsAt hW c0 ?_)
  show Go X 1 mX8_lyingBy Q 13 [(0, .ref a0), (1, .int x1)] [.int (tAt (mI m (a0 + 3)) ((10 : Int32) + (mI m (a0 + 1) x1.toNatClampNeg)) 6)] m
  exact g_iret dX8_lyingBy_13 rfl enSH h2
