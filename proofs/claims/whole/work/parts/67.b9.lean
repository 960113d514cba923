theorem bX12_movesRow_0 {X : pX} {Q : Option Value → pMem → Prop} {m : pMem} {a1 n1 : Nat} (hW : Wf m) (c1 : SH[a1]? = some (.inr (.int, n1)))
    (h1 : Go X 1 mX12_movesRow Q 2 [(0, .ref 535), (1, .ref a1), (2, .int (0 : Int32))] [] m) :
    Go X 1 mX12_movesRow Q 0 [(0, .ref 535), (1, .ref a1)] [] m := by
  refine g_iconst (v := 0) dX12_movesRow_0 (by decide) ?_
  refine g_istore_n (ls2 := [(2, .int (0 : Int32)), (0, .ref 535), (1, .ref a1)]) dX12_movesRow_1 rfl (by decide) rfl ?_
  exact g_ls [1, 2, 0] rfl h1
theorem bX12_movesRow_2 {X : pX} {Q : Option Value → pMem → Prop} {m : pMem} {a1 n1 : Nat} {x2 : Int32} (hW : Wf m) (c1 : SH[a1]? = some (.inr (.int, n1)))
    (h1 : (Int32.ofNat n1) ≤ x2 → Q none m)
    (h2 : ¬ ((Int32.ofNat n1) ≤ x2) → vp_in x2 n1)
    (h3 : ¬ ((Int32.ofNat n1) ≤ x2) → Cl X 0 mX12_moves [.ref 535, .int (mI m a1 x2.toNatClampNeg)] m (fun v m2 => Go X 1 mX12_movesRow Q 17 [(0, .ref 535), (1, .ref a1), (2, .int x2)] (v.toList ++ [.int x2, .ref a1]) m2)) :
    Go X 1 mX12_movesRow Q 2 [(0, .ref 535), (1, .ref a1), (2, .int x2)] [] m := by
  refine g_iload_n 2 dX12_movesRow_2 rfl rfl ?_
  refine g_aload_n 1 dX12_movesRow_3 rfl rfl ?_
  refine g_alen (v := Int32.ofNat n1) dX12_movesRow_4 c1 (by decide) (by first | rfl | decide) ?_
  refine g_icmp_ge 24 dX12_movesRow_5 (by decide) (fun q1 => ?_) (fun q1 => ?_)
  · exact g_vret dX12_movesRow_24 rfl enSH (h1 q1)
  · refine g_aload_n 1 dX12_movesRow_8 rfl rfl ?_
    refine g_iload_n 2 dX12_movesRow_9 rfl rfl ?_
    refine g_aload_n 0 dX12_movesRow_10 rfl rfl ?_
    refine g_aload_n 1 dX12_movesRow_11 rfl rfl ?_
    refine g_iload_n 2 dX12_movesRow_12 rfl rfl ?_
    refine g_iald (j := x2.toNatClampNeg) dX12_movesRow_13 c1 (h2 q1) rfl ?_
    exact g_callV (As := [.int (mI m a1 x2.toNatClampNeg)]) (st := [.int x2, .ref a1]) dX12_movesRow_14 clX12_378 sh535 rfl rfl (Nat.le_of_ble_eq_true rfl) (rmSH (by decide) (by decide)) (h3 q1)
theorem bX12_movesRow_17 {X : pX} {Q : Option Value → pMem → Prop} {m : pMem} {a1 n1 : Nat} {x2 : Int32} {xs0 : Int32} {xs1 : Int32} {as2 ns2 : Nat} (hW : Wf m) (c1 : SH[a1]? = some (.inr (.int, n1))) (cs2 : SH[as2]? = some (.inr (.int, ns2)))
    (h1 : vp_in xs1 ns2)
    (h2 : Go X 1 mX12_movesRow Q 2 [(0, .ref 535), (1, .ref a1), (2, .int (x2 + (1 : Int32)))] [] (uI m as2 xs1.toNatClampNeg xs0)) :
    Go X 1 mX12_movesRow Q 17 [(0, .ref 535), (1, .ref a1), (2, .int x2)] [.int xs0, .int xs1, .ref as2] m := by
  refine g_iast (j := xs1.toNatClampNeg) dX12_movesRow_17 cs2 h1 rfl ?_
  refine g_iinc (v := x2 + (1 : Int32)) (ls2 := [(2, .int (x2 + (1 : Int32))), (0, .ref 535), (1, .ref a1)]) 2 dX12_movesRow_18 rfl rfl (by decide) rfl ?_
  refine g_goto 2 dX12_movesRow_21 (by decide) ?_
  exact g_ls [1, 2, 0] rfl h2
