/-! ===== the three that a maker calls ===== -/
abbrev GoK (n : Nat) (X : pX) (d : Nat) (Y : pM) (Q : Option Value → pMem → Prop) (pc : Nat) (ls : List (Nat × Value)) (st : List Value) (m : pMem) : Prop := pGo X Y (prm d (SK n) (SK n)) (SK n).length (psl (SK n)) (pZ X (prm d (SK n) (SK n)) (SK n) Q) pc ls st (SK n) m
theorem fillK0 {n : Nat} {X : pX} {Q : Option Value → pMem → Prop} {m : pMem} {a0 n0 : Nat} {x1 : Int32} (c0 : (SK n)[a0]? = some (.inr (.int, n0)))
    (h1 : GoK n X 0 mJ7_fill_53178 Q 5 [(0, .ref a0), (1, .int x1), (2, .int (0 : Int32)), (3, .int (Int32.ofNat n0))] [] m) :
    GoK n X 0 mJ7_fill_53178 Q 0 [(0, .ref a0), (1, .int x1)] [] m := by
  refine g_iconst (v := 0) dJ7_fill_53178_0 (by decide) ?_
  refine g_istore_n (ls2 := [(2, .int (0 : Int32)), (0, .ref a0), (1, .int x1)]) dJ7_fill_53178_1 rfl (by decide) rfl ?_
  refine g_aload_n 1 dJ7_fill_53178_2 rfl rfl ?_
  refine g_alen (v := Int32.ofNat n0) dJ7_fill_53178_3 c0 (by decide) (by first | rfl | decide) ?_
  refine g_istore_n (ls2 := [(3, .int (Int32.ofNat n0)), (2, .int (0 : Int32)), (0, .ref a0), (1, .int x1)]) dJ7_fill_53178_4 rfl (by decide) rfl ?_
  exact g_ls [2, 3, 1, 0] rfl h1
theorem fillK5 {n : Nat} {X : pX} {Q : Option Value → pMem → Prop} {m : pMem} {a0 n0 : Nat} {x1 : Int32} {x2 : Int32} {x3 : Int32} (c0 : (SK n)[a0]? = some (.inr (.int, n0)))
    (h1 : x3 ≤ x2 → Q none m)
    (h2 : ¬ (x3 ≤ x2) → vp_in x2 n0)
    (h3 : ¬ (x3 ≤ x2) → GoK n X 0 mJ7_fill_53178 Q 5 [(0, .ref a0), (1, .int x1), (2, .int (x2 + (1 : Int32))), (3, .int x3)] [] (uI m a0 x2.toNatClampNeg x1)) :
    GoK n X 0 mJ7_fill_53178 Q 5 [(0, .ref a0), (1, .int x1), (2, .int x2), (3, .int x3)] [] m := by
  refine g_iload_n 2 dJ7_fill_53178_5 rfl rfl ?_
  refine g_iload_n 3 dJ7_fill_53178_6 rfl rfl ?_
  refine g_icmp_ge 20 dJ7_fill_53178_7 (by decide) (fun q1 => ?_) (fun q1 => ?_)
  · exact g_vret dJ7_fill_53178_20 rfl enK (h1 q1)
  · refine g_aload_n 0 dJ7_fill_53178_10 rfl rfl ?_
    refine g_iload_n 2 dJ7_fill_53178_11 rfl rfl ?_
    refine g_iload_n 1 dJ7_fill_53178_12 rfl rfl ?_
    refine g_iast (j := x2.toNatClampNeg) dJ7_fill_53178_13 c0 (h2 q1) rfl ?_
    refine g_iinc (v := x2 + (1 : Int32)) (ls2 := [(2, .int (x2 + (1 : Int32))), (0, .ref a0), (1, .int x1), (3, .int x3)]) 2 dJ7_fill_53178_14 rfl rfl (by decide) rfl ?_
    refine g_goto 5 dJ7_fill_53178_17 (by decide) ?_
    exact g_ls [1, 2, 0, 3] rfl (h3 q1)
theorem fillK {k : Nat} {X : pX} {Q : Option Value → pMem → Prop} {m : pMem} {a n : Nat} {v : Int32} (c : (SK k)[a]? = some (.inr (.int, n))) (hn : n < 2 ^ 31) (h : Q none (uF m a n v)) : pCl X mJ7_fill_53178 0 (SK k) (SK k) [.ref a, .int v] m Q := by
  refine pCl_of (by decide +kernel) (Nat.le_of_ble_eq_true rfl) rfl (fillK0 c ?_)
  have key := upTo (P := fun t => GoK k X 0 mJ7_fill_53178 Q 5 [(0, .ref a), (1, .int v), (2, .int (nI t)), (3, .int (nI n))] [] (uF m a t v)) n
    (fillK5 (m := uF m a n v) c (fun _ => h) (fun q => absurd (Int32.le_refl _) q) (fun q => absurd (Int32.le_refl _) q))
    (fun t ht ih => fillK5 (m := uF m a t v) c (fun q => absurd q (nI_ge ht hn)) (fun _ => vp_in_nI ht hn) (fun _ => by
      rw [nI_1, nI_clamp (by omega), uF_succ]; exact ih)) 0 (Nat.zero_le _)
  rw [uF_0] at key
  exact key
theorem clearK {n : Nat} {X : pX} {Q : Option Value → pMem → Prop} {m : pMem} {a : Nat} (hn : n ≤ 572) (c : SH[a]? = some (.inl 4)) (ha : a + 5 < n) (hr : mR m a 9 = some (a + 5)) (h : Q none (uF (uI (uI (uI (uI (uI m a 0 (0 : Int32)) a 1 (0 : Int32)) a 2 (0 : Int32)) a 3 (0 : Int32)) a 4 (0 : Int32)) (a + 5) 6 (-1))) : pCl X mX4_clear 1 (SK n) (SK n) [.ref a] m Q := by
  have c0 := SK_get (n := n) (by omega) c
  refine pCl_of (by decide +kernel) (Nat.le_of_ble_eq_true rfl) rfl ?_
  refine g_aload_n 0 dX4_clear_0 rfl rfl ?_
  refine g_iconst (v := 0) dX4_clear_1 (by decide) ?_
  refine g_putZ dX4_clear_2 fl4_27 (fun h => by cases h) c0 (Or.inl rfl) ?_
  refine g_aload_n 0 dX4_clear_5 rfl rfl ?_
  refine g_iconst (v := 0) dX4_clear_6 (by decide) ?_
  refine g_putI dX4_clear_7 fl4_31 (fun h => by cases h) c0 ?_
  refine g_aload_n 0 dX4_clear_10 rfl rfl ?_
  refine g_iconst (v := 0) dX4_clear_11 (by decide) ?_
  refine g_putI dX4_clear_12 fl4_35 (fun h => by cases h) c0 ?_
  refine g_aload_n 0 dX4_clear_15 rfl rfl ?_
  refine g_iconst (v := 0) dX4_clear_16 (by decide) ?_
  refine g_putI dX4_clear_17 fl4_38 (fun h => by cases h) c0 ?_
  refine g_aload_n 0 dX4_clear_20 rfl rfl ?_
  refine g_iconst (v := 0) dX4_clear_21 (by decide) ?_
  refine g_putI dX4_clear_22 fl4_41 (fun h => by cases h) c0 ?_
  refine g_aload_n 0 dX4_clear_25 rfl rfl ?_
  refine g_getR dX4_clear_26 fl4_24 rfl c0 hr ?_
  refine g_iconst (v := -1) dX4_clear_29 (by decide) ?_
  refine g_callS (As := [.ref (a + 5), .int (-1 : Int32)]) (st := []) dX4_clear_30 clX4_44 rfl rfl (Nat.le_of_ble_eq_true rfl) (rmK (by decide) (by decide) (Nat.le_refl _) (Nat.le_refl _) (Nat.le_refl _) hn) (fillK (SK_get (by omega) (s4_9 c)) (by decide) ?_)
  exact g_vret dX4_clear_33 rfl enK h
theorem beginK {n : Nat} {X : pX} {Q : Option Value → pMem → Prop} {m : pMem} {a b : Nat} (hn : n ≤ 572) (c : SH[a]? = some (.inl 4)) (cb : SH[b]? = some (.inl 8)) (ha : a + 5 < n) (hb : b + 3 < n) (hr : mR m a 9 = some (a + 5)) (h1 : mR m b 1 = some (b + 1)) (h2 : mR m b 2 = some (b + 2)) (h3 : mR m b 3 = some (b + 3)) (h : Q none (uC (uF (uF (uI m b 0 (0 : Int32)) (b + 1) 4 0) (b + 2) 4 0) (a + 5) 0 (b + 3) 0 6)) : pCl X mX4_begin 1 (SK n) (SK n) [.ref a, .ref b] m Q := by
  have c0 := SK_get (n := n) (by omega) c
  have c1 := SK_get (n := n) (by omega) cb
  refine pCl_of (by decide +kernel) (Nat.le_of_ble_eq_true rfl) rfl ?_
  refine g_aload_n 1 dX4_begin_0 rfl rfl ?_
  refine g_iconst (v := 0) dX4_begin_1 (by decide) ?_
  refine g_putI dX4_begin_2 fl4_56 (fun h => by cases h) c1 ?_
  refine g_aload_n 1 dX4_begin_5 rfl rfl ?_
  refine g_getR dX4_begin_6 fl4_61 rfl c1 h1 ?_
  refine g_iconst (v := 0) dX4_begin_9 (by decide) ?_
  refine g_callS (As := [.ref (b + 1), .int (0 : Int32)]) (st := []) dX4_begin_10 clX4_44 rfl rfl (Nat.le_of_ble_eq_true rfl) (rmK (by decide) (by decide) (Nat.le_refl _) (Nat.le_refl _) (Nat.le_refl _) hn) (fillK (SK_get (by omega) (s8_1 cb)) (by decide) ?_)
  refine g_aload_n 1 dX4_begin_13 rfl rfl ?_
  refine g_getR dX4_begin_14 fl4_64 rfl c1 h2 ?_
  refine g_iconst (v := 0) dX4_begin_17 (by decide) ?_
  refine g_callS (As := [.ref (b + 2), .int (0 : Int32)]) (st := []) dX4_begin_18 clX4_44 rfl rfl (Nat.le_of_ble_eq_true rfl) (rmK (by decide) (by decide) (Nat.le_refl _) (Nat.le_refl _) (Nat.le_refl _) hn) (fillK (SK_get (by omega) (s8_2 cb)) (by decide) ?_)
  refine g_aload_n 0 dX4_begin_21 rfl rfl ?_
  refine g_getR dX4_begin_22 fl4_24 rfl c0 hr ?_
  refine g_iconst (v := 0) dX4_begin_25 (by decide) ?_
  refine g_aload_n 1 dX4_begin_26 rfl rfl ?_
  refine g_getR dX4_begin_27 fl4_67 rfl c1 h3 ?_
  refine g_iconst (v := 0) dX4_begin_30 (by decide) ?_
  refine g_bipush (v := 6) dX4_begin_31 (by decide) ?_
  refine g_copyN (s1 := 0) (d1 := 0) (n1 := 6) dX4_begin_33 acwX4_50 (SK_get (by omega) (s4_9 c)) (SK_get (by omega) (s8_3 cb)) (by decide) (by decide) (by decide) (by decide) (by decide) (by decide) (Nat.le_of_ble_eq_true rfl) ⟨Nat.le_refl 1, Nat.le_refl 60⟩ ?_
  exact g_vret dX4_begin_36 rfl enK h
