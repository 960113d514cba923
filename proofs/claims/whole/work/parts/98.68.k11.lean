def m0 : pMem := (fun _ _ => 0, fun _ _ => 0, fun _ _ => none)
theorem Zr_m0 (n : Nat) : Zr m0 n := fun _ _ _ => ⟨rfl, rfl, rfl⟩
def m11 : pMem := uR (uM (uR (uR (uR (uR (uR (uR (uR (uR (uR (uR (uR (uM (uR (uR (uR (uR (uR (uR (uR (uR (uR (mW (uR (mW (uR (mW (uR (mW (uR (uR (mW (uR (uR (uR (uR (uR (uR (uR (uR (uR (uR (uR (uR (uR (uR (uR (uR (uR (uR (uR (uR (uR (uR (uR (uR (uR (uR (uR (uR (uR (uR (uR m0 1 0 (some 2)) 0 0 (some 1)) 4 5 (some 5)) 4 6 (some 6)) 4 7 (some 7)) 4 8 (some 8)) 4 9 (some 9)) 3 1 (some 4)) 3 0 (some 1)) 0 1 (some 3)) 10 0 (some 1)) 0 2 (some 10)) 0 3 (some 11)) 12 0 (some 13)) 12 1 (some 14)) 11 0 (some 12)) 15 0 (some 16)) 15 1 (some 17)) 11 1 (some 15)) 18 0 (some 19)) 18 1 (some 20)) 11 2 (some 18)) 21 0 (some 22)) 21 1 (some 23)) 11 3 (some 21)) 24 0 (some 25)) 24 1 (some 26)) 11 4 (some 24)) 27 0 (some 28)) 27 1 (some 29)) 11 5 (some 27)) 30) 0 5 (some 30)) 0 6 (some 126)) 127) 126 0 (some 127)) 223) 126 1 (some 223)) 319) 126 2 (some 319)) 415) 126 3 (some 415)) 0 7 (some 511)) 512 1 (some 513)) 512 0 (some 31)) 0 8 (some 512)) 514 0 (some 31)) 514 1 (some 37)) 0 9 (some 514)) 515 2 (some 516)) 517 2) 515 3 (some 517)) 515 4 (some 520)) 515 5 (some 521)) 515 7 (some 522)) 515 0 (some 31)) 515 1 (some 37)) 0 10 (some 515)) 523 1 (some 524)) 523 2 (some 525)) 523 3 (some 526)) 0 11 (some 523)) 527 7) 0 12 (some 527)
theorem kX11_init {X : pX} {Q : Option Value → pMem → Prop} (h : Q none m11) : pCl X mX11_init 4 (SK 1) (SK 535) [.ref 0] m0 Q := by
  refine pCl_of (by decide +kernel) (Nat.le_of_ble_eq_true rfl) rfl ?_
  refine g_aload_n 0 dX11_init_0 rfl rfl ?_
  refine g_objInit dX11_init_1 oiX11_1 (Nat.le_of_ble_eq_true rfl) ⟨Nat.le_of_ble_eq_true rfl, Nat.le_of_ble_eq_true rfl⟩ ?_
  refine g_aload_n 0 dX11_init_4 rfl rfl ?_
  refine K_new (KR_f (by omega) (by omega) (by omega)) hk1 (Zr_m0 1) dX11_init_5 pCk9 nwX11_7 ?_
  refine g_dup dX11_init_8 rfl ?_
  refine g_callI (As := []) (a := 1) (st := [.ref 1, .ref 0]) dX11_init_9 clX11_9 rfl rfl (Nat.le_of_ble_eq_true rfl) (rmK (by decide) (by decide) (by omega) (by omega) (by omega) (by omega)) (kX9_init (a := 1) hk1 (Zr_up (Zr_m0 1) (by omega)) (by omega) ?_)
  have z1 := Zr_uR (n := 3) (a := 1) (k := 0) (v := some 2) (Zr_up (Zr_m0 1) (by omega)) (by omega)
  refine g_putR dX11_init_12 fl11_10 rfl (fun _ => ⟨rfl, fun C T N h => by cases h; rfl⟩) (SK_get (by omega) hk0) ?_
  have z2 := Zr_uR (n := 3) (a := 0) (k := 0) (v := some 1) z1 (by omega)
  refine g_aload_n 0 dX11_init_15 rfl rfl ?_
  refine K_new (KR_f (by omega) (by omega) (by omega)) hk3 z2 dX11_init_16 pCk5 nwX11_16 ?_
  refine g_dup dX11_init_19 rfl ?_
  refine g_aload_n 0 dX11_init_20 rfl rfl ?_
  refine g_getR (r := 1) dX11_init_21 fl11_10 rfl (SK_get (by omega) hk0) (by decide +kernel) ?_
  refine g_callI (As := [.ref 1]) (a := 3) (st := [.ref 3, .ref 0]) dX11_init_24 clX11_18 rfl rfl (Nat.le_of_ble_eq_true rfl) (rmK (by decide) (by decide) (by omega) (by omega) (by omega) (by omega)) (kX5_init (a := 3) hk3 (Zr_up z2 (by omega)) (by omega) ?_)
  have z3 := Zr_uR (n := 10) (a := 4) (k := 5) (v := some 5) (Zr_up z2 (by omega)) (by omega)
  have z4 := Zr_uR (n := 10) (a := 4) (k := 6) (v := some 6) z3 (by omega)
  have z5 := Zr_uR (n := 10) (a := 4) (k := 7) (v := some 7) z4 (by omega)
  have z6 := Zr_uR (n := 10) (a := 4) (k := 8) (v := some 8) z5 (by omega)
  have z7 := Zr_uR (n := 10) (a := 4) (k := 9) (v := some 9) z6 (by omega)
  have z8 := Zr_uR (n := 10) (a := 3) (k := 1) (v := some 4) z7 (by omega)
  have z9 := Zr_uR (n := 10) (a := 3) (k := 0) (v := some 1) z8 (by omega)
  refine g_putR dX11_init_27 fl11_21 rfl (fun _ => ⟨rfl, fun C T N h => by cases h; rfl⟩) (SK_get (by omega) hk0) ?_
  have z10 := Zr_uR (n := 10) (a := 0) (k := 1) (v := some 3) z9 (by omega)
  refine g_aload_n 0 dX11_init_30 rfl rfl ?_
  refine K_new (KR_f (by omega) (by omega) (by omega)) hk10 z10 dX11_init_31 pCk7 nwX11_25 ?_
  refine g_dup dX11_init_34 rfl ?_
  refine g_aload_n 0 dX11_init_35 rfl rfl ?_
  refine g_getR (r := 1) dX11_init_36 fl11_10 rfl (SK_get (by omega) hk0) (by decide +kernel) ?_
  refine g_callI (As := [.ref 1]) (a := 10) (st := [.ref 10, .ref 0]) dX11_init_39 clX11_27 rfl rfl (Nat.le_of_ble_eq_true rfl) (rmK (by decide) (by decide) (by omega) (by omega) (by omega) (by omega)) (kX7_init (a := 10) hk10 (Zr_up z10 (by omega)) (by omega) ?_)
  have z11 := Zr_uR (n := 11) (a := 10) (k := 0) (v := some 1) (Zr_up z10 (by omega)) (by omega)
  refine g_putR dX11_init_42 fl11_28 rfl (fun _ => ⟨rfl, fun C T N h => by cases h; rfl⟩) (SK_get (by omega) hk0) ?_
  have z12 := Zr_uR (n := 11) (a := 0) (k := 2) (v := some 10) z11 (by omega)
  refine g_aload_n 0 dX11_init_45 rfl rfl ?_
  refine g_bipush (v := 6) dX11_init_46 (by decide) ?_
  refine K_newq (KR_f (by omega) (by omega) (by omega)) hk11 z12 dX11_init_48 (by decide) nqX11_32 (fun _ h => h.2.1) (by decide) (by decide) (by decide) ?_
  refine g_putR dX11_init_51 fl11_34 rfl (fun _ => ⟨rfl, fun C T N h => by cases h; rfl⟩) (SK_get (by omega) hk0) ?_
  have z13 := Zr_uR (n := 12) (a := 0) (k := 3) (v := some 11) (Zr_up z12 (by omega)) (by omega)
  refine g_iconst (v := 0) dX11_init_54 (by decide) ?_
  refine g_istore_n (ls2 := [(1, .int (0 : Int32)), (0, .ref 0)]) dX11_init_55 rfl (by decide) rfl ?_
  refine g_iload_n 0 dX11_init_56 rfl rfl ?_
  refine g_bipush (v := 6) dX11_init_57 (by decide) ?_
  refine g_icmp_ge 81 dX11_init_59 (by decide) (fun q => absurd q (by decide)) (fun _ => ?_)
  refine g_aload_n 1 dX11_init_62 rfl rfl ?_
  refine g_getR (r := 11) dX11_init_63 fl11_34 rfl (SK_get (by omega) hk0) (by decide +kernel) ?_
  refine g_iload_n 0 dX11_init_66 rfl rfl ?_
  refine K_new (KR_f (by omega) (by omega) (by omega)) hk12 z13 dX11_init_67 pCk6 nwX11_32 ?_
  refine g_dup dX11_init_70 rfl ?_
  refine g_callI (As := []) (a := 12) (st := [.ref 12, .int (0 : Int32), .ref 11]) dX11_init_71 clX11_38 rfl rfl (Nat.le_of_ble_eq_true rfl) (rmK (by decide) (by decide) (by omega) (by omega) (by omega) (by omega)) (kX6_init (a := 12) hk12 (Zr_up z13 (by omega)) (by omega) ?_)
  have z14 := Zr_uR (n := 15) (a := 12) (k := 0) (v := some 13) (Zr_up z13 (by omega)) (by omega)
  have z15 := Zr_uR (n := 15) (a := 12) (k := 1) (v := some 14) z14 (by omega)
  refine g_aast (j := 0) dX11_init_74 (SK_get (by omega) hk11) (by decide) pCk6 (SK_get (by omega) hk12) (by unfold vp_in; decide) (by decide) ?_
  have z16 := Zr_uR (n := 15) (a := 11) (k := 0) (v := some 12) z15 (by omega)
  refine g_iinc (v := (1 : Int32)) (ls2 := [(1, .int (1 : Int32)), (0, .ref 0)]) 0 dX11_init_75 rfl (by decide) (by decide) rfl ?_
  refine g_goto 56 dX11_init_78 (by decide) ?_
  refine g_iload_n 0 dX11_init_56 rfl rfl ?_
  refine g_bipush (v := 6) dX11_init_57 (by decide) ?_
  refine g_icmp_ge 81 dX11_init_59 (by decide) (fun q => absurd q (by decide)) (fun _ => ?_)
  refine g_aload_n 1 dX11_init_62 rfl rfl ?_
  refine g_getR (r := 11) dX11_init_63 fl11_34 rfl (SK_get (by omega) hk0) (by decide +kernel) ?_
  refine g_iload_n 0 dX11_init_66 rfl rfl ?_
  refine K_new (KR_f (by omega) (by omega) (by omega)) hk15 z16 dX11_init_67 pCk6 nwX11_32 ?_
  refine g_dup dX11_init_70 rfl ?_
  refine g_callI (As := []) (a := 15) (st := [.ref 15, .int (1 : Int32), .ref 11]) dX11_init_71 clX11_38 rfl rfl (Nat.le_of_ble_eq_true rfl) (rmK (by decide) (by decide) (by omega) (by omega) (by omega) (by omega)) (kX6_init (a := 15) hk15 (Zr_up z16 (by omega)) (by omega) ?_)
  have z17 := Zr_uR (n := 18) (a := 15) (k := 0) (v := some 16) (Zr_up z16 (by omega)) (by omega)
  have z18 := Zr_uR (n := 18) (a := 15) (k := 1) (v := some 17) z17 (by omega)
  refine g_aast (j := 1) dX11_init_74 (SK_get (by omega) hk11) (by decide) pCk6 (SK_get (by omega) hk15) (by unfold vp_in; decide) (by decide) ?_
  have z19 := Zr_uR (n := 18) (a := 11) (k := 1) (v := some 15) z18 (by omega)
  refine g_iinc (v := (2 : Int32)) (ls2 := [(1, .int (2 : Int32)), (0, .ref 0)]) 0 dX11_init_75 rfl (by decide) (by decide) rfl ?_
  refine g_goto 56 dX11_init_78 (by decide) ?_
  refine g_iload_n 0 dX11_init_56 rfl rfl ?_
  refine g_bipush (v := 6) dX11_init_57 (by decide) ?_
  refine g_icmp_ge 81 dX11_init_59 (by decide) (fun q => absurd q (by decide)) (fun _ => ?_)
  refine g_aload_n 1 dX11_init_62 rfl rfl ?_
  refine g_getR (r := 11) dX11_init_63 fl11_34 rfl (SK_get (by omega) hk0) (by decide +kernel) ?_
  refine g_iload_n 0 dX11_init_66 rfl rfl ?_
  refine K_new (KR_f (by omega) (by omega) (by omega)) hk18 z19 dX11_init_67 pCk6 nwX11_32 ?_
  refine g_dup dX11_init_70 rfl ?_
  refine g_callI (As := []) (a := 18) (st := [.ref 18, .int (2 : Int32), .ref 11]) dX11_init_71 clX11_38 rfl rfl (Nat.le_of_ble_eq_true rfl) (rmK (by decide) (by decide) (by omega) (by omega) (by omega) (by omega)) (kX6_init (a := 18) hk18 (Zr_up z19 (by omega)) (by omega) ?_)
  have z20 := Zr_uR (n := 21) (a := 18) (k := 0) (v := some 19) (Zr_up z19 (by omega)) (by omega)
  have z21 := Zr_uR (n := 21) (a := 18) (k := 1) (v := some 20) z20 (by omega)
  refine g_aast (j := 2) dX11_init_74 (SK_get (by omega) hk11) (by decide) pCk6 (SK_get (by omega) hk18) (by unfold vp_in; decide) (by decide) ?_
  have z22 := Zr_uR (n := 21) (a := 11) (k := 2) (v := some 18) z21 (by omega)
  refine g_iinc (v := (3 : Int32)) (ls2 := [(1, .int (3 : Int32)), (0, .ref 0)]) 0 dX11_init_75 rfl (by decide) (by decide) rfl ?_
  refine g_goto 56 dX11_init_78 (by decide) ?_
  refine g_iload_n 0 dX11_init_56 rfl rfl ?_
  refine g_bipush (v := 6) dX11_init_57 (by decide) ?_
  refine g_icmp_ge 81 dX11_init_59 (by decide) (fun q => absurd q (by decide)) (fun _ => ?_)
  refine g_aload_n 1 dX11_init_62 rfl rfl ?_
  refine g_getR (r := 11) dX11_init_63 fl11_34 rfl (SK_get (by omega) hk0) (by decide +kernel) ?_
  refine g_iload_n 0 dX11_init_66 rfl rfl ?_
  refine K_new (KR_f (by omega) (by omega) (by omega)) hk21 z22 dX11_init_67 pCk6 nwX11_32 ?_
  refine g_dup dX11_init_70 rfl ?_
  refine g_callI (As := []) (a := 21) (st := [.ref 21, .int (3 : Int32), .ref 11]) dX11_init_71 clX11_38 rfl rfl (Nat.le_of_ble_eq_true rfl) (rmK (by decide) (by decide) (by omega) (by omega) (by omega) (by omega)) (kX6_init (a := 21) hk21 (Zr_up z22 (by omega)) (by omega) ?_)
  have z23 := Zr_uR (n := 24) (a := 21) (k := 0) (v := some 22) (Zr_up z22 (by omega)) (by omega)
  have z24 := Zr_uR (n := 24) (a := 21) (k := 1) (v := some 23) z23 (by omega)
  refine g_aast (j := 3) dX11_init_74 (SK_get (by omega) hk11) (by decide) pCk6 (SK_get (by omega) hk21) (by unfold vp_in; decide) (by decide) ?_
  have z25 := Zr_uR (n := 24) (a := 11) (k := 3) (v := some 21) z24 (by omega)
  refine g_iinc (v := (4 : Int32)) (ls2 := [(1, .int (4 : Int32)), (0, .ref 0)]) 0 dX11_init_75 rfl (by decide) (by decide) rfl ?_
  refine g_goto 56 dX11_init_78 (by decide) ?_
  refine g_iload_n 0 dX11_init_56 rfl rfl ?_
  refine g_bipush (v := 6) dX11_init_57 (by decide) ?_
  refine g_icmp_ge 81 dX11_init_59 (by decide) (fun q => absurd q (by decide)) (fun _ => ?_)
  refine g_aload_n 1 dX11_init_62 rfl rfl ?_
  refine g_getR (r := 11) dX11_init_63 fl11_34 rfl (SK_get (by omega) hk0) (by decide +kernel) ?_
  refine g_iload_n 0 dX11_init_66 rfl rfl ?_
  refine K_new (KR_f (by omega) (by omega) (by omega)) hk24 z25 dX11_init_67 pCk6 nwX11_32 ?_
  refine g_dup dX11_init_70 rfl ?_
  refine g_callI (As := []) (a := 24) (st := [.ref 24, .int (4 : Int32), .ref 11]) dX11_init_71 clX11_38 rfl rfl (Nat.le_of_ble_eq_true rfl) (rmK (by decide) (by decide) (by omega) (by omega) (by omega) (by omega)) (kX6_init (a := 24) hk24 (Zr_up z25 (by omega)) (by omega) ?_)
  have z26 := Zr_uR (n := 27) (a := 24) (k := 0) (v := some 25) (Zr_up z25 (by omega)) (by omega)
  have z27 := Zr_uR (n := 27) (a := 24) (k := 1) (v := some 26) z26 (by omega)
  refine g_aast (j := 4) dX11_init_74 (SK_get (by omega) hk11) (by decide) pCk6 (SK_get (by omega) hk24) (by unfold vp_in; decide) (by decide) ?_
  have z28 := Zr_uR (n := 27) (a := 11) (k := 4) (v := some 24) z27 (by omega)
  refine g_iinc (v := (5 : Int32)) (ls2 := [(1, .int (5 : Int32)), (0, .ref 0)]) 0 dX11_init_75 rfl (by decide) (by decide) rfl ?_
  refine g_goto 56 dX11_init_78 (by decide) ?_
  refine g_iload_n 0 dX11_init_56 rfl rfl ?_
  refine g_bipush (v := 6) dX11_init_57 (by decide) ?_
  refine g_icmp_ge 81 dX11_init_59 (by decide) (fun q => absurd q (by decide)) (fun _ => ?_)
  refine g_aload_n 1 dX11_init_62 rfl rfl ?_
  refine g_getR (r := 11) dX11_init_63 fl11_34 rfl (SK_get (by omega) hk0) (by decide +kernel) ?_
  refine g_iload_n 0 dX11_init_66 rfl rfl ?_
  refine K_new (KR_f (by omega) (by omega) (by omega)) hk27 z28 dX11_init_67 pCk6 nwX11_32 ?_
  refine g_dup dX11_init_70 rfl ?_
  refine g_callI (As := []) (a := 27) (st := [.ref 27, .int (5 : Int32), .ref 11]) dX11_init_71 clX11_38 rfl rfl (Nat.le_of_ble_eq_true rfl) (rmK (by decide) (by decide) (by omega) (by omega) (by omega) (by omega)) (kX6_init (a := 27) hk27 (Zr_up z28 (by omega)) (by omega) ?_)
  have z29 := Zr_uR (n := 30) (a := 27) (k := 0) (v := some 28) (Zr_up z28 (by omega)) (by omega)
  have z30 := Zr_uR (n := 30) (a := 27) (k := 1) (v := some 29) z29 (by omega)
  refine g_aast (j := 5) dX11_init_74 (SK_get (by omega) hk11) (by decide) pCk6 (SK_get (by omega) hk27) (by unfold vp_in; decide) (by decide) ?_
  have z31 := Zr_uR (n := 30) (a := 11) (k := 5) (v := some 27) z30 (by omega)
  refine g_iinc (v := (6 : Int32)) (ls2 := [(1, .int (6 : Int32)), (0, .ref 0)]) 0 dX11_init_75 rfl (by decide) (by decide) rfl ?_
  refine g_goto 56 dX11_init_78 (by decide) ?_
  refine g_iload_n 0 dX11_init_56 rfl rfl ?_
  refine g_bipush (v := 6) dX11_init_57 (by decide) ?_
  refine g_icmp_ge 81 dX11_init_59 (by decide) (fun _ => ?_) (fun q => absurd (by decide) q)
  refine g_aload_n 1 dX11_init_81 rfl rfl ?_
  refine K_new (KR_f (by omega) (by omega) (by omega)) hk30 z31 dX11_init_82 pCk10 nwX11_39 ?_
  refine g_dup dX11_init_85 rfl ?_
  refine g_callI (As := []) (a := 30) (st := [.ref 30, .ref 0]) dX11_init_86 clX11_41 rfl rfl (Nat.le_of_ble_eq_true rfl) (rmK (by decide) (by decide) (by omega) (by omega) (by omega) (by omega)) (kX10_init (a := 30) hk30 (Zr_up z31 (by omega)) (by omega) ?_)
  have z32 := Zr_mW (a := 30) (Zr_up z31 (by omega))
  refine g_putR dX11_init_89 fl11_42 rfl (fun _ => ⟨rfl, fun C T N h => by cases h; rfl⟩) (SK_get (by omega) hk0) ?_
  have z33 := Zr_uR (n := 126) (a := 0) (k := 5) (v := some 30) z32 (by omega)
  refine g_aload_n 1 dX11_init_92 rfl rfl ?_
  refine g_iconst (v := 4) dX11_init_93 (by decide) ?_
  refine K_newq (KR_f (by omega) (by omega) (by omega)) hk126 z33 dX11_init_94 (by decide) nqX11_39 (fun _ h => h.2.2.2.1) (by decide) (by decide) (by decide) ?_
  refine g_putR dX11_init_97 fl11_46 rfl (fun _ => ⟨rfl, fun C T N h => by cases h; rfl⟩) (SK_get (by omega) hk0) ?_
  have z34 := Zr_uR (n := 127) (a := 0) (k := 6) (v := some 126) (Zr_up z33 (by omega)) (by omega)
  refine g_iconst (v := 0) dX11_init_100 (by decide) ?_
  refine g_istore_n (ls2 := [(1, .int (0 : Int32)), (0, .ref 0)]) dX11_init_101 rfl (by decide) rfl ?_
  refine g_iload_n 0 dX11_init_102 rfl rfl ?_
  refine g_iconst (v := 4) dX11_init_103 (by decide) ?_
  refine g_icmp_ge 126 dX11_init_104 (by decide) (fun q => absurd q (by decide)) (fun _ => ?_)
  refine g_aload_n 1 dX11_init_107 rfl rfl ?_
  refine g_getR (r := 126) dX11_init_108 fl11_46 rfl (SK_get (by omega) hk0) (by decide +kernel) ?_
  refine g_iload_n 0 dX11_init_111 rfl rfl ?_
  refine K_new (KR_f (by omega) (by omega) (by omega)) hk127 z34 dX11_init_112 pCk10 nwX11_39 ?_
  refine g_dup dX11_init_115 rfl ?_
  refine g_callI (As := []) (a := 127) (st := [.ref 127, .int (0 : Int32), .ref 126]) dX11_init_116 clX11_41 rfl rfl (Nat.le_of_ble_eq_true rfl) (rmK (by decide) (by decide) (by omega) (by omega) (by omega) (by omega)) (kX10_init (a := 127) hk127 (Zr_up z34 (by omega)) (by omega) ?_)
  have z35 := Zr_mW (a := 127) (Zr_up z34 (by omega))
  refine g_aast (j := 0) dX11_init_119 (SK_get (by omega) hk126) (by decide) pCk10 (SK_get (by omega) hk127) (by unfold vp_in; decide) (by decide) ?_
  have z36 := Zr_uR (n := 223) (a := 126) (k := 0) (v := some 127) z35 (by omega)
  refine g_iinc (v := (1 : Int32)) (ls2 := [(1, .int (1 : Int32)), (0, .ref 0)]) 0 dX11_init_120 rfl (by decide) (by decide) rfl ?_
  refine g_goto 102 dX11_init_123 (by decide) ?_
  refine g_iload_n 0 dX11_init_102 rfl rfl ?_
  refine g_iconst (v := 4) dX11_init_103 (by decide) ?_
  refine g_icmp_ge 126 dX11_init_104 (by decide) (fun q => absurd q (by decide)) (fun _ => ?_)
  refine g_aload_n 1 dX11_init_107 rfl rfl ?_
  refine g_getR (r := 126) dX11_init_108 fl11_46 rfl (SK_get (by omega) hk0) (by decide +kernel) ?_
  refine g_iload_n 0 dX11_init_111 rfl rfl ?_
  refine K_new (KR_f (by omega) (by omega) (by omega)) hk223 z36 dX11_init_112 pCk10 nwX11_39 ?_
  refine g_dup dX11_init_115 rfl ?_
  refine g_callI (As := []) (a := 223) (st := [.ref 223, .int (1 : Int32), .ref 126]) dX11_init_116 clX11_41 rfl rfl (Nat.le_of_ble_eq_true rfl) (rmK (by decide) (by decide) (by omega) (by omega) (by omega) (by omega)) (kX10_init (a := 223) hk223 (Zr_up z36 (by omega)) (by omega) ?_)
  have z37 := Zr_mW (a := 223) (Zr_up z36 (by omega))
  refine g_aast (j := 1) dX11_init_119 (SK_get (by omega) hk126) (by decide) pCk10 (SK_get (by omega) hk223) (by unfold vp_in; decide) (by decide) ?_
  have z38 := Zr_uR (n := 319) (a := 126) (k := 1) (v := some 223) z37 (by omega)
  refine g_iinc (v := (2 : Int32)) (ls2 := [(1, .int (2 : Int32)), (0, .ref 0)]) 0 dX11_init_120 rfl (by decide) (by decide) rfl ?_
  refine g_goto 102 dX11_init_123 (by decide) ?_
  refine g_iload_n 0 dX11_init_102 rfl rfl ?_
  refine g_iconst (v := 4) dX11_init_103 (by decide) ?_
  refine g_icmp_ge 126 dX11_init_104 (by decide) (fun q => absurd q (by decide)) (fun _ => ?_)
  refine g_aload_n 1 dX11_init_107 rfl rfl ?_
  refine g_getR (r := 126) dX11_init_108 fl11_46 rfl (SK_get (by omega) hk0) (by decide +kernel) ?_
  refine g_iload_n 0 dX11_init_111 rfl rfl ?_
  refine K_new (KR_f (by omega) (by omega) (by omega)) hk319 z38 dX11_init_112 pCk10 nwX11_39 ?_
  refine g_dup dX11_init_115 rfl ?_
  refine g_callI (As := []) (a := 319) (st := [.ref 319, .int (2 : Int32), .ref 126]) dX11_init_116 clX11_41 rfl rfl (Nat.le_of_ble_eq_true rfl) (rmK (by decide) (by decide) (by omega) (by omega) (by omega) (by omega)) (kX10_init (a := 319) hk319 (Zr_up z38 (by omega)) (by omega) ?_)
  have z39 := Zr_mW (a := 319) (Zr_up z38 (by omega))
  refine g_aast (j := 2) dX11_init_119 (SK_get (by omega) hk126) (by decide) pCk10 (SK_get (by omega) hk319) (by unfold vp_in; decide) (by decide) ?_
  have z40 := Zr_uR (n := 415) (a := 126) (k := 2) (v := some 319) z39 (by omega)
  refine g_iinc (v := (3 : Int32)) (ls2 := [(1, .int (3 : Int32)), (0, .ref 0)]) 0 dX11_init_120 rfl (by decide) (by decide) rfl ?_
  refine g_goto 102 dX11_init_123 (by decide) ?_
  refine g_iload_n 0 dX11_init_102 rfl rfl ?_
  refine g_iconst (v := 4) dX11_init_103 (by decide) ?_
  refine g_icmp_ge 126 dX11_init_104 (by decide) (fun q => absurd q (by decide)) (fun _ => ?_)
  refine g_aload_n 1 dX11_init_107 rfl rfl ?_
  refine g_getR (r := 126) dX11_init_108 fl11_46 rfl (SK_get (by omega) hk0) (by decide +kernel) ?_
  refine g_iload_n 0 dX11_init_111 rfl rfl ?_
  refine K_new (KR_f (by omega) (by omega) (by omega)) hk415 z40 dX11_init_112 pCk10 nwX11_39 ?_
  refine g_dup dX11_init_115 rfl ?_
  refine g_callI (As := []) (a := 415) (st := [.ref 415, .int (3 : Int32), .ref 126]) dX11_init_116 clX11_41 rfl rfl (Nat.le_of_ble_eq_true rfl) (rmK (by decide) (by decide) (by omega) (by omega) (by omega) (by omega)) (kX10_init (a := 415) hk415 (Zr_up z40 (by omega)) (by omega) ?_)
  have z41 := Zr_mW (a := 415) (Zr_up z40 (by omega))
  refine g_aast (j := 3) dX11_init_119 (SK_get (by omega) hk126) (by decide) pCk10 (SK_get (by omega) hk415) (by unfold vp_in; decide) (by decide) ?_
  have z42 := Zr_uR (n := 511) (a := 126) (k := 3) (v := some 415) z41 (by omega)
  refine g_iinc (v := (4 : Int32)) (ls2 := [(1, .int (4 : Int32)), (0, .ref 0)]) 0 dX11_init_120 rfl (by decide) (by decide) rfl ?_
  refine g_goto 102 dX11_init_123 (by decide) ?_
  refine g_iload_n 0 dX11_init_102 rfl rfl ?_
  refine g_iconst (v := 4) dX11_init_103 (by decide) ?_
  refine g_icmp_ge 126 dX11_init_104 (by decide) (fun _ => ?_) (fun q => absurd (by decide) q)
  refine g_aload_n 1 dX11_init_126 rfl rfl ?_
  refine g_iconst (v := 4) dX11_init_127 (by decide) ?_
  refine K_newa (KR_f (by omega) (by omega) (by omega)) hk511 z42 dX11_init_128 rfl (by decide) ak_boolean (by decide) (by decide) (by decide) ?_
  refine g_putR dX11_init_130 fl11_50 rfl (fun _ => ⟨rfl, fun C T N h => by cases h; rfl⟩) (SK_get (by omega) hk0) ?_
  have z43 := Zr_uR (n := 512) (a := 0) (k := 7) (v := some 511) (Zr_up z42 (by omega)) (by omega)
  refine g_aload_n 1 dX11_init_133 rfl rfl ?_
  refine K_new (KR_f (by omega) (by omega) (by omega)) hk512 z43 dX11_init_134 pCk0 nwX11_54 ?_
  refine g_dup dX11_init_137 rfl ?_
  refine g_aload_n 1 dX11_init_138 rfl rfl ?_
  refine g_getR (r := 30) dX11_init_139 fl11_42 rfl (SK_get (by omega) hk0) (by decide +kernel) ?_
  refine g_getR (r := 31) dX11_init_142 fl11_56 rfl (SK_get (by omega) hk30) (by decide +kernel) ?_
  refine g_callI (As := [.ref 31]) (a := 512) (st := [.ref 512, .ref 0]) dX11_init_145 clX11_60 rfl rfl (Nat.le_of_ble_eq_true rfl) (rmK (by decide) (by decide) (by omega) (by omega) (by omega) (by omega)) (kX0_init (a := 512) hk512 (Zr_up z43 (by omega)) (by omega) ?_)
  have z44 := Zr_uR (n := 514) (a := 512) (k := 1) (v := some 513) (Zr_up z43 (by omega)) (by omega)
  have z45 := Zr_uR (n := 514) (a := 512) (k := 0) (v := some 31) z44 (by omega)
  refine g_putR dX11_init_148 fl11_63 rfl (fun _ => ⟨rfl, fun C T N h => by cases h; rfl⟩) (SK_get (by omega) hk0) ?_
  have z46 := Zr_uR (n := 514) (a := 0) (k := 8) (v := some 512) z45 (by omega)
  refine g_aload_n 1 dX11_init_151 rfl rfl ?_
  refine K_new (KR_f (by omega) (by omega) (by omega)) hk514 z46 dX11_init_152 pCk3 nwX11_67 ?_
  refine g_dup dX11_init_155 rfl ?_
  refine g_aload_n 1 dX11_init_156 rfl rfl ?_
  refine g_getR (r := 30) dX11_init_157 fl11_42 rfl (SK_get (by omega) hk0) (by decide +kernel) ?_
  refine g_getR (r := 31) dX11_init_160 fl11_56 rfl (SK_get (by omega) hk30) (by decide +kernel) ?_
  refine g_aload_n 1 dX11_init_163 rfl rfl ?_
  refine g_getR (r := 30) dX11_init_164 fl11_42 rfl (SK_get (by omega) hk0) (by decide +kernel) ?_
  refine g_getR (r := 37) dX11_init_167 fl11_69 rfl (SK_get (by omega) hk30) (by decide +kernel) ?_
  refine g_callI (As := [.ref 31, .ref 37]) (a := 514) (st := [.ref 514, .ref 0]) dX11_init_170 clX11_73 rfl rfl (Nat.le_of_ble_eq_true rfl) (rmK (by decide) (by decide) (by omega) (by omega) (by omega) (by omega)) (kX3_init (a := 514) hk514 (Zr_up z46 (by omega)) (by omega) ?_)
  have z47 := Zr_uR (n := 515) (a := 514) (k := 0) (v := some 31) (Zr_up z46 (by omega)) (by omega)
  have z48 := Zr_uR (n := 515) (a := 514) (k := 1) (v := some 37) z47 (by omega)
  refine g_putR dX11_init_173 fl11_76 rfl (fun _ => ⟨rfl, fun C T N h => by cases h; rfl⟩) (SK_get (by omega) hk0) ?_
  have z49 := Zr_uR (n := 515) (a := 0) (k := 9) (v := some 514) z48 (by omega)
  refine g_aload_n 1 dX11_init_176 rfl rfl ?_
  refine K_new (KR_f (by omega) (by omega) (by omega)) hk515 z49 dX11_init_177 pCk1 nwX11_80 ?_
  refine g_dup dX11_init_180 rfl ?_
  refine g_aload_n 1 dX11_init_181 rfl rfl ?_
  refine g_getR (r := 30) dX11_init_182 fl11_42 rfl (SK_get (by omega) hk0) (by decide +kernel) ?_
  refine g_getR (r := 31) dX11_init_185 fl11_56 rfl (SK_get (by omega) hk30) (by decide +kernel) ?_
  refine g_aload_n 1 dX11_init_188 rfl rfl ?_
  refine g_getR (r := 30) dX11_init_189 fl11_42 rfl (SK_get (by omega) hk0) (by decide +kernel) ?_
  refine g_getR (r := 37) dX11_init_192 fl11_69 rfl (SK_get (by omega) hk30) (by decide +kernel) ?_
  refine g_callI (As := [.ref 31, .ref 37]) (a := 515) (st := [.ref 515, .ref 0]) dX11_init_195 clX11_82 rfl rfl (Nat.le_of_ble_eq_true rfl) (rmK (by decide) (by decide) (by omega) (by omega) (by omega) (by omega)) (kX1_init (Zr_up z49 (by omega)) ?_)
  have z50 := Zr_uR (n := 523) (a := 515) (k := 2) (v := some 516) (Zr_up z49 (by omega)) (by omega)
  have z51 : Zr (uM (uR (uR (uR (uR (uR (uR (uR (uR (uR (mW (uR (mW (uR (mW (uR (mW (uR (uR (mW (uR (uR (uR (uR (uR (uR (uR (uR (uR (uR (uR (uR (uR (uR (uR (uR (uR (uR (uR (uR (uR (uR (uR (uR (uR (uR (uR (uR (uR (uR (uR m0 1 0 (some 2)) 0 0 (some 1)) 4 5 (some 5)) 4 6 (some 6)) 4 7 (some 7)) 4 8 (some 8)) 4 9 (some 9)) 3 1 (some 4)) 3 0 (some 1)) 0 1 (some 3)) 10 0 (some 1)) 0 2 (some 10)) 0 3 (some 11)) 12 0 (some 13)) 12 1 (some 14)) 11 0 (some 12)) 15 0 (some 16)) 15 1 (some 17)) 11 1 (some 15)) 18 0 (some 19)) 18 1 (some 20)) 11 2 (some 18)) 21 0 (some 22)) 21 1 (some 23)) 11 3 (some 21)) 24 0 (some 25)) 24 1 (some 26)) 11 4 (some 24)) 27 0 (some 28)) 27 1 (some 29)) 11 5 (some 27)) 30) 0 5 (some 30)) 0 6 (some 126)) 127) 126 0 (some 127)) 223) 126 1 (some 223)) 319) 126 2 (some 319)) 415) 126 3 (some 415)) 0 7 (some 511)) 512 1 (some 513)) 512 0 (some 31)) 0 8 (some 512)) 514 0 (some 31)) 514 1 (some 37)) 0 9 (some 514)) 515 2 (some 516)) 517 2) 520 := Zr_uM
  have z52 := Zr_uR (n := 523) (a := 515) (k := 3) (v := some 517) (Zr_up z51 (by omega)) (by omega)
  have z53 := Zr_uR (n := 523) (a := 515) (k := 4) (v := some 520) z52 (by omega)
  have z54 := Zr_uR (n := 523) (a := 515) (k := 5) (v := some 521) z53 (by omega)
  have z55 := Zr_uR (n := 523) (a := 515) (k := 7) (v := some 522) z54 (by omega)
  have z56 := Zr_uR (n := 523) (a := 515) (k := 0) (v := some 31) z55 (by omega)
  have z57 := Zr_uR (n := 523) (a := 515) (k := 1) (v := some 37) z56 (by omega)
  refine g_putR dX11_init_198 fl11_83 rfl (fun _ => ⟨rfl, fun C T N h => by cases h; rfl⟩) (SK_get (by omega) hk0) ?_
  have z58 := Zr_uR (n := 523) (a := 0) (k := 10) (v := some 515) z57 (by omega)
  refine g_aload_n 1 dX11_init_201 rfl rfl ?_
  refine K_new (KR_f (by omega) (by omega) (by omega)) hk523 z58 dX11_init_202 pCk8 nwX11_87 ?_
  refine g_dup dX11_init_205 rfl ?_
  refine g_callI (As := []) (a := 523) (st := [.ref 523, .ref 0]) dX11_init_206 clX11_89 rfl rfl (Nat.le_of_ble_eq_true rfl) (rmK (by decide) (by decide) (by omega) (by omega) (by omega) (by omega)) (kX8_init (a := 523) hk523 (Zr_up z58 (by omega)) (by omega) ?_)
  have z59 := Zr_uR (n := 527) (a := 523) (k := 1) (v := some 524) (Zr_up z58 (by omega)) (by omega)
  have z60 := Zr_uR (n := 527) (a := 523) (k := 2) (v := some 525) z59 (by omega)
  have z61 := Zr_uR (n := 527) (a := 523) (k := 3) (v := some 526) z60 (by omega)
  refine g_putR dX11_init_209 fl11_90 rfl (fun _ => ⟨rfl, fun C T N h => by cases h; rfl⟩) (SK_get (by omega) hk0) ?_
  have z62 := Zr_uR (n := 527) (a := 0) (k := 11) (v := some 523) z61 (by omega)
  refine g_aload_n 1 dX11_init_212 rfl rfl ?_
  refine g_bipush (v := 7) dX11_init_213 (by decide) ?_
  refine g_iconst (v := 4) dX11_init_215 (by decide) ?_
  refine K_mnew (n3 := 4) (KR_f (by omega) (by omega) (by omega)) ⟨by rw [SK_len (by omega)]; omega, SK_psl (by omega)⟩ hk527 (by decide +kernel) dX11_init_216 nqX11_93 (by decide) (by decide) (by decide) (by decide) (by decide) (by decide) (by decide) ?_
  have z63 : Zr (uM (uR (uR (uR (uR (uR (uR (uR (uR (uR (uR (uR (uM (uR (uR (uR (uR (uR (uR (uR (uR (uR (mW (uR (mW (uR (mW (uR (mW (uR (uR (mW (uR (uR (uR (uR (uR (uR (uR (uR (uR (uR (uR (uR (uR (uR (uR (uR (uR (uR (uR (uR (uR (uR (uR (uR (uR (uR (uR (uR (uR (uR (uR m0 1 0 (some 2)) 0 0 (some 1)) 4 5 (some 5)) 4 6 (some 6)) 4 7 (some 7)) 4 8 (some 8)) 4 9 (some 9)) 3 1 (some 4)) 3 0 (some 1)) 0 1 (some 3)) 10 0 (some 1)) 0 2 (some 10)) 0 3 (some 11)) 12 0 (some 13)) 12 1 (some 14)) 11 0 (some 12)) 15 0 (some 16)) 15 1 (some 17)) 11 1 (some 15)) 18 0 (some 19)) 18 1 (some 20)) 11 2 (some 18)) 21 0 (some 22)) 21 1 (some 23)) 11 3 (some 21)) 24 0 (some 25)) 24 1 (some 26)) 11 4 (some 24)) 27 0 (some 28)) 27 1 (some 29)) 11 5 (some 27)) 30) 0 5 (some 30)) 0 6 (some 126)) 127) 126 0 (some 127)) 223) 126 1 (some 223)) 319) 126 2 (some 319)) 415) 126 3 (some 415)) 0 7 (some 511)) 512 1 (some 513)) 512 0 (some 31)) 0 8 (some 512)) 514 0 (some 31)) 514 1 (some 37)) 0 9 (some 514)) 515 2 (some 516)) 517 2) 515 3 (some 517)) 515 4 (some 520)) 515 5 (some 521)) 515 7 (some 522)) 515 0 (some 31)) 515 1 (some 37)) 0 10 (some 515)) 523 1 (some 524)) 523 2 (some 525)) 523 3 (some 526)) 0 11 (some 523)) 527 7) 535 := Zr_uM
  refine g_putR dX11_init_220 fl11_95 rfl (fun _ => ⟨rfl, fun C T N h => by cases h; rfl⟩) (SK_get (by omega) hk0) ?_
  have z64 := Zr_uR (n := 535) (a := 0) (k := 12) (v := some 527) z63 (by omega)
  exact g_vret dX11_init_223 rfl enK h
