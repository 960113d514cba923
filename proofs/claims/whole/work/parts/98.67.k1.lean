theorem kX1_init {X : pX} {Q : Option Value → pMem → Prop} {m : pMem} {r1 r2 : Nat} (hz : Zr m 516) (h : Q none (uR (uR (uR (uR (uR (uR (uM (uR m 515 2 (some 516)) 517 2) 515 3 (some 517)) 515 4 (some 520)) 515 5 (some 521)) 515 7 (some 522)) 515 0 (some r1)) 515 1 (some r2))) : pCl X mX1_init 1 (SK 516) (SK 523) [.ref 515, .ref r1, .ref r2] m Q := by
  refine pCl_of (by decide +kernel) (Nat.le_of_ble_eq_true rfl) rfl ?_
  refine g_aload_n 0 dX1_init_0 rfl rfl ?_
  refine g_objInit dX1_init_1 oiX1_3 (Nat.le_of_ble_eq_true rfl) ⟨Nat.le_of_ble_eq_true rfl, Nat.le_of_ble_eq_true rfl⟩ ?_
  refine g_aload_n 0 dX1_init_4 rfl rfl ?_
  refine g_sipush (v := 2916) dX1_init_5 (by decide) ?_
  refine K_newa (KR_f (by omega) (by omega) (by omega)) hk516 hz dX1_init_8 rfl (by decide) ak_int (by decide) (by decide) (by decide) ?_
  refine g_putR dX1_init_10 fl1_11 rfl (fun _ => ⟨rfl, fun C T N h => by cases h; rfl⟩) (SK_get (by omega) hk515) ?_
  have z1 := Zr_uR (n := 517) (a := 515) (k := 2) (v := some 516) (Zr_up hz (by omega)) (by omega)
  refine g_aload_n 0 dX1_init_13 rfl rfl ?_
  refine g_iconst (v := 2) dX1_init_14 (by decide) ?_
  refine g_bipush (v := 64) dX1_init_15 (by decide) ?_
  refine K_mnew (n3 := 64) (KR_f (by omega) (by omega) (by omega)) ⟨by rw [SK_len (by omega)]; omega, SK_psl (by omega)⟩ hk517 (by decide +kernel) dX1_init_17 nqX1_15 (by decide) (by decide) (by decide) (by decide) (by decide) (by decide) (by decide) ?_
  have z2 : Zr (uM (uR m 515 2 (some 516)) 517 2) 520 := Zr_uM
  refine g_putR dX1_init_21 fl1_17 rfl (fun _ => ⟨rfl, fun C T N h => by cases h; rfl⟩) (SK_get (by omega) hk515) ?_
  have z3 := Zr_uR (n := 520) (a := 515) (k := 3) (v := some 517) z2 (by omega)
  refine g_aload_n 0 dX1_init_24 rfl rfl ?_
  refine g_bipush (v := 6) dX1_init_25 (by decide) ?_
  refine K_newa (KR_f (by omega) (by omega) (by omega)) hk520 z3 dX1_init_27 rfl (by decide) ak_int (by decide) (by decide) (by decide) ?_
  refine g_putR dX1_init_29 fl1_20 rfl (fun _ => ⟨rfl, fun C T N h => by cases h; rfl⟩) (SK_get (by omega) hk515) ?_
  have z4 := Zr_uR (n := 521) (a := 515) (k := 4) (v := some 520) (Zr_up z3 (by omega)) (by omega)
  refine g_aload_n 0 dX1_init_32 rfl rfl ?_
  refine g_bipush (v := 6) dX1_init_33 (by decide) ?_
  refine K_newa (KR_f (by omega) (by omega) (by omega)) hk521 z4 dX1_init_35 rfl (by decide) ak_int (by decide) (by decide) (by decide) ?_
  refine g_putR dX1_init_37 fl1_23 rfl (fun _ => ⟨rfl, fun C T N h => by cases h; rfl⟩) (SK_get (by omega) hk515) ?_
  have z5 := Zr_uR (n := 522) (a := 515) (k := 5) (v := some 521) (Zr_up z4 (by omega)) (by omega)
  refine g_aload_n 0 dX1_init_40 rfl rfl ?_
  refine g_iconst (v := 2) dX1_init_41 (by decide) ?_
  refine K_newa (KR_f (by omega) (by omega) (by omega)) hk522 z5 dX1_init_42 rfl (by decide) ak_int (by decide) (by decide) (by decide) ?_
  refine g_putR dX1_init_44 fl1_26 rfl (fun _ => ⟨rfl, fun C T N h => by cases h; rfl⟩) (SK_get (by omega) hk515) ?_
  have z6 := Zr_uR (n := 523) (a := 515) (k := 7) (v := some 522) (Zr_up z5 (by omega)) (by omega)
  refine g_aload_n 0 dX1_init_47 rfl rfl ?_
  refine g_aload_n 1 dX1_init_48 rfl rfl ?_
  refine g_putR dX1_init_49 fl1_29 rfl (fun _ => ⟨rfl, fun C T N h => by cases h; rfl⟩) (SK_get (by omega) hk515) ?_
  have z7 := Zr_uR (n := 523) (a := 515) (k := 0) (v := some r1) z6 (by omega)
  refine g_aload_n 0 dX1_init_52 rfl rfl ?_
  refine g_aload_n 2 dX1_init_53 rfl rfl ?_
  refine g_putR dX1_init_54 fl1_33 rfl (fun _ => ⟨rfl, fun C T N h => by cases h; rfl⟩) (SK_get (by omega) hk515) ?_
  have z8 := Zr_uR (n := 523) (a := 515) (k := 1) (v := some r2) z7 (by omega)
  exact g_vret dX1_init_57 rfl enK h
def m12 (m : pMem) : pMem := uR (uR (uR (uR (uR (uI (uI (uI (uI (uI (uI (uR (uR (uR (uR (uR (uR (uR (uR (uR (uR (uR (uR (uR (uI (uR (uR (uR (uR (uR (uR (uR (uR (uR (uR (uR (uR (uR (uR (uR (uR (uR (uR (uI (uI (uI (uI (uI (uI (uI (uI (uI m 536 0 (0 : Int32)) 536 1 (0 : Int32)) 536 2 (0 : Int32)) 536 3 (0 : Int32)) 536 4 (0 : Int32)) 536 5 (0 : Int32)) 536 6 (0 : Int32)) 536 7 (0 : Int32)) 536 8 (-1 : Int32)) 535 1 (some 536)) 535 2 (some 537)) 535 3 (some 538)) 535 4 (some 539)) 535 5 (some 540)) 535 6 (some 541)) 535 7 (some 542)) 535 8 (some 543)) 535 9 (some 544)) 535 10 (some 545)) 535 11 (some 546)) 535 12 (some 547)) 535 13 (some 548)) 535 14 (some 549)) 535 15 (some 550)) 535 16 (some 551)) 535 17 (some 552)) 535 18 (some 553)) 535 28 (12 : Int32)) 535 29 (some 554)) 535 30 (some 555)) 535 31 (some 556)) 535 32 (some 557)) 535 33 (some 558)) 535 34 (some 559)) 535 35 (some 560)) 535 36 (some 561)) 535 37 (some 562)) 535 38 (some 563)) 535 39 (some 564)) 535 40 (some 565)) 535 44 (some 566)) 567 0 (1 : Int32)) 567 1 (3 : Int32)) 567 2 (9 : Int32)) 567 3 (27 : Int32)) 567 4 (81 : Int32)) 567 5 (243 : Int32)) 535 45 (some 567)) 535 50 (some 568)) 535 51 (some 569)) 535 52 (some 570)) 535 53 (some 571)
theorem kX12_init {X : pX} {Q : Option Value → pMem → Prop} {m : pMem} (hz : Zr m 536) (h : Q none (m12 m)) : pCl X mX12_init 1 (SK 536) (SK 572) [.ref 535] m Q := by
  refine pCl_of (by decide +kernel) (Nat.le_of_ble_eq_true rfl) rfl ?_
  refine g_aload_n 0 dX12_init_0 rfl rfl ?_
  refine g_objInit dX12_init_1 oiX12_3 (Nat.le_of_ble_eq_true rfl) ⟨Nat.le_of_ble_eq_true rfl, Nat.le_of_ble_eq_true rfl⟩ ?_
  refine g_aload_n 0 dX12_init_4 rfl rfl ?_
  refine g_bipush (v := 9) dX12_init_5 (by decide) ?_
  refine K_newa (KR_f (by omega) (by omega) (by omega)) hk536 hz dX12_init_7 rfl (by decide) ak_int (by decide) (by decide) (by decide) ?_
  refine g_dup dX12_init_9 rfl ?_
  refine g_iconst (v := 0) dX12_init_10 (by decide) ?_
  refine g_iconst (v := 0) dX12_init_11 (by decide) ?_
  refine g_iast (j := 0) dX12_init_12 (SK_get (by omega) hk536) (by unfold vp_in; decide) (by decide) ?_
  have z1 := Zr_uI (n := 537) (a := 536) (k := 0) (v := (0 : Int32)) (Zr_up hz (by omega)) (by omega)
  refine g_dup dX12_init_13 rfl ?_
  refine g_iconst (v := 1) dX12_init_14 (by decide) ?_
  refine g_iconst (v := 0) dX12_init_15 (by decide) ?_
  refine g_iast (j := 1) dX12_init_16 (SK_get (by omega) hk536) (by unfold vp_in; decide) (by decide) ?_
  have z2 := Zr_uI (n := 537) (a := 536) (k := 1) (v := (0 : Int32)) z1 (by omega)
  refine g_dup dX12_init_17 rfl ?_
  refine g_iconst (v := 2) dX12_init_18 (by decide) ?_
  refine g_iconst (v := 0) dX12_init_19 (by decide) ?_
  refine g_iast (j := 2) dX12_init_20 (SK_get (by omega) hk536) (by unfold vp_in; decide) (by decide) ?_
  have z3 := Zr_uI (n := 537) (a := 536) (k := 2) (v := (0 : Int32)) z2 (by omega)
  refine g_dup dX12_init_21 rfl ?_
  refine g_iconst (v := 3) dX12_init_22 (by decide) ?_
  refine g_iconst (v := 0) dX12_init_23 (by decide) ?_
  refine g_iast (j := 3) dX12_init_24 (SK_get (by omega) hk536) (by unfold vp_in; decide) (by decide) ?_
  have z4 := Zr_uI (n := 537) (a := 536) (k := 3) (v := (0 : Int32)) z3 (by omega)
  refine g_dup dX12_init_25 rfl ?_
  refine g_iconst (v := 4) dX12_init_26 (by decide) ?_
  refine g_iconst (v := 0) dX12_init_27 (by decide) ?_
  refine g_iast (j := 4) dX12_init_28 (SK_get (by omega) hk536) (by unfold vp_in; decide) (by decide) ?_
  have z5 := Zr_uI (n := 537) (a := 536) (k := 4) (v := (0 : Int32)) z4 (by omega)
  refine g_dup dX12_init_29 rfl ?_
  refine g_iconst (v := 5) dX12_init_30 (by decide) ?_
  refine g_iconst (v := 0) dX12_init_31 (by decide) ?_
  refine g_iast (j := 5) dX12_init_32 (SK_get (by omega) hk536) (by unfold vp_in; decide) (by decide) ?_
  have z6 := Zr_uI (n := 537) (a := 536) (k := 5) (v := (0 : Int32)) z5 (by omega)
  refine g_dup dX12_init_33 rfl ?_
  refine g_bipush (v := 6) dX12_init_34 (by decide) ?_
  refine g_iconst (v := 0) dX12_init_36 (by decide) ?_
  refine g_iast (j := 6) dX12_init_37 (SK_get (by omega) hk536) (by unfold vp_in; decide) (by decide) ?_
  have z7 := Zr_uI (n := 537) (a := 536) (k := 6) (v := (0 : Int32)) z6 (by omega)
  refine g_dup dX12_init_38 rfl ?_
  refine g_bipush (v := 7) dX12_init_39 (by decide) ?_
  refine g_iconst (v := 0) dX12_init_41 (by decide) ?_
  refine g_iast (j := 7) dX12_init_42 (SK_get (by omega) hk536) (by unfold vp_in; decide) (by decide) ?_
  have z8 := Zr_uI (n := 537) (a := 536) (k := 7) (v := (0 : Int32)) z7 (by omega)
  refine g_dup dX12_init_43 rfl ?_
  refine g_bipush (v := 8) dX12_init_44 (by decide) ?_
  refine g_iconst (v := -1) dX12_init_46 (by decide) ?_
  refine g_iast (j := 8) dX12_init_47 (SK_get (by omega) hk536) (by unfold vp_in; decide) (by decide) ?_
  have z9 := Zr_uI (n := 537) (a := 536) (k := 8) (v := (-1 : Int32)) z8 (by omega)
  refine g_putR dX12_init_48 fl12_9 rfl (fun _ => ⟨rfl, fun C T N h => by cases h; rfl⟩) (SK_get (by omega) hk535) ?_
  have z10 := Zr_uR (n := 537) (a := 535) (k := 1) (v := some 536) z9 (by omega)
  refine g_aload_n 0 dX12_init_51 rfl rfl ?_
  refine g_iconst (v := 4) dX12_init_52 (by decide) ?_
  refine K_newa (KR_f (by omega) (by omega) (by omega)) hk537 z10 dX12_init_53 rfl (by decide) ak_int (by decide) (by decide) (by decide) ?_
  refine g_putR dX12_init_55 fl12_13 rfl (fun _ => ⟨rfl, fun C T N h => by cases h; rfl⟩) (SK_get (by omega) hk535) ?_
  have z11 := Zr_uR (n := 538) (a := 535) (k := 2) (v := some 537) (Zr_up z10 (by omega)) (by omega)
  refine g_aload_n 0 dX12_init_58 rfl rfl ?_
  refine g_iconst (v := 4) dX12_init_59 (by decide) ?_
  refine K_newa (KR_f (by omega) (by omega) (by omega)) hk538 z11 dX12_init_60 rfl (by decide) ak_int (by decide) (by decide) (by decide) ?_
  refine g_putR dX12_init_62 fl12_16 rfl (fun _ => ⟨rfl, fun C T N h => by cases h; rfl⟩) (SK_get (by omega) hk535) ?_
  have z12 := Zr_uR (n := 539) (a := 535) (k := 3) (v := some 538) (Zr_up z11 (by omega)) (by omega)
  refine g_aload_n 0 dX12_init_65 rfl rfl ?_
  refine g_bipush (v := 6) dX12_init_66 (by decide) ?_
  refine K_newa (KR_f (by omega) (by omega) (by omega)) hk539 z12 dX12_init_68 rfl (by decide) ak_int (by decide) (by decide) (by decide) ?_
  refine g_putR dX12_init_70 fl12_19 rfl (fun _ => ⟨rfl, fun C T N h => by cases h; rfl⟩) (SK_get (by omega) hk535) ?_
  have z13 := Zr_uR (n := 540) (a := 535) (k := 4) (v := some 539) (Zr_up z12 (by omega)) (by omega)
  refine g_aload_n 0 dX12_init_73 rfl rfl ?_
  refine g_bipush (v := 8) dX12_init_74 (by decide) ?_
  refine K_newa (KR_f (by omega) (by omega) (by omega)) hk540 z13 dX12_init_76 rfl (by decide) ak_int (by decide) (by decide) (by decide) ?_
  refine g_putR dX12_init_78 fl12_22 rfl (fun _ => ⟨rfl, fun C T N h => by cases h; rfl⟩) (SK_get (by omega) hk535) ?_
  have z14 := Zr_uR (n := 541) (a := 535) (k := 5) (v := some 540) (Zr_up z13 (by omega)) (by omega)
  refine g_aload_n 0 dX12_init_81 rfl rfl ?_
  refine g_iconst (v := 4) dX12_init_82 (by decide) ?_
  refine K_newa (KR_f (by omega) (by omega) (by omega)) hk541 z14 dX12_init_83 rfl (by decide) ak_int (by decide) (by decide) (by decide) ?_
  refine g_putR dX12_init_85 fl12_25 rfl (fun _ => ⟨rfl, fun C T N h => by cases h; rfl⟩) (SK_get (by omega) hk535) ?_
  have z15 := Zr_uR (n := 542) (a := 535) (k := 6) (v := some 541) (Zr_up z14 (by omega)) (by omega)
  refine g_aload_n 0 dX12_init_88 rfl rfl ?_
  refine g_bipush (v := 6) dX12_init_89 (by decide) ?_
  refine K_newa (KR_f (by omega) (by omega) (by omega)) hk542 z15 dX12_init_91 rfl (by decide) ak_int (by decide) (by decide) (by decide) ?_
  refine g_putR dX12_init_93 fl12_28 rfl (fun _ => ⟨rfl, fun C T N h => by cases h; rfl⟩) (SK_get (by omega) hk535) ?_
  have z16 := Zr_uR (n := 543) (a := 535) (k := 7) (v := some 542) (Zr_up z15 (by omega)) (by omega)
  refine g_aload_n 0 dX12_init_96 rfl rfl ?_
  refine g_bipush (v := 6) dX12_init_97 (by decide) ?_
  refine K_newa (KR_f (by omega) (by omega) (by omega)) hk543 z16 dX12_init_99 rfl (by decide) ak_int (by decide) (by decide) (by decide) ?_
  refine g_putR dX12_init_101 fl12_31 rfl (fun _ => ⟨rfl, fun C T N h => by cases h; rfl⟩) (SK_get (by omega) hk535) ?_
  have z17 := Zr_uR (n := 544) (a := 535) (k := 8) (v := some 543) (Zr_up z16 (by omega)) (by omega)
  refine g_aload_n 0 dX12_init_104 rfl rfl ?_
  refine g_bipush (v := 10) dX12_init_105 (by decide) ?_
  refine K_newa (KR_f (by omega) (by omega) (by omega)) hk544 z17 dX12_init_107 rfl (by decide) ak_int (by decide) (by decide) (by decide) ?_
  refine g_putR dX12_init_109 fl12_34 rfl (fun _ => ⟨rfl, fun C T N h => by cases h; rfl⟩) (SK_get (by omega) hk535) ?_
  have z18 := Zr_uR (n := 545) (a := 535) (k := 9) (v := some 544) (Zr_up z17 (by omega)) (by omega)
  refine g_aload_n 0 dX12_init_112 rfl rfl ?_
  refine g_bipush (v := 10) dX12_init_113 (by decide) ?_
  refine K_newa (KR_f (by omega) (by omega) (by omega)) hk545 z18 dX12_init_115 rfl (by decide) ak_int (by decide) (by decide) (by decide) ?_
  refine g_putR dX12_init_117 fl12_37 rfl (fun _ => ⟨rfl, fun C T N h => by cases h; rfl⟩) (SK_get (by omega) hk535) ?_
  have z19 := Zr_uR (n := 546) (a := 535) (k := 10) (v := some 545) (Zr_up z18 (by omega)) (by omega)
  refine g_aload_n 0 dX12_init_120 rfl rfl ?_
  refine g_bipush (v := 10) dX12_init_121 (by decide) ?_
  refine K_newa (KR_f (by omega) (by omega) (by omega)) hk546 z19 dX12_init_123 rfl (by decide) ak_int (by decide) (by decide) (by decide) ?_
  refine g_putR dX12_init_125 fl12_40 rfl (fun _ => ⟨rfl, fun C T N h => by cases h; rfl⟩) (SK_get (by omega) hk535) ?_
  have z20 := Zr_uR (n := 547) (a := 535) (k := 11) (v := some 546) (Zr_up z19 (by omega)) (by omega)
  refine g_aload_n 0 dX12_init_128 rfl rfl ?_
  refine g_bipush (v := 6) dX12_init_129 (by decide) ?_
  refine K_newa (KR_f (by omega) (by omega) (by omega)) hk547 z20 dX12_init_131 rfl (by decide) ak_int (by decide) (by decide) (by decide) ?_
  refine g_putR dX12_init_133 fl12_43 rfl (fun _ => ⟨rfl, fun C T N h => by cases h; rfl⟩) (SK_get (by omega) hk535) ?_
  have z21 := Zr_uR (n := 548) (a := 535) (k := 12) (v := some 547) (Zr_up z20 (by omega)) (by omega)
  refine g_aload_n 0 dX12_init_136 rfl rfl ?_
  refine g_iconst (v := 5) dX12_init_137 (by decide) ?_
  refine K_newa (KR_f (by omega) (by omega) (by omega)) hk548 z21 dX12_init_138 rfl (by decide) ak_int (by decide) (by decide) (by decide) ?_
  refine g_putR dX12_init_140 fl12_46 rfl (fun _ => ⟨rfl, fun C T N h => by cases h; rfl⟩) (SK_get (by omega) hk535) ?_
  have z22 := Zr_uR (n := 549) (a := 535) (k := 13) (v := some 548) (Zr_up z21 (by omega)) (by omega)
  refine g_aload_n 0 dX12_init_143 rfl rfl ?_
  refine g_bipush (v := 8) dX12_init_144 (by decide) ?_
  refine K_newa (KR_f (by omega) (by omega) (by omega)) hk549 z22 dX12_init_146 rfl (by decide) ak_int (by decide) (by decide) (by decide) ?_
  refine g_putR dX12_init_148 fl12_49 rfl (fun _ => ⟨rfl, fun C T N h => by cases h; rfl⟩) (SK_get (by omega) hk535) ?_
  have z23 := Zr_uR (n := 550) (a := 535) (k := 14) (v := some 549) (Zr_up z22 (by omega)) (by omega)
  refine g_aload_n 0 dX12_init_151 rfl rfl ?_
  refine g_iconst (v := 4) dX12_init_152 (by decide) ?_
  refine K_newa (KR_f (by omega) (by omega) (by omega)) hk550 z23 dX12_init_153 rfl (by decide) ak_int (by decide) (by decide) (by decide) ?_
  refine g_putR dX12_init_155 fl12_52 rfl (fun _ => ⟨rfl, fun C T N h => by cases h; rfl⟩) (SK_get (by omega) hk535) ?_
  have z24 := Zr_uR (n := 551) (a := 535) (k := 15) (v := some 550) (Zr_up z23 (by omega)) (by omega)
  refine g_aload_n 0 dX12_init_158 rfl rfl ?_
  refine g_bipush (v := 6) dX12_init_159 (by decide) ?_
  refine K_newa (KR_f (by omega) (by omega) (by omega)) hk551 z24 dX12_init_161 rfl (by decide) ak_int (by decide) (by decide) (by decide) ?_
  refine g_putR dX12_init_163 fl12_55 rfl (fun _ => ⟨rfl, fun C T N h => by cases h; rfl⟩) (SK_get (by omega) hk535) ?_
  have z25 := Zr_uR (n := 552) (a := 535) (k := 16) (v := some 551) (Zr_up z24 (by omega)) (by omega)
  refine g_aload_n 0 dX12_init_166 rfl rfl ?_
  refine g_bipush (v := 6) dX12_init_167 (by decide) ?_
  refine K_newa (KR_f (by omega) (by omega) (by omega)) hk552 z25 dX12_init_169 rfl (by decide) ak_int (by decide) (by decide) (by decide) ?_
  refine g_putR dX12_init_171 fl12_58 rfl (fun _ => ⟨rfl, fun C T N h => by cases h; rfl⟩) (SK_get (by omega) hk535) ?_
  have z26 := Zr_uR (n := 553) (a := 535) (k := 17) (v := some 552) (Zr_up z25 (by omega)) (by omega)
  refine g_aload_n 0 dX12_init_174 rfl rfl ?_
  refine g_bipush (v := 6) dX12_init_175 (by decide) ?_
  refine K_newa (KR_f (by omega) (by omega) (by omega)) hk553 z26 dX12_init_177 rfl (by decide) ak_int (by decide) (by decide) (by decide) ?_
  refine g_putR dX12_init_179 fl12_61 rfl (fun _ => ⟨rfl, fun C T N h => by cases h; rfl⟩) (SK_get (by omega) hk535) ?_
  have z27 := Zr_uR (n := 554) (a := 535) (k := 18) (v := some 553) (Zr_up z26 (by omega)) (by omega)
  refine g_aload_n 0 dX12_init_182 rfl rfl ?_
  refine g_bipush (v := 12) dX12_init_183 (by decide) ?_
  refine g_putI dX12_init_185 fl12_64 (fun _ => ⟨rfl, fun C T N h => by cases h; rfl⟩) (SK_get (by omega) hk535) ?_
  have z28 := Zr_uI (n := 554) (a := 535) (k := 28) (v := (12 : Int32)) z27 (by omega)
  refine g_aload_n 0 dX12_init_188 rfl rfl ?_
  refine g_sipush (v := 400) dX12_init_189 (by decide) ?_
  refine K_newa (KR_f (by omega) (by omega) (by omega)) hk554 z28 dX12_init_192 rfl (by decide) ak_byte (by decide) (by decide) (by decide) ?_
  refine g_putR dX12_init_194 fl12_68 rfl (fun _ => ⟨rfl, fun C T N h => by cases h; rfl⟩) (SK_get (by omega) hk535) ?_
  have z29 := Zr_uR (n := 555) (a := 535) (k := 29) (v := some 554) (Zr_up z28 (by omega)) (by omega)
  refine g_aload_n 0 dX12_init_197 rfl rfl ?_
  refine g_sipush (v := 1800) dX12_init_198 (by decide) ?_
  refine K_newa (KR_f (by omega) (by omega) (by omega)) hk555 z29 dX12_init_201 rfl (by decide) ak_int (by decide) (by decide) (by decide) ?_
  refine g_putR dX12_init_203 fl12_72 rfl (fun _ => ⟨rfl, fun C T N h => by cases h; rfl⟩) (SK_get (by omega) hk535) ?_
  have z30 := Zr_uR (n := 556) (a := 535) (k := 30) (v := some 555) (Zr_up z29 (by omega)) (by omega)
  refine g_aload_n 0 dX12_init_206 rfl rfl ?_
  refine g_sipush (v := 1800) dX12_init_207 (by decide) ?_
  refine K_newa (KR_f (by omega) (by omega) (by omega)) hk556 z30 dX12_init_210 rfl (by decide) ak_int (by decide) (by decide) (by decide) ?_
  refine g_putR dX12_init_212 fl12_75 rfl (fun _ => ⟨rfl, fun C T N h => by cases h; rfl⟩) (SK_get (by omega) hk535) ?_
  have z31 := Zr_uR (n := 557) (a := 535) (k := 31) (v := some 556) (Zr_up z30 (by omega)) (by omega)
  refine g_aload_n 0 dX12_init_215 rfl rfl ?_
  refine g_bipush (v := 6) dX12_init_216 (by decide) ?_
  refine K_newa (KR_f (by omega) (by omega) (by omega)) hk557 z31 dX12_init_218 rfl (by decide) ak_int (by decide) (by decide) (by decide) ?_
  refine g_putR dX12_init_220 fl12_78 rfl (fun _ => ⟨rfl, fun C T N h => by cases h; rfl⟩) (SK_get (by omega) hk535) ?_
  have z32 := Zr_uR (n := 558) (a := 535) (k := 32) (v := some 557) (Zr_up z31 (by omega)) (by omega)
  refine g_aload_n 0 dX12_init_223 rfl rfl ?_
  refine g_bipush (v := 72) dX12_init_224 (by decide) ?_
  refine K_newa (KR_f (by omega) (by omega) (by omega)) hk558 z32 dX12_init_226 rfl (by decide) ak_int (by decide) (by decide) (by decide) ?_
  refine g_putR dX12_init_228 fl12_81 rfl (fun _ => ⟨rfl, fun C T N h => by cases h; rfl⟩) (SK_get (by omega) hk535) ?_
  have z33 := Zr_uR (n := 559) (a := 535) (k := 33) (v := some 558) (Zr_up z32 (by omega)) (by omega)
  refine g_aload_n 0 dX12_init_231 rfl rfl ?_
  refine g_bipush (v := 72) dX12_init_232 (by decide) ?_
  refine K_newa (KR_f (by omega) (by omega) (by omega)) hk559 z33 dX12_init_234 rfl (by decide) ak_int (by decide) (by decide) (by decide) ?_
  refine g_putR dX12_init_236 fl12_84 rfl (fun _ => ⟨rfl, fun C T N h => by cases h; rfl⟩) (SK_get (by omega) hk535) ?_
  have z34 := Zr_uR (n := 560) (a := 535) (k := 34) (v := some 559) (Zr_up z33 (by omega)) (by omega)
  refine g_aload_n 0 dX12_init_239 rfl rfl ?_
  refine g_bipush (v := 72) dX12_init_240 (by decide) ?_
  refine K_newa (KR_f (by omega) (by omega) (by omega)) hk560 z34 dX12_init_242 rfl (by decide) ak_int (by decide) (by decide) (by decide) ?_
  refine g_putR dX12_init_244 fl12_87 rfl (fun _ => ⟨rfl, fun C T N h => by cases h; rfl⟩) (SK_get (by omega) hk535) ?_
  have z35 := Zr_uR (n := 561) (a := 535) (k := 35) (v := some 560) (Zr_up z34 (by omega)) (by omega)
  refine g_aload_n 0 dX12_init_247 rfl rfl ?_
  refine g_sipush (v := 402) dX12_init_248 (by decide) ?_
  refine K_newa (KR_f (by omega) (by omega) (by omega)) hk561 z35 dX12_init_251 rfl (by decide) ak_int (by decide) (by decide) (by decide) ?_
  refine g_putR dX12_init_253 fl12_90 rfl (fun _ => ⟨rfl, fun C T N h => by cases h; rfl⟩) (SK_get (by omega) hk535) ?_
  have z36 := Zr_uR (n := 562) (a := 535) (k := 36) (v := some 561) (Zr_up z35 (by omega)) (by omega)
  refine g_aload_n 0 dX12_init_256 rfl rfl ?_
  refine g_bipush (v := 12) dX12_init_257 (by decide) ?_
  refine K_newa (KR_f (by omega) (by omega) (by omega)) hk562 z36 dX12_init_259 rfl (by decide) ak_long (by decide) (by decide) (by decide) ?_
  refine g_putR dX12_init_261 fl12_93 rfl (fun _ => ⟨rfl, fun C T N h => by cases h; rfl⟩) (SK_get (by omega) hk535) ?_
  have z37 := Zr_uR (n := 563) (a := 535) (k := 37) (v := some 562) (Zr_up z36 (by omega)) (by omega)
  refine g_aload_n 0 dX12_init_264 rfl rfl ?_
  refine g_sipush (v := 300) dX12_init_265 (by decide) ?_
  refine K_newa (KR_f (by omega) (by omega) (by omega)) hk563 z37 dX12_init_268 rfl (by decide) ak_long (by decide) (by decide) (by decide) ?_
  refine g_putR dX12_init_270 fl12_97 rfl (fun _ => ⟨rfl, fun C T N h => by cases h; rfl⟩) (SK_get (by omega) hk535) ?_
  have z38 := Zr_uR (n := 564) (a := 535) (k := 38) (v := some 563) (Zr_up z37 (by omega)) (by omega)
  refine g_aload_n 0 dX12_init_273 rfl rfl ?_
  refine g_sipush (v := 300) dX12_init_274 (by decide) ?_
  refine K_newa (KR_f (by omega) (by omega) (by omega)) hk564 z38 dX12_init_277 rfl (by decide) ak_int (by decide) (by decide) (by decide) ?_
  refine g_putR dX12_init_279 fl12_100 rfl (fun _ => ⟨rfl, fun C T N h => by cases h; rfl⟩) (SK_get (by omega) hk535) ?_
  have z39 := Zr_uR (n := 565) (a := 535) (k := 39) (v := some 564) (Zr_up z38 (by omega)) (by omega)
  refine g_aload_n 0 dX12_init_282 rfl rfl ?_
  refine g_iconst (v := 1) dX12_init_283 (by decide) ?_
  refine K_newa (KR_f (by omega) (by omega) (by omega)) hk565 z39 dX12_init_284 rfl (by decide) ak_int (by decide) (by decide) (by decide) ?_
  refine g_putR dX12_init_286 fl12_103 rfl (fun _ => ⟨rfl, fun C T N h => by cases h; rfl⟩) (SK_get (by omega) hk535) ?_
  have z40 := Zr_uR (n := 566) (a := 535) (k := 40) (v := some 565) (Zr_up z39 (by omega)) (by omega)
  refine g_aload_n 0 dX12_init_289 rfl rfl ?_
  refine g_sipush (v := 2916) dX12_init_290 (by decide) ?_
  refine K_newa (KR_f (by omega) (by omega) (by omega)) hk566 z40 dX12_init_293 rfl (by decide) ak_int (by decide) (by decide) (by decide) ?_
  refine g_putR dX12_init_295 fl12_106 rfl (fun _ => ⟨rfl, fun C T N h => by cases h; rfl⟩) (SK_get (by omega) hk535) ?_
  have z41 := Zr_uR (n := 567) (a := 535) (k := 44) (v := some 566) (Zr_up z40 (by omega)) (by omega)
  refine g_aload_n 0 dX12_init_298 rfl rfl ?_
  refine g_bipush (v := 6) dX12_init_299 (by decide) ?_
  refine K_newa (KR_f (by omega) (by omega) (by omega)) hk567 z41 dX12_init_301 rfl (by decide) ak_int (by decide) (by decide) (by decide) ?_
  refine g_dup dX12_init_303 rfl ?_
  refine g_iconst (v := 0) dX12_init_304 (by decide) ?_
  refine g_iconst (v := 1) dX12_init_305 (by decide) ?_
  refine g_iast (j := 0) dX12_init_306 (SK_get (by omega) hk567) (by unfold vp_in; decide) (by decide) ?_
  have z42 := Zr_uI (n := 568) (a := 567) (k := 0) (v := (1 : Int32)) (Zr_up z41 (by omega)) (by omega)
  refine g_dup dX12_init_307 rfl ?_
  refine g_iconst (v := 1) dX12_init_308 (by decide) ?_
  refine g_iconst (v := 3) dX12_init_309 (by decide) ?_
  refine g_iast (j := 1) dX12_init_310 (SK_get (by omega) hk567) (by unfold vp_in; decide) (by decide) ?_
  have z43 := Zr_uI (n := 568) (a := 567) (k := 1) (v := (3 : Int32)) z42 (by omega)
  refine g_dup dX12_init_311 rfl ?_
  refine g_iconst (v := 2) dX12_init_312 (by decide) ?_
  refine g_bipush (v := 9) dX12_init_313 (by decide) ?_
  refine g_iast (j := 2) dX12_init_315 (SK_get (by omega) hk567) (by unfold vp_in; decide) (by decide) ?_
  have z44 := Zr_uI (n := 568) (a := 567) (k := 2) (v := (9 : Int32)) z43 (by omega)
  refine g_dup dX12_init_316 rfl ?_
  refine g_iconst (v := 3) dX12_init_317 (by decide) ?_
  refine g_bipush (v := 27) dX12_init_318 (by decide) ?_
  refine g_iast (j := 3) dX12_init_320 (SK_get (by omega) hk567) (by unfold vp_in; decide) (by decide) ?_
  have z45 := Zr_uI (n := 568) (a := 567) (k := 3) (v := (27 : Int32)) z44 (by omega)
  refine g_dup dX12_init_321 rfl ?_
  refine g_iconst (v := 4) dX12_init_322 (by decide) ?_
  refine g_bipush (v := 81) dX12_init_323 (by decide) ?_
  refine g_iast (j := 4) dX12_init_325 (SK_get (by omega) hk567) (by unfold vp_in; decide) (by decide) ?_
  have z46 := Zr_uI (n := 568) (a := 567) (k := 4) (v := (81 : Int32)) z45 (by omega)
  refine g_dup dX12_init_326 rfl ?_
  refine g_iconst (v := 5) dX12_init_327 (by decide) ?_
  refine g_sipush (v := 243) dX12_init_328 (by decide) ?_
  refine g_iast (j := 5) dX12_init_331 (SK_get (by omega) hk567) (by unfold vp_in; decide) (by decide) ?_
  have z47 := Zr_uI (n := 568) (a := 567) (k := 5) (v := (243 : Int32)) z46 (by omega)
  refine g_putR dX12_init_332 fl12_109 rfl (fun _ => ⟨rfl, fun C T N h => by cases h; rfl⟩) (SK_get (by omega) hk535) ?_
  have z48 := Zr_uR (n := 568) (a := 535) (k := 45) (v := some 567) z47 (by omega)
  refine g_aload_n 0 dX12_init_335 rfl rfl ?_
  refine g_sipush (v := 244) dX12_init_336 (by decide) ?_
  refine K_newa (KR_f (by omega) (by omega) (by omega)) hk568 z48 dX12_init_339 rfl (by decide) ak_int (by decide) (by decide) (by decide) ?_
  refine g_putR dX12_init_341 fl12_112 rfl (fun _ => ⟨rfl, fun C T N h => by cases h; rfl⟩) (SK_get (by omega) hk535) ?_
  have z49 := Zr_uR (n := 569) (a := 535) (k := 50) (v := some 568) (Zr_up z48 (by omega)) (by omega)
  refine g_aload_n 0 dX12_init_344 rfl rfl ?_
  refine g_bipush (v := 28) dX12_init_345 (by decide) ?_
  refine K_newa (KR_f (by omega) (by omega) (by omega)) hk569 z49 dX12_init_347 rfl (by decide) ak_int (by decide) (by decide) (by decide) ?_
  refine g_putR dX12_init_349 fl12_115 rfl (fun _ => ⟨rfl, fun C T N h => by cases h; rfl⟩) (SK_get (by omega) hk535) ?_
  have z50 := Zr_uR (n := 570) (a := 535) (k := 51) (v := some 569) (Zr_up z49 (by omega)) (by omega)
  refine g_aload_n 0 dX12_init_352 rfl rfl ?_
  refine g_sipush (v := 2250) dX12_init_353 (by decide) ?_
  refine K_newa (KR_f (by omega) (by omega) (by omega)) hk570 z50 dX12_init_356 rfl (by decide) ak_int (by decide) (by decide) (by decide) ?_
  refine g_putR dX12_init_358 fl12_118 rfl (fun _ => ⟨rfl, fun C T N h => by cases h; rfl⟩) (SK_get (by omega) hk535) ?_
  have z51 := Zr_uR (n := 571) (a := 535) (k := 52) (v := some 570) (Zr_up z50 (by omega)) (by omega)
  refine g_aload_n 0 dX12_init_361 rfl rfl ?_
  refine g_iconst (v := 4) dX12_init_362 (by decide) ?_
  refine K_newa (KR_f (by omega) (by omega) (by omega)) hk571 z51 dX12_init_363 rfl (by decide) ak_boolean (by decide) (by decide) (by decide) ?_
  refine g_putR dX12_init_365 fl12_121 rfl (fun _ => ⟨rfl, fun C T N h => by cases h; rfl⟩) (SK_get (by omega) hk535) ?_
  have z52 := Zr_uR (n := 572) (a := 535) (k := 53) (v := some 571) (Zr_up z51 (by omega)) (by omega)
  exact g_vret dX12_init_368 rfl enK h
