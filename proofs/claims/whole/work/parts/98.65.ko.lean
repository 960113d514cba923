theorem kX5_init {X : pX} {Q : Option Value → pMem → Prop} {m : pMem} {a r1 : Nat} (c : SH[a]? = some (.inl 5)) (hz : Zr m (a + 1)) (hn : a + 7 ≤ 572) (h : Q none (uR (uR (uR (uR (uR (uR (uR m (a + 1) 5 (some (a + 2))) (a + 1) 6 (some (a + 3))) (a + 1) 7 (some (a + 4))) (a + 1) 8 (some (a + 5))) (a + 1) 9 (some (a + 6))) a 1 (some (a + 1))) a 0 (some r1))) : pCl X mX5_init 2 (SK (a + 1)) (SK (a + 7)) [.ref a, .ref r1] m Q := by
  refine pCl_of (by decide +kernel) (Nat.le_of_ble_eq_true rfl) rfl ?_
  refine g_aload_n 0 dX5_init_0 rfl rfl ?_
  refine g_objInit dX5_init_1 oiX5_3 (Nat.le_of_ble_eq_true rfl) ⟨Nat.le_of_ble_eq_true rfl, Nat.le_of_ble_eq_true rfl⟩ ?_
  refine g_aload_n 0 dX5_init_4 rfl rfl ?_
  refine K_new (KR_f (by omega) (by omega) (by omega)) (s5_1 c) hz dX5_init_5 pCk4 nwX5_9 ?_
  refine g_dup dX5_init_8 rfl ?_
  refine g_callI (As := []) (a := a + 1) (st := [.ref (a + 1), .ref a]) dX5_init_9 clX5_11 rfl rfl (Nat.le_of_ble_eq_true rfl) (rmK (by decide) (by decide) (by omega) (by omega) (by omega) (by omega)) (kX4_init (a := a + 1) (s5_1 c) (Zr_up hz (by omega)) (by omega) ?_)
  have z1 := Zr_uR (n := a + 7) (a := a + 1) (k := 5) (v := some (a + 2)) (Zr_up hz (by omega)) (by omega)
  have z2 := Zr_uR (n := a + 7) (a := a + 1) (k := 6) (v := some (a + 3)) z1 (by omega)
  have z3 := Zr_uR (n := a + 7) (a := a + 1) (k := 7) (v := some (a + 4)) z2 (by omega)
  have z4 := Zr_uR (n := a + 7) (a := a + 1) (k := 8) (v := some (a + 5)) z3 (by omega)
  have z5 := Zr_uR (n := a + 7) (a := a + 1) (k := 9) (v := some (a + 6)) z4 (by omega)
  refine g_putR dX5_init_12 fl5_12 rfl (fun _ => ⟨rfl, fun C T N h => by cases h; rfl⟩) (SK_get (by omega) c) ?_
  have z6 := Zr_uR (n := a + 7) (a := a) (k := 1) (v := some (a + 1)) z5 (by omega)
  refine g_aload_n 0 dX5_init_15 rfl rfl ?_
  refine g_aload_n 1 dX5_init_16 rfl rfl ?_
  refine g_putR dX5_init_17 fl5_18 rfl (fun _ => ⟨rfl, fun C T N h => by cases h; rfl⟩) (SK_get (by omega) c) ?_
  have z7 := Zr_uR (n := a + 7) (a := a) (k := 0) (v := some r1) z6 (by omega)
  exact g_vret dX5_init_20 rfl enK h
/-- a world, made -/
def mW (m : pMem) (a : Nat) : pMem := uC (uF (uF (uI (uF (uI (uI (uI (uI (uI (uR (uR (uR (uI (uR (mP (uR (uR (uR (uR (uR (uR (uR (uR (uR (uR m (a + 1) 5 (some (a + 2))) (a + 1) 6 (some (a + 3))) (a + 1) 7 (some (a + 4))) (a + 1) 8 (some (a + 5))) (a + 1) 9 (some (a + 6))) a 0 (some (a + 1))) (a + 7) 1 (some (a + 8))) (a + 7) 2 (some (a + 9))) (a + 7) 3 (some (a + 10))) a 1 (some (a + 7))) (a + 11) 20) a 2 (some (a + 11))) a 3 (-1 : Int32)) a 6 (some (a + 93))) a 7 (some (a + 94))) a 8 (some (a + 95))) (a + 1) 0 (0 : Int32)) (a + 1) 1 (0 : Int32)) (a + 1) 2 (0 : Int32)) (a + 1) 3 (0 : Int32)) (a + 1) 4 (0 : Int32)) (a + 1 + 5) 6 (-1)) (a + 7) 0 (0 : Int32)) (a + 7 + 1) 4 0) (a + 7 + 2) 4 0) (a + 1 + 5) 0 (a + 7 + 3) 0 6
theorem kX10_init {X : pX} {Q : Option Value → pMem → Prop} {m : pMem} {a : Nat} (c : SH[a]? = some (.inl 10)) (hz : Zr m (a + 1)) (hn : a + 96 ≤ 572) (h : Q none (mW m a)) : pCl X mX10_init 3 (SK (a + 1)) (SK (a + 96)) [.ref a] m Q := by
  refine pCl_of (by decide +kernel) (Nat.le_of_ble_eq_true rfl) rfl ?_
  refine g_aload_n 0 dX10_init_0 rfl rfl ?_
  refine g_objInit dX10_init_1 oiX10_3 (Nat.le_of_ble_eq_true rfl) ⟨Nat.le_of_ble_eq_true rfl, Nat.le_of_ble_eq_true rfl⟩ ?_
  refine g_aload_n 0 dX10_init_4 rfl rfl ?_
  refine K_new (KR_f (by omega) (by omega) (by omega)) (s10_0 c) hz dX10_init_5 pCk4 nwX10_9 ?_
  refine g_dup dX10_init_8 rfl ?_
  refine g_callI (As := []) (a := a + 1) (st := [.ref (a + 1), .ref a]) dX10_init_9 clX10_11 rfl rfl (Nat.le_of_ble_eq_true rfl) (rmK (by decide) (by decide) (by omega) (by omega) (by omega) (by omega)) (kX4_init (a := a + 1) (s10_0 c) (Zr_up hz (by omega)) (by omega) ?_)
  have z1 := Zr_uR (n := a + 7) (a := a + 1) (k := 5) (v := some (a + 2)) (Zr_up hz (by omega)) (by omega)
  have z2 := Zr_uR (n := a + 7) (a := a + 1) (k := 6) (v := some (a + 3)) z1 (by omega)
  have z3 := Zr_uR (n := a + 7) (a := a + 1) (k := 7) (v := some (a + 4)) z2 (by omega)
  have z4 := Zr_uR (n := a + 7) (a := a + 1) (k := 8) (v := some (a + 5)) z3 (by omega)
  have z5 := Zr_uR (n := a + 7) (a := a + 1) (k := 9) (v := some (a + 6)) z4 (by omega)
  refine g_putR dX10_init_12 fl10_12 rfl (fun _ => ⟨rfl, fun C T N h => by cases h; rfl⟩) (SK_get (by omega) c) ?_
  have z6 := Zr_uR (n := a + 7) (a := a) (k := 0) (v := some (a + 1)) z5 (by omega)
  refine g_aload_n 0 dX10_init_15 rfl rfl ?_
  refine K_new (KR_f (by omega) (by omega) (by omega)) (s10_1 c) z6 dX10_init_16 pCk8 nwX10_18 ?_
  refine g_dup dX10_init_19 rfl ?_
  refine g_callI (As := []) (a := a + 7) (st := [.ref (a + 7), .ref a]) dX10_init_20 clX10_20 rfl rfl (Nat.le_of_ble_eq_true rfl) (rmK (by decide) (by decide) (by omega) (by omega) (by omega) (by omega)) (kX8_init (a := a + 7) (s10_1 c) (Zr_up z6 (by omega)) (by omega) ?_)
  have z7 := Zr_uR (n := a + 11) (a := a + 7) (k := 1) (v := some (a + 8)) (Zr_up z6 (by omega)) (by omega)
  have z8 := Zr_uR (n := a + 11) (a := a + 7) (k := 2) (v := some (a + 9)) z7 (by omega)
  have z9 := Zr_uR (n := a + 11) (a := a + 7) (k := 3) (v := some (a + 10)) z8 (by omega)
  refine g_putR dX10_init_23 fl10_21 rfl (fun _ => ⟨rfl, fun C T N h => by cases h; rfl⟩) (SK_get (by omega) c) ?_
  have z10 := Zr_uR (n := a + 11) (a := a) (k := 1) (v := some (a + 7)) z9 (by omega)
  refine g_aload_n 0 dX10_init_26 rfl rfl ?_
  refine K_new (KR_f (by omega) (by omega) (by omega)) (s10_2 c) z10 dX10_init_27 pCk2 nwX10_25 ?_
  refine g_dup dX10_init_30 rfl ?_
  refine g_callI (As := []) (a := a + 11) (st := [.ref (a + 11), .ref a]) dX10_init_31 clX10_27 rfl rfl (Nat.le_of_ble_eq_true rfl) (rmK (by decide) (by decide) (by omega) (by omega) (by omega) (by omega)) (kX2_init (a := a + 11) (s10_2 c) (Zr_up z10 (by omega)) (by omega) ?_)
  have z11 := Zr_mP (a := a + 11) (i := 20) (Zr_up z10 (by omega))
  refine g_putR dX10_init_34 fl10_28 rfl (fun _ => ⟨rfl, fun C T N h => by cases h; rfl⟩) (SK_get (by omega) c) ?_
  have z12 := Zr_uR (n := a + 93) (a := a) (k := 2) (v := some (a + 11)) z11 (by omega)
  refine g_aload_n 0 dX10_init_37 rfl rfl ?_
  refine g_iconst (v := -1) dX10_init_38 (by decide) ?_
  refine g_putI dX10_init_39 fl10_32 (fun _ => ⟨rfl, fun C T N h => by cases h; rfl⟩) (SK_get (by omega) c) ?_
  have z13 := Zr_uI (n := a + 93) (a := a) (k := 3) (v := (-1 : Int32)) z12 (by omega)
  refine g_aload_n 0 dX10_init_42 rfl rfl ?_
  refine g_bipush (v := 10) dX10_init_43 (by decide) ?_
  refine K_newa (KR_f (by omega) (by omega) (by omega)) (s10_6 c) z13 dX10_init_45 rfl (by decide) ak_int (by decide) (by decide) (by decide) ?_
  refine g_putR dX10_init_47 fl10_36 rfl (fun _ => ⟨rfl, fun C T N h => by cases h; rfl⟩) (SK_get (by omega) c) ?_
  have z14 := Zr_uR (n := a + 94) (a := a) (k := 6) (v := some (a + 93)) (Zr_up z13 (by omega)) (by omega)
  refine g_aload_n 0 dX10_init_50 rfl rfl ?_
  refine g_bipush (v := 10) dX10_init_51 (by decide) ?_
  refine K_newa (KR_f (by omega) (by omega) (by omega)) (s10_7 c) z14 dX10_init_53 rfl (by decide) ak_int (by decide) (by decide) (by decide) ?_
  refine g_putR dX10_init_55 fl10_40 rfl (fun _ => ⟨rfl, fun C T N h => by cases h; rfl⟩) (SK_get (by omega) c) ?_
  have z15 := Zr_uR (n := a + 95) (a := a) (k := 7) (v := some (a + 94)) (Zr_up z14 (by omega)) (by omega)
  refine g_aload_n 0 dX10_init_58 rfl rfl ?_
  refine g_bipush (v := 10) dX10_init_59 (by decide) ?_
  refine K_newa (KR_f (by omega) (by omega) (by omega)) (s10_8 c) z15 dX10_init_61 rfl (by decide) ak_int (by decide) (by decide) (by decide) ?_
  refine g_putR dX10_init_63 fl10_43 rfl (fun _ => ⟨rfl, fun C T N h => by cases h; rfl⟩) (SK_get (by omega) c) ?_
  have z16 := Zr_uR (n := a + 96) (a := a) (k := 8) (v := some (a + 95)) (Zr_up z15 (by omega)) (by omega)
  have hr9 : mR (uR (uR (uR (uI (uR (mP (uR (uR (uR (uR (uR (uR (uR (uR (uR (uR m (a + 1) 5 (some (a + 2))) (a + 1) 6 (some (a + 3))) (a + 1) 7 (some (a + 4))) (a + 1) 8 (some (a + 5))) (a + 1) 9 (some (a + 6))) a 0 (some (a + 1))) (a + 7) 1 (some (a + 8))) (a + 7) 2 (some (a + 9))) (a + 7) 3 (some (a + 10))) a 1 (some (a + 7))) (a + 11) 20) a 2 (some (a + 11))) a 3 (-1 : Int32)) a 6 (some (a + 93))) a 7 (some (a + 94))) a 8 (some (a + 95))) (a + 1) 9 = some (a + 1 + 5) := (by simp only [mR_uR, mR_uI, mR_uFk, mR_uC, mR_mP]; (repeat (first | rw [if_pos (by omega)] | rw [if_neg (by omega)])); try simp)
  have hs1 : mR (uR (uR (uR (uI (uR (mP (uR (uR (uR (uR (uR (uR (uR (uR (uR (uR m (a + 1) 5 (some (a + 2))) (a + 1) 6 (some (a + 3))) (a + 1) 7 (some (a + 4))) (a + 1) 8 (some (a + 5))) (a + 1) 9 (some (a + 6))) a 0 (some (a + 1))) (a + 7) 1 (some (a + 8))) (a + 7) 2 (some (a + 9))) (a + 7) 3 (some (a + 10))) a 1 (some (a + 7))) (a + 11) 20) a 2 (some (a + 11))) a 3 (-1 : Int32)) a 6 (some (a + 93))) a 7 (some (a + 94))) a 8 (some (a + 95))) (a + 7) 1 = some (a + 7 + 1) := (by simp only [mR_uR, mR_uI, mR_uFk, mR_uC, mR_mP]; (repeat (first | rw [if_pos (by omega)] | rw [if_neg (by omega)])); try simp)
  have hs2 : mR (uR (uR (uR (uI (uR (mP (uR (uR (uR (uR (uR (uR (uR (uR (uR (uR m (a + 1) 5 (some (a + 2))) (a + 1) 6 (some (a + 3))) (a + 1) 7 (some (a + 4))) (a + 1) 8 (some (a + 5))) (a + 1) 9 (some (a + 6))) a 0 (some (a + 1))) (a + 7) 1 (some (a + 8))) (a + 7) 2 (some (a + 9))) (a + 7) 3 (some (a + 10))) a 1 (some (a + 7))) (a + 11) 20) a 2 (some (a + 11))) a 3 (-1 : Int32)) a 6 (some (a + 93))) a 7 (some (a + 94))) a 8 (some (a + 95))) (a + 7) 2 = some (a + 7 + 2) := (by simp only [mR_uR, mR_uI, mR_uFk, mR_uC, mR_mP]; (repeat (first | rw [if_pos (by omega)] | rw [if_neg (by omega)])); try simp)
  have hs3 : mR (uR (uR (uR (uI (uR (mP (uR (uR (uR (uR (uR (uR (uR (uR (uR (uR m (a + 1) 5 (some (a + 2))) (a + 1) 6 (some (a + 3))) (a + 1) 7 (some (a + 4))) (a + 1) 8 (some (a + 5))) (a + 1) 9 (some (a + 6))) a 0 (some (a + 1))) (a + 7) 1 (some (a + 8))) (a + 7) 2 (some (a + 9))) (a + 7) 3 (some (a + 10))) a 1 (some (a + 7))) (a + 11) 20) a 2 (some (a + 11))) a 3 (-1 : Int32)) a 6 (some (a + 93))) a 7 (some (a + 94))) a 8 (some (a + 95))) (a + 7) 3 = some (a + 7 + 3) := (by simp only [mR_uR, mR_uI, mR_uFk, mR_uC, mR_mP]; (repeat (first | rw [if_pos (by omega)] | rw [if_neg (by omega)])); try simp)
  have hw0 : mR (uR (uR (uR (uI (uR (mP (uR (uR (uR (uR (uR (uR (uR (uR (uR (uR m (a + 1) 5 (some (a + 2))) (a + 1) 6 (some (a + 3))) (a + 1) 7 (some (a + 4))) (a + 1) 8 (some (a + 5))) (a + 1) 9 (some (a + 6))) a 0 (some (a + 1))) (a + 7) 1 (some (a + 8))) (a + 7) 2 (some (a + 9))) (a + 7) 3 (some (a + 10))) a 1 (some (a + 7))) (a + 11) 20) a 2 (some (a + 11))) a 3 (-1 : Int32)) a 6 (some (a + 93))) a 7 (some (a + 94))) a 8 (some (a + 95))) a 0 = some (a + 1) := (by simp only [mR_uR, mR_uI, mR_uFk, mR_uC, mR_mP]; (repeat (first | rw [if_pos (by omega)] | rw [if_neg (by omega)])); try simp)
  have hw1 : mR (uR (uR (uR (uI (uR (mP (uR (uR (uR (uR (uR (uR (uR (uR (uR (uR m (a + 1) 5 (some (a + 2))) (a + 1) 6 (some (a + 3))) (a + 1) 7 (some (a + 4))) (a + 1) 8 (some (a + 5))) (a + 1) 9 (some (a + 6))) a 0 (some (a + 1))) (a + 7) 1 (some (a + 8))) (a + 7) 2 (some (a + 9))) (a + 7) 3 (some (a + 10))) a 1 (some (a + 7))) (a + 11) 20) a 2 (some (a + 11))) a 3 (-1 : Int32)) a 6 (some (a + 93))) a 7 (some (a + 94))) a 8 (some (a + 95))) a 1 = some (a + 7) := (by simp only [mR_uR, mR_uI, mR_uFk, mR_uC, mR_mP]; (repeat (first | rw [if_pos (by omega)] | rw [if_neg (by omega)])); try simp)
  refine g_aload_n 0 dX10_init_66 rfl rfl ?_
  refine g_getR dX10_init_67 fl10_12 rfl (SK_get (by omega) c) hw0 ?_
  refine g_callV (As := []) (a := a + 1) (st := []) dX10_init_70 clX10_46 (SK_get (by omega) (s10_0 c)) rfl rfl (Nat.le_of_ble_eq_true rfl) (rmK (by decide) (by decide) (by omega) (Nat.le_refl _) (by omega) (by omega)) (clearK (by omega) (s10_0 c) (by omega) hr9 ?_)
  refine g_aload_n 0 dX10_init_73 rfl rfl ?_
  refine g_getR dX10_init_74 fl10_12 rfl (SK_get (by omega) c) hw0 ?_
  refine g_aload_n 0 dX10_init_77 rfl rfl ?_
  refine g_getR dX10_init_78 fl10_21 rfl (SK_get (by omega) c) hw1 ?_
  refine g_callV (As := [.ref (a + 7)]) (a := a + 1) (st := []) dX10_init_81 clX10_49 (SK_get (by omega) (s10_0 c)) rfl rfl (Nat.le_of_ble_eq_true rfl) (rmK (by decide) (by decide) (by omega) (Nat.le_refl _) (by omega) (by omega)) (beginK (by omega) (s10_0 c) (s10_1 c) (by omega) (by omega) hr9 hs1 hs2 hs3 ?_)
  exact g_vret dX10_init_84 rfl enK h
