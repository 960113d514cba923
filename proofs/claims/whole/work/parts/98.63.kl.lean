theorem kX4_init {X : pX} {Q : Option Value → pMem → Prop} {m : pMem} {a  : Nat} (c : SH[a]? = some (.inl 4)) (hz : Zr m (a + 1)) (hn : a + 6 ≤ 572) (h : Q none (uR (uR (uR (uR (uR m a 5 (some (a + 1))) a 6 (some (a + 2))) a 7 (some (a + 3))) a 8 (some (a + 4))) a 9 (some (a + 5)))) : pCl X mX4_init 1 (SK (a + 1)) (SK (a + 6)) [.ref a] m Q := by
  refine pCl_of (by decide +kernel) (Nat.le_of_ble_eq_true rfl) rfl ?_
  refine g_aload_n 0 dX4_init_0 rfl rfl ?_
  refine g_objInit dX4_init_1 oiX4_3 (Nat.le_of_ble_eq_true rfl) ⟨Nat.le_of_ble_eq_true rfl, Nat.le_of_ble_eq_true rfl⟩ ?_
  refine g_aload_n 0 dX4_init_4 rfl rfl ?_
  refine g_bipush (v := 8) dX4_init_5 (by decide) ?_
  refine K_newa (KR_f (by omega) (by omega) (by omega)) (s4_5 c) hz dX4_init_7 rfl (by decide) ak_int (by decide) (by decide) (by decide) ?_
  refine g_putR dX4_init_9 fl4_9 rfl (fun _ => ⟨rfl, fun C T N h => by cases h; rfl⟩) (SK_get (by omega) c) ?_
  have z1 := Zr_uR (n := a + 2) (a := a) (k := 5) (v := some (a + 1)) (Zr_up hz (by omega)) (by omega)
  refine g_aload_n 0 dX4_init_12 rfl rfl ?_
  refine g_iconst (v := 4) dX4_init_13 (by decide) ?_
  refine K_newa (KR_f (by omega) (by omega) (by omega)) (s4_6 c) z1 dX4_init_14 rfl (by decide) ak_int (by decide) (by decide) (by decide) ?_
  refine g_putR dX4_init_16 fl4_15 rfl (fun _ => ⟨rfl, fun C T N h => by cases h; rfl⟩) (SK_get (by omega) c) ?_
  have z2 := Zr_uR (n := a + 3) (a := a) (k := 6) (v := some (a + 2)) (Zr_up z1 (by omega)) (by omega)
  refine g_aload_n 0 dX4_init_19 rfl rfl ?_
  refine g_bipush (v := 6) dX4_init_20 (by decide) ?_
  refine K_newa (KR_f (by omega) (by omega) (by omega)) (s4_7 c) z2 dX4_init_22 rfl (by decide) ak_int (by decide) (by decide) (by decide) ?_
  refine g_putR dX4_init_24 fl4_18 rfl (fun _ => ⟨rfl, fun C T N h => by cases h; rfl⟩) (SK_get (by omega) c) ?_
  have z3 := Zr_uR (n := a + 4) (a := a) (k := 7) (v := some (a + 3)) (Zr_up z2 (by omega)) (by omega)
  refine g_aload_n 0 dX4_init_27 rfl rfl ?_
  refine g_bipush (v := 6) dX4_init_28 (by decide) ?_
  refine K_newa (KR_f (by omega) (by omega) (by omega)) (s4_8 c) z3 dX4_init_30 rfl (by decide) ak_int (by decide) (by decide) (by decide) ?_
  refine g_putR dX4_init_32 fl4_21 rfl (fun _ => ⟨rfl, fun C T N h => by cases h; rfl⟩) (SK_get (by omega) c) ?_
  have z4 := Zr_uR (n := a + 5) (a := a) (k := 8) (v := some (a + 4)) (Zr_up z3 (by omega)) (by omega)
  refine g_aload_n 0 dX4_init_35 rfl rfl ?_
  refine g_bipush (v := 6) dX4_init_36 (by decide) ?_
  refine K_newa (KR_f (by omega) (by omega) (by omega)) (s4_9 c) z4 dX4_init_38 rfl (by decide) ak_int (by decide) (by decide) (by decide) ?_
  refine g_putR dX4_init_40 fl4_24 rfl (fun _ => ⟨rfl, fun C T N h => by cases h; rfl⟩) (SK_get (by omega) c) ?_
  have z5 := Zr_uR (n := a + 6) (a := a) (k := 9) (v := some (a + 5)) (Zr_up z4 (by omega)) (by omega)
  exact g_vret dX4_init_43 rfl enK h
theorem kX8_init {X : pX} {Q : Option Value → pMem → Prop} {m : pMem} {a  : Nat} (c : SH[a]? = some (.inl 8)) (hz : Zr m (a + 1)) (hn : a + 4 ≤ 572) (h : Q none (uR (uR (uR m a 1 (some (a + 1))) a 2 (some (a + 2))) a 3 (some (a + 3)))) : pCl X mX8_init 1 (SK (a + 1)) (SK (a + 4)) [.ref a] m Q := by
  refine pCl_of (by decide +kernel) (Nat.le_of_ble_eq_true rfl) rfl ?_
  refine g_aload_n 0 dX8_init_0 rfl rfl ?_
  refine g_objInit dX8_init_1 oiX8_3 (Nat.le_of_ble_eq_true rfl) ⟨Nat.le_of_ble_eq_true rfl, Nat.le_of_ble_eq_true rfl⟩ ?_
  refine g_aload_n 0 dX8_init_4 rfl rfl ?_
  refine g_iconst (v := 4) dX8_init_5 (by decide) ?_
  refine K_newa (KR_f (by omega) (by omega) (by omega)) (s8_1 c) hz dX8_init_6 rfl (by decide) ak_int (by decide) (by decide) (by decide) ?_
  refine g_putR dX8_init_8 fl8_9 rfl (fun _ => ⟨rfl, fun C T N h => by cases h; rfl⟩) (SK_get (by omega) c) ?_
  have z1 := Zr_uR (n := a + 2) (a := a) (k := 1) (v := some (a + 1)) (Zr_up hz (by omega)) (by omega)
  refine g_aload_n 0 dX8_init_11 rfl rfl ?_
  refine g_iconst (v := 4) dX8_init_12 (by decide) ?_
  refine K_newa (KR_f (by omega) (by omega) (by omega)) (s8_2 c) z1 dX8_init_13 rfl (by decide) ak_int (by decide) (by decide) (by decide) ?_
  refine g_putR dX8_init_15 fl8_15 rfl (fun _ => ⟨rfl, fun C T N h => by cases h; rfl⟩) (SK_get (by omega) c) ?_
  have z2 := Zr_uR (n := a + 3) (a := a) (k := 2) (v := some (a + 2)) (Zr_up z1 (by omega)) (by omega)
  refine g_aload_n 0 dX8_init_18 rfl rfl ?_
  refine g_bipush (v := 6) dX8_init_19 (by decide) ?_
  refine K_newa (KR_f (by omega) (by omega) (by omega)) (s8_3 c) z2 dX8_init_21 rfl (by decide) ak_int (by decide) (by decide) (by decide) ?_
  refine g_putR dX8_init_23 fl8_18 rfl (fun _ => ⟨rfl, fun C T N h => by cases h; rfl⟩) (SK_get (by omega) c) ?_
  have z3 := Zr_uR (n := a + 4) (a := a) (k := 3) (v := some (a + 3)) (Zr_up z2 (by omega)) (by omega)
  exact g_vret dX8_init_26 rfl enK h
theorem kX6_init {X : pX} {Q : Option Value → pMem → Prop} {m : pMem} {a  : Nat} (c : SH[a]? = some (.inl 6)) (hz : Zr m (a + 1)) (hn : a + 3 ≤ 572) (h : Q none (uR (uR m a 0 (some (a + 1))) a 1 (some (a + 2)))) : pCl X mX6_init 1 (SK (a + 1)) (SK (a + 3)) [.ref a] m Q := by
  refine pCl_of (by decide +kernel) (Nat.le_of_ble_eq_true rfl) rfl ?_
  refine g_aload_n 0 dX6_init_0 rfl rfl ?_
  refine g_objInit dX6_init_1 oiX6_1 (Nat.le_of_ble_eq_true rfl) ⟨Nat.le_of_ble_eq_true rfl, Nat.le_of_ble_eq_true rfl⟩ ?_
  refine g_aload_n 0 dX6_init_4 rfl rfl ?_
  refine g_sipush (v := 400) dX6_init_5 (by decide) ?_
  refine K_newa (KR_f (by omega) (by omega) (by omega)) (s6_0 c) hz dX6_init_8 rfl (by decide) ak_int (by decide) (by decide) (by decide) ?_
  refine g_putR dX6_init_10 fl6_9 rfl (fun _ => ⟨rfl, fun C T N h => by cases h; rfl⟩) (SK_get (by omega) c) ?_
  have z1 := Zr_uR (n := a + 2) (a := a) (k := 0) (v := some (a + 1)) (Zr_up hz (by omega)) (by omega)
  refine g_aload_n 0 dX6_init_13 rfl rfl ?_
  refine g_bipush (v := 64) dX6_init_14 (by decide) ?_
  refine K_newa (KR_f (by omega) (by omega) (by omega)) (s6_1 c) z1 dX6_init_16 rfl (by decide) ak_long (by decide) (by decide) (by decide) ?_
  refine g_putR dX6_init_18 fl6_15 rfl (fun _ => ⟨rfl, fun C T N h => by cases h; rfl⟩) (SK_get (by omega) c) ?_
  have z2 := Zr_uR (n := a + 3) (a := a) (k := 1) (v := some (a + 2)) (Zr_up z1 (by omega)) (by omega)
  exact g_vret dX6_init_21 rfl enK h
theorem kX9_init {X : pX} {Q : Option Value → pMem → Prop} {m : pMem} {a  : Nat} (c : SH[a]? = some (.inl 9)) (hz : Zr m (a + 1)) (hn : a + 2 ≤ 572) (h : Q none (uR m a 0 (some (a + 1)))) : pCl X mX9_init 1 (SK (a + 1)) (SK (a + 2)) [.ref a] m Q := by
  refine pCl_of (by decide +kernel) (Nat.le_of_ble_eq_true rfl) rfl ?_
  refine g_aload_n 0 dX9_init_0 rfl rfl ?_
  refine g_objInit dX9_init_1 oiX9_3 (Nat.le_of_ble_eq_true rfl) ⟨Nat.le_of_ble_eq_true rfl, Nat.le_of_ble_eq_true rfl⟩ ?_
  refine g_aload_n 0 dX9_init_4 rfl rfl ?_
  refine g_sipush (v := 400) dX9_init_5 (by decide) ?_
  refine K_newa (KR_f (by omega) (by omega) (by omega)) (s9_0 c) hz dX9_init_8 rfl (by decide) ak_int (by decide) (by decide) (by decide) ?_
  refine g_putR dX9_init_10 fl9_11 rfl (fun _ => ⟨rfl, fun C T N h => by cases h; rfl⟩) (SK_get (by omega) c) ?_
  have z1 := Zr_uR (n := a + 2) (a := a) (k := 0) (v := some (a + 1)) (Zr_up hz (by omega)) (by omega)
  exact g_vret dX9_init_13 rfl enK h
theorem kX3_init {X : pX} {Q : Option Value → pMem → Prop} {m : pMem} {a r1 r2 : Nat} (c : SH[a]? = some (.inl 3)) (hz : Zr m (a + 1)) (hn : a + 1 ≤ 572) (h : Q none (uR (uR m a 0 (some r1)) a 1 (some r2))) : pCl X mX3_init 1 (SK (a + 1)) (SK (a + 1)) [.ref a, .ref r1, .ref r2] m Q := by
  refine pCl_of (by decide +kernel) (Nat.le_of_ble_eq_true rfl) rfl ?_
  refine g_aload_n 0 dX3_init_0 rfl rfl ?_
  refine g_objInit dX3_init_1 oiX3_3 (Nat.le_of_ble_eq_true rfl) ⟨Nat.le_of_ble_eq_true rfl, Nat.le_of_ble_eq_true rfl⟩ ?_
  refine g_aload_n 0 dX3_init_4 rfl rfl ?_
  refine g_aload_n 1 dX3_init_5 rfl rfl ?_
  refine g_putR dX3_init_6 fl3_9 rfl (fun _ => ⟨rfl, fun C T N h => by cases h; rfl⟩) (SK_get (by omega) c) ?_
  have z1 := Zr_uR (n := a + 1) (a := a) (k := 0) (v := some r1) hz (by omega)
  refine g_aload_n 0 dX3_init_9 rfl rfl ?_
  refine g_aload_n 2 dX3_init_10 rfl rfl ?_
  refine g_putR dX3_init_11 fl3_15 rfl (fun _ => ⟨rfl, fun C T N h => by cases h; rfl⟩) (SK_get (by omega) c) ?_
  have z2 := Zr_uR (n := a + 1) (a := a) (k := 1) (v := some r2) z1 (by omega)
  exact g_vret dX3_init_14 rfl enK h
theorem kX7_init {X : pX} {Q : Option Value → pMem → Prop} {m : pMem} {a r1 : Nat} (c : SH[a]? = some (.inl 7)) (hz : Zr m (a + 1)) (hn : a + 1 ≤ 572) (h : Q none (uR m a 0 (some r1))) : pCl X mX7_init 1 (SK (a + 1)) (SK (a + 1)) [.ref a, .ref r1] m Q := by
  refine pCl_of (by decide +kernel) (Nat.le_of_ble_eq_true rfl) rfl ?_
  refine g_aload_n 0 dX7_init_0 rfl rfl ?_
  refine g_objInit dX7_init_1 oiX7_3 (Nat.le_of_ble_eq_true rfl) ⟨Nat.le_of_ble_eq_true rfl, Nat.le_of_ble_eq_true rfl⟩ ?_
  refine g_aload_n 0 dX7_init_4 rfl rfl ?_
  refine g_aload_n 1 dX7_init_5 rfl rfl ?_
  refine g_putR dX7_init_6 fl7_9 rfl (fun _ => ⟨rfl, fun C T N h => by cases h; rfl⟩) (SK_get (by omega) c) ?_
  have z1 := Zr_uR (n := a + 1) (a := a) (k := 0) (v := some r1) hz (by omega)
  exact g_vret dX7_init_9 rfl enK h
theorem kX0_init {X : pX} {Q : Option Value → pMem → Prop} {m : pMem} {a r1 : Nat} (c : SH[a]? = some (.inl 0)) (hz : Zr m (a + 1)) (hn : a + 2 ≤ 572) (h : Q none (uR (uR m a 1 (some (a + 1))) a 0 (some r1))) : pCl X mX0_init 1 (SK (a + 1)) (SK (a + 2)) [.ref a, .ref r1] m Q := by
  refine pCl_of (by decide +kernel) (Nat.le_of_ble_eq_true rfl) rfl ?_
  refine g_aload_n 0 dX0_init_0 rfl rfl ?_
  refine g_objInit dX0_init_1 oiX0_3 (Nat.le_of_ble_eq_true rfl) ⟨Nat.le_of_ble_eq_true rfl, Nat.le_of_ble_eq_true rfl⟩ ?_
  refine g_aload_n 0 dX0_init_4 rfl rfl ?_
  refine g_bipush (v := 12) dX0_init_5 (by decide) ?_
  refine K_newa (KR_f (by omega) (by omega) (by omega)) (s0_1 c) hz dX0_init_7 rfl (by decide) ak_int (by decide) (by decide) (by decide) ?_
  refine g_putR dX0_init_9 fl0_11 rfl (fun _ => ⟨rfl, fun C T N h => by cases h; rfl⟩) (SK_get (by omega) c) ?_
  have z1 := Zr_uR (n := a + 2) (a := a) (k := 1) (v := some (a + 1)) (Zr_up hz (by omega)) (by omega)
  refine g_aload_n 0 dX0_init_12 rfl rfl ?_
  refine g_aload_n 1 dX0_init_13 rfl rfl ?_
  refine g_putR dX0_init_14 fl0_17 rfl (fun _ => ⟨rfl, fun C T N h => by cases h; rfl⟩) (SK_get (by omega) c) ?_
  have z2 := Zr_uR (n := a + 2) (a := a) (k := 0) (v := some r1) z1 (by omega)
  exact g_vret dX0_init_17 rfl enK h
