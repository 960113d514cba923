theorem Zr_m11 : Zr m11 535 := by
  have z1 := Zr_uR (n := 3) (a := 1) (k := 0) (v := some 2) (Zr_up (Zr_m0 1) (by omega)) (by omega)
  have z2 := Zr_uR (n := 3) (a := 0) (k := 0) (v := some 1) z1 (by omega)
  have z3 := Zr_uR (n := 10) (a := 4) (k := 5) (v := some 5) (Zr_up z2 (by omega)) (by omega)
  have z4 := Zr_uR (n := 10) (a := 4) (k := 6) (v := some 6) z3 (by omega)
  have z5 := Zr_uR (n := 10) (a := 4) (k := 7) (v := some 7) z4 (by omega)
  have z6 := Zr_uR (n := 10) (a := 4) (k := 8) (v := some 8) z5 (by omega)
  have z7 := Zr_uR (n := 10) (a := 4) (k := 9) (v := some 9) z6 (by omega)
  have z8 := Zr_uR (n := 10) (a := 3) (k := 1) (v := some 4) z7 (by omega)
  have z9 := Zr_uR (n := 10) (a := 3) (k := 0) (v := some 1) z8 (by omega)
  have z10 := Zr_uR (n := 10) (a := 0) (k := 1) (v := some 3) z9 (by omega)
  have z11 := Zr_uR (n := 11) (a := 10) (k := 0) (v := some 1) (Zr_up z10 (by omega)) (by omega)
  have z12 := Zr_uR (n := 11) (a := 0) (k := 2) (v := some 10) z11 (by omega)
  have z13 := Zr_uR (n := 12) (a := 0) (k := 3) (v := some 11) (Zr_up z12 (by omega)) (by omega)
  have z14 := Zr_uR (n := 15) (a := 12) (k := 0) (v := some 13) (Zr_up z13 (by omega)) (by omega)
  have z15 := Zr_uR (n := 15) (a := 12) (k := 1) (v := some 14) z14 (by omega)
  have z16 := Zr_uR (n := 15) (a := 11) (k := 0) (v := some 12) z15 (by omega)
  have z17 := Zr_uR (n := 18) (a := 15) (k := 0) (v := some 16) (Zr_up z16 (by omega)) (by omega)
  have z18 := Zr_uR (n := 18) (a := 15) (k := 1) (v := some 17) z17 (by omega)
  have z19 := Zr_uR (n := 18) (a := 11) (k := 1) (v := some 15) z18 (by omega)
  have z20 := Zr_uR (n := 21) (a := 18) (k := 0) (v := some 19) (Zr_up z19 (by omega)) (by omega)
  have z21 := Zr_uR (n := 21) (a := 18) (k := 1) (v := some 20) z20 (by omega)
  have z22 := Zr_uR (n := 21) (a := 11) (k := 2) (v := some 18) z21 (by omega)
  have z23 := Zr_uR (n := 24) (a := 21) (k := 0) (v := some 22) (Zr_up z22 (by omega)) (by omega)
  have z24 := Zr_uR (n := 24) (a := 21) (k := 1) (v := some 23) z23 (by omega)
  have z25 := Zr_uR (n := 24) (a := 11) (k := 3) (v := some 21) z24 (by omega)
  have z26 := Zr_uR (n := 27) (a := 24) (k := 0) (v := some 25) (Zr_up z25 (by omega)) (by omega)
  have z27 := Zr_uR (n := 27) (a := 24) (k := 1) (v := some 26) z26 (by omega)
  have z28 := Zr_uR (n := 27) (a := 11) (k := 4) (v := some 24) z27 (by omega)
  have z29 := Zr_uR (n := 30) (a := 27) (k := 0) (v := some 28) (Zr_up z28 (by omega)) (by omega)
  have z30 := Zr_uR (n := 30) (a := 27) (k := 1) (v := some 29) z29 (by omega)
  have z31 := Zr_uR (n := 30) (a := 11) (k := 5) (v := some 27) z30 (by omega)
  have z32 := Zr_mW (a := 30) (Zr_up z31 (by omega))
  have z33 := Zr_uR (n := 126) (a := 0) (k := 5) (v := some 30) z32 (by omega)
  have z34 := Zr_uR (n := 127) (a := 0) (k := 6) (v := some 126) (Zr_up z33 (by omega)) (by omega)
  have z35 := Zr_mW (a := 127) (Zr_up z34 (by omega))
  have z36 := Zr_uR (n := 223) (a := 126) (k := 0) (v := some 127) z35 (by omega)
  have z37 := Zr_mW (a := 223) (Zr_up z36 (by omega))
  have z38 := Zr_uR (n := 319) (a := 126) (k := 1) (v := some 223) z37 (by omega)
  have z39 := Zr_mW (a := 319) (Zr_up z38 (by omega))
  have z40 := Zr_uR (n := 415) (a := 126) (k := 2) (v := some 319) z39 (by omega)
  have z41 := Zr_mW (a := 415) (Zr_up z40 (by omega))
  have z42 := Zr_uR (n := 511) (a := 126) (k := 3) (v := some 415) z41 (by omega)
  have z43 := Zr_uR (n := 512) (a := 0) (k := 7) (v := some 511) (Zr_up z42 (by omega)) (by omega)
  have z44 := Zr_uR (n := 514) (a := 512) (k := 1) (v := some 513) (Zr_up z43 (by omega)) (by omega)
  have z45 := Zr_uR (n := 514) (a := 512) (k := 0) (v := some 31) z44 (by omega)
  have z46 := Zr_uR (n := 514) (a := 0) (k := 8) (v := some 512) z45 (by omega)
  have z47 := Zr_uR (n := 515) (a := 514) (k := 0) (v := some 31) (Zr_up z46 (by omega)) (by omega)
  have z48 := Zr_uR (n := 515) (a := 514) (k := 1) (v := some 37) z47 (by omega)
  have z49 := Zr_uR (n := 515) (a := 0) (k := 9) (v := some 514) z48 (by omega)
  have z50 := Zr_uR (n := 523) (a := 515) (k := 2) (v := some 516) (Zr_up z49 (by omega)) (by omega)
  have z51 : Zr (uM (uR (uR (uR (uR (uR (uR (uR (uR (uR (mW (uR (mW (uR (mW (uR (mW (uR (uR (mW (uR (uR (uR (uR (uR (uR (uR (uR (uR (uR (uR (uR (uR (uR (uR (uR (uR (uR (uR (uR (uR (uR (uR (uR (uR (uR (uR (uR (uR (uR (uR m0 1 0 (some 2)) 0 0 (some 1)) 4 5 (some 5)) 4 6 (some 6)) 4 7 (some 7)) 4 8 (some 8)) 4 9 (some 9)) 3 1 (some 4)) 3 0 (some 1)) 0 1 (some 3)) 10 0 (some 1)) 0 2 (some 10)) 0 3 (some 11)) 12 0 (some 13)) 12 1 (some 14)) 11 0 (some 12)) 15 0 (some 16)) 15 1 (some 17)) 11 1 (some 15)) 18 0 (some 19)) 18 1 (some 20)) 11 2 (some 18)) 21 0 (some 22)) 21 1 (some 23)) 11 3 (some 21)) 24 0 (some 25)) 24 1 (some 26)) 11 4 (some 24)) 27 0 (some 28)) 27 1 (some 29)) 11 5 (some 27)) 30) 0 5 (some 30)) 0 6 (some 126)) 127) 126 0 (some 127)) 223) 126 1 (some 223)) 319) 126 2 (some 319)) 415) 126 3 (some 415)) 0 7 (some 511)) 512 1 (some 513)) 512 0 (some 31)) 0 8 (some 512)) 514 0 (some 31)) 514 1 (some 37)) 0 9 (some 514)) 515 2 (some 516)) 517 2) 520 := Zr_uM
  have z52 := Zr_uR (n := 523) (a := 515) (k := 3) (v := some 517) (Zr_up z51 (by omega)) (by omega)
  have z53 := Zr_uR (n := 523) (a := 515) (k := 4) (v := some 520) z52 (by omega)
  have z54 := Zr_uR (n := 523) (a := 515) (k := 5) (v := some 521) z53 (by omega)
  have z55 := Zr_uR (n := 523) (a := 515) (k := 7) (v := some 522) z54 (by omega)
  have z56 := Zr_uR (n := 523) (a := 515) (k := 0) (v := some 31) z55 (by omega)
  have z57 := Zr_uR (n := 523) (a := 515) (k := 1) (v := some 37) z56 (by omega)
  have z58 := Zr_uR (n := 523) (a := 0) (k := 10) (v := some 515) z57 (by omega)
  have z59 := Zr_uR (n := 527) (a := 523) (k := 1) (v := some 524) (Zr_up z58 (by omega)) (by omega)
  have z60 := Zr_uR (n := 527) (a := 523) (k := 2) (v := some 525) z59 (by omega)
  have z61 := Zr_uR (n := 527) (a := 523) (k := 3) (v := some 526) z60 (by omega)
  have z62 := Zr_uR (n := 527) (a := 0) (k := 11) (v := some 523) z61 (by omega)
  have z63 : Zr (uM (uR (uR (uR (uR (uR (uR (uR (uR (uR (uR (uR (uM (uR (uR (uR (uR (uR (uR (uR (uR (uR (mW (uR (mW (uR (mW (uR (mW (uR (uR (mW (uR (uR (uR (uR (uR (uR (uR (uR (uR (uR (uR (uR (uR (uR (uR (uR (uR (uR (uR (uR (uR (uR (uR (uR (uR (uR (uR (uR (uR (uR (uR m0 1 0 (some 2)) 0 0 (some 1)) 4 5 (some 5)) 4 6 (some 6)) 4 7 (some 7)) 4 8 (some 8)) 4 9 (some 9)) 3 1 (some 4)) 3 0 (some 1)) 0 1 (some 3)) 10 0 (some 1)) 0 2 (some 10)) 0 3 (some 11)) 12 0 (some 13)) 12 1 (some 14)) 11 0 (some 12)) 15 0 (some 16)) 15 1 (some 17)) 11 1 (some 15)) 18 0 (some 19)) 18 1 (some 20)) 11 2 (some 18)) 21 0 (some 22)) 21 1 (some 23)) 11 3 (some 21)) 24 0 (some 25)) 24 1 (some 26)) 11 4 (some 24)) 27 0 (some 28)) 27 1 (some 29)) 11 5 (some 27)) 30) 0 5 (some 30)) 0 6 (some 126)) 127) 126 0 (some 127)) 223) 126 1 (some 223)) 319) 126 2 (some 319)) 415) 126 3 (some 415)) 0 7 (some 511)) 512 1 (some 513)) 512 0 (some 31)) 0 8 (some 512)) 514 0 (some 31)) 514 1 (some 37)) 0 9 (some 514)) 515 2 (some 516)) 517 2) 515 3 (some 517)) 515 4 (some 520)) 515 5 (some 521)) 515 7 (some 522)) 515 0 (some 31)) 515 1 (some 37)) 0 10 (some 515)) 523 1 (some 524)) 523 2 (some 525)) 523 3 (some 526)) 0 11 (some 523)) 527 7) 535 := Zr_uM
  have z64 := Zr_uR (n := 535) (a := 0) (k := 12) (v := some 527) z63 (by omega)
  exact z64
theorem mF_12 : Wf12 mF := by unfold Wf12; exact wf_of (by decide +kernel)
theorem mF_W : Wf mF := ⟨mF_0, mF_1, mF_2, mF_3, mF_4, mF_5, mF_6, mF_7, mF_8, mF_9, mF_10, mF_11, mF_12, mF_R⟩
theorem mF_c : ConI mF := ⟨by decide +kernel, by decide +kernel⟩
theorem mF_t : TapeI mF := ⟨0, Nat.zero_le _, by decide +kernel, by decide +kernel, fun j hj => absurd hj (Nat.not_lt_zero _)⟩
theorem mF_r : RulesI mF 0 := ⟨Nat.zero_le _, by decide +kernel, by decide +kernel, fun j hj => absurd hj (Nat.not_lt_zero _)⟩
theorem mF_f30 : FirstI mF 30 := ⟨0, by decide, by decide +kernel⟩
theorem mF_i1 : ∀ k, k < 4 → mI mF 571 k = mI mF 511 k := by decide +kernel
theorem mF_i2 : ∀ k, k < 4 → mI mF (127 + 96 * k + 11) 1 = nI 0 := by decide +kernel
theorem mF_i3 : ∀ k, k < 4 → mI mF 511 k = 0 := by decide +kernel
theorem mF_i : ImgI mF 0 := fun k hk => ⟨mF_i1 k hk, ⟨0, by decide, mF_i2 k hk⟩, Or.inl (mF_i3 k hk)⟩
theorem mF_w1 : AgR 17 (fc mF 30) (fm mF) := by unfold AgR; decide +kernel
theorem mF_w2 : ∀ t, t < 6 → fc mF 30 (17 + t) = -1 := by decide +kernel
theorem mF_w3 : ∀ t, t < 6 → fc mF 30 (78 + t) = -1 := by decide +kernel
theorem mF_w : Weq 0 (fc mF 30) (fm mF) := by
  refine ⟨0, 0, 0, 0, 0, 0, ⟨by decide, by decide, by decide, by decide, by decide, by decide⟩, ⟨by decide +kernel, by decide +kernel, by decide +kernel, by decide +kernel, by decide +kernel, by decide +kernel⟩, ⟨mF_w1, by decide +kernel⟩, Or.inl (by decide +kernel), Or.inl (by decide +kernel), by decide +kernel, fun q hq => absurd hq (Nat.not_lt_zero _), ⟨fun j hj => absurd hj (Nat.not_lt_zero _), fun t _ ht => mF_w2 t ht⟩, fun j hj => absurd hj (Nat.not_lt_zero _), fun j hj => absurd hj (Nat.not_lt_zero _), fun j hj => absurd hj (Nat.not_lt_zero _), fun j hj => absurd hj (Nat.not_lt_zero _), fun j hj => absurd hj (Nat.not_lt_zero _), ⟨fun j hj => absurd hj (Nat.not_lt_zero _), fun t _ ht => mF_w3 t ht⟩, fun j hj => absurd hj (Nat.not_lt_zero _)⟩
theorem mF_I : Inv mF := ⟨mF_W, mF_c, mF_t, 0, mF_r, mF_i, mF_f30, mF_w⟩
/-- the law, from its entry -/
theorem law_start {X : pX} {Z : List Frame → Array Value → State → State → Prop} (hL : pLn X ≤ 3072) (hz : ∀ x m, Wf m → GoL X Z 1189 [(0, .retAddr 0), (1, .ref 0), (2, .ref 535), (3, .int x)] [.int 1] m) : pGo X mL_law room_1 0 0 Z 0 [(0, .retAddr 0)] [] (SK 0) m0 := by
  refine K_new (KR_l (by omega)) hk0 (Zr_m0 0) dL_law_0 pCk11 nwL_7 ?_
  refine g_dup dL_law_3 rfl ?_
  refine g_callI (As := []) (a := 0) (st := [.ref 0]) dL_law_4 clL_9 rfl rfl (Nat.le_of_ble_eq_true rfl) (rmKL (n2 := 535) (by decide) (by decide) (by omega) (by omega)) (kX11_init ?_)
  refine g_astore_n (ls2 := [(1, .ref 0), (0, .retAddr 0)]) dL_law_7 rfl (by decide) rfl ?_
  refine K_new (KR_l (by omega)) hk535 Zr_m11 dL_law_8 pCk12 nwL_10 ?_
  refine g_dup dL_law_11 rfl ?_
  refine g_callI (As := []) (a := 535) (st := [.ref 535]) dL_law_12 clL_12 rfl rfl (Nat.le_of_ble_eq_true rfl) (rmKL (n2 := 572) (by decide) (by decide) (by omega) (by omega)) (kX12_init (Zr_up Zr_m11 (by omega)) ?_)
  refine g_astore_n (ls2 := [(2, .ref 535), (1, .ref 0), (0, .retAddr 0)]) dL_law_15 rfl (by decide) rfl ?_
  refine g_iconst (v := 0) dL_law_16 (by decide) ?_
  refine g_istore_n (ls2 := [(3, .int (0 : Int32)), (2, .ref 535), (1, .ref 0), (0, .retAddr 0)]) dL_law_17 rfl (by decide) rfl ?_
  refine g_ls [3, 2, 1, 0] rfl ?_
  rw [SK_end]
  exact law_loop hL hz (pLn X + 1) 0 mF (by omega) (by omega) mF_I
