theorem Zr_uF {m : pMem} {a n k : Nat} {v : Int32} (h : Zr m n) (ha : a < n) : Zr (uF m a k v) n := fun x hx y => by
  refine ⟨?_, (h x hx y).2.1, (h x hx y).2.2⟩
  rw [mI_uF, if_neg (by omega)]
  exact (h x hx y).1
theorem Zr_uC {m : pMem} {a sp b dp k n : Nat} (h : Zr m n) (ha : b < n) : Zr (uC m a sp b dp k) n := fun x hx y => by
  refine ⟨?_, (h x hx y).2.1, (h x hx y).2.2⟩
  rw [mI_uC, if_neg (by omega)]
  exact (h x hx y).1
theorem Zr_mW {m : pMem} {a : Nat} (hz : Zr m (a + 1)) : Zr (mW m a) (a + 96) := by
  have z1 := Zr_uR (n := a + 7) (a := a + 1) (k := 5) (v := some (a + 2)) (Zr_up hz (by omega)) (by omega)
  have z2 := Zr_uR (n := a + 7) (a := a + 1) (k := 6) (v := some (a + 3)) z1 (by omega)
  have z3 := Zr_uR (n := a + 7) (a := a + 1) (k := 7) (v := some (a + 4)) z2 (by omega)
  have z4 := Zr_uR (n := a + 7) (a := a + 1) (k := 8) (v := some (a + 5)) z3 (by omega)
  have z5 := Zr_uR (n := a + 7) (a := a + 1) (k := 9) (v := some (a + 6)) z4 (by omega)
  have z6 := Zr_uR (n := a + 7) (a := a) (k := 0) (v := some (a + 1)) z5 (by omega)
  have z7 := Zr_uR (n := a + 11) (a := a + 7) (k := 1) (v := some (a + 8)) (Zr_up z6 (by omega)) (by omega)
  have z8 := Zr_uR (n := a + 11) (a := a + 7) (k := 2) (v := some (a + 9)) z7 (by omega)
  have z9 := Zr_uR (n := a + 11) (a := a + 7) (k := 3) (v := some (a + 10)) z8 (by omega)
  have z10 := Zr_uR (n := a + 11) (a := a) (k := 1) (v := some (a + 7)) z9 (by omega)
  have z11 := Zr_mP (a := a + 11) (i := 20) (Zr_up z10 (by omega))
  have z12 := Zr_uR (n := a + 93) (a := a) (k := 2) (v := some (a + 11)) z11 (by omega)
  have z13 := Zr_uI (n := a + 93) (a := a) (k := 3) (v := (-1 : Int32)) z12 (by omega)
  have z14 := Zr_uR (n := a + 94) (a := a) (k := 6) (v := some (a + 93)) (Zr_up z13 (by omega)) (by omega)
  have z15 := Zr_uR (n := a + 95) (a := a) (k := 7) (v := some (a + 94)) (Zr_up z14 (by omega)) (by omega)
  have z16 := Zr_uR (n := a + 96) (a := a) (k := 8) (v := some (a + 95)) (Zr_up z15 (by omega)) (by omega)
  exact Zr_uC (n := a + 96) (a := a + 1 + 5) (sp := 0) (b := a + 7 + 3) (dp := 0) (k := 6) (Zr_uF (n := a + 96) (a := a + 7 + 2) (k := 4) (v := 0) (Zr_uF (n := a + 96) (a := a + 7 + 1) (k := 4) (v := 0) (Zr_uI (n := a + 96) (a := a + 7) (k := 0) (v := 0) (Zr_uF (n := a + 96) (a := a + 1 + 5) (k := 6) (v := -1) (Zr_uI (n := a + 96) (a := a + 1) (k := 4) (v := 0) (Zr_uI (n := a + 96) (a := a + 1) (k := 3) (v := 0) (Zr_uI (n := a + 96) (a := a + 1) (k := 2) (v := 0) (Zr_uI (n := a + 96) (a := a + 1) (k := 1) (v := 0) (Zr_uI (n := a + 96) (a := a + 1) (k := 0) (v := 0) (Zr_up z16 (by omega)) (by omega)) (by omega)) (by omega)) (by omega)) (by omega)) (by omega)) (by omega)) (by omega)) (by omega)) (by omega)
theorem hk0 : SH[0]? = some (.inl 11) := by decide +kernel
theorem hk1 : SH[1]? = some (.inl 9) := by decide +kernel
theorem hk3 : SH[3]? = some (.inl 5) := by decide +kernel
theorem hk10 : SH[10]? = some (.inl 7) := by decide +kernel
theorem hk11 : SH[11]? = some (.inr (.object "LoadRoad$Rule", 6)) := by decide +kernel
theorem hk12 : SH[12]? = some (.inl 6) := by decide +kernel
theorem hk15 : SH[15]? = some (.inl 6) := by decide +kernel
theorem hk18 : SH[18]? = some (.inl 6) := by decide +kernel
theorem hk21 : SH[21]? = some (.inl 6) := by decide +kernel
theorem hk24 : SH[24]? = some (.inl 6) := by decide +kernel
theorem hk27 : SH[27]? = some (.inl 6) := by decide +kernel
theorem hk30 : SH[30]? = some (.inl 10) := by decide +kernel
theorem hk126 : SH[126]? = some (.inr (.object "LoadRoad$World", 4)) := by decide +kernel
theorem hk127 : SH[127]? = some (.inl 10) := by decide +kernel
theorem hk223 : SH[223]? = some (.inl 10) := by decide +kernel
theorem hk319 : SH[319]? = some (.inl 10) := by decide +kernel
theorem hk415 : SH[415]? = some (.inl 10) := by decide +kernel
theorem hk511 : SH[511]? = some (.inr (.boolean, 4)) := by decide +kernel
theorem hk512 : SH[512]? = some (.inl 0) := by decide +kernel
theorem hk514 : SH[514]? = some (.inl 3) := by decide +kernel
theorem hk515 : SH[515]? = some (.inl 1) := by decide +kernel
theorem hk516 : SH[516]? = some (.inr (.int, 2916)) := by decide +kernel
theorem hk517 : SH[517]? = some (.inr (.array .int, 2)) := by decide +kernel
theorem hk520 : SH[520]? = some (.inr (.int, 6)) := by decide +kernel
theorem hk521 : SH[521]? = some (.inr (.int, 6)) := by decide +kernel
theorem hk522 : SH[522]? = some (.inr (.int, 2)) := by decide +kernel
theorem hk523 : SH[523]? = some (.inl 8) := by decide +kernel
theorem hk527 : SH[527]? = some (.inr (.array .int, 7)) := by decide +kernel
theorem hk535 : SH[535]? = some (.inl 12) := by decide +kernel
theorem hk536 : SH[536]? = some (.inr (.int, 9)) := by decide +kernel
theorem hk537 : SH[537]? = some (.inr (.int, 4)) := by decide +kernel
theorem hk538 : SH[538]? = some (.inr (.int, 4)) := by decide +kernel
theorem hk539 : SH[539]? = some (.inr (.int, 6)) := by decide +kernel
theorem hk540 : SH[540]? = some (.inr (.int, 8)) := by decide +kernel
theorem hk541 : SH[541]? = some (.inr (.int, 4)) := by decide +kernel
theorem hk542 : SH[542]? = some (.inr (.int, 6)) := by decide +kernel
theorem hk543 : SH[543]? = some (.inr (.int, 6)) := by decide +kernel
theorem hk544 : SH[544]? = some (.inr (.int, 10)) := by decide +kernel
theorem hk545 : SH[545]? = some (.inr (.int, 10)) := by decide +kernel
theorem hk546 : SH[546]? = some (.inr (.int, 10)) := by decide +kernel
theorem hk547 : SH[547]? = some (.inr (.int, 6)) := by decide +kernel
theorem hk548 : SH[548]? = some (.inr (.int, 5)) := by decide +kernel
theorem hk549 : SH[549]? = some (.inr (.int, 8)) := by decide +kernel
theorem hk550 : SH[550]? = some (.inr (.int, 4)) := by decide +kernel
theorem hk551 : SH[551]? = some (.inr (.int, 6)) := by decide +kernel
theorem hk552 : SH[552]? = some (.inr (.int, 6)) := by decide +kernel
theorem hk553 : SH[553]? = some (.inr (.int, 6)) := by decide +kernel
theorem hk554 : SH[554]? = some (.inr (.byte, 400)) := by decide +kernel
theorem hk555 : SH[555]? = some (.inr (.int, 1800)) := by decide +kernel
theorem hk556 : SH[556]? = some (.inr (.int, 1800)) := by decide +kernel
theorem hk557 : SH[557]? = some (.inr (.int, 6)) := by decide +kernel
theorem hk558 : SH[558]? = some (.inr (.int, 72)) := by decide +kernel
theorem hk559 : SH[559]? = some (.inr (.int, 72)) := by decide +kernel
theorem hk560 : SH[560]? = some (.inr (.int, 72)) := by decide +kernel
theorem hk561 : SH[561]? = some (.inr (.int, 402)) := by decide +kernel
theorem hk562 : SH[562]? = some (.inr (.long, 12)) := by decide +kernel
theorem hk563 : SH[563]? = some (.inr (.long, 300)) := by decide +kernel
theorem hk564 : SH[564]? = some (.inr (.int, 300)) := by decide +kernel
theorem hk565 : SH[565]? = some (.inr (.int, 1)) := by decide +kernel
theorem hk566 : SH[566]? = some (.inr (.int, 2916)) := by decide +kernel
theorem hk567 : SH[567]? = some (.inr (.int, 6)) := by decide +kernel
theorem hk568 : SH[568]? = some (.inr (.int, 244)) := by decide +kernel
theorem hk569 : SH[569]? = some (.inr (.int, 28)) := by decide +kernel
theorem hk570 : SH[570]? = some (.inr (.int, 2250)) := by decide +kernel
theorem hk571 : SH[571]? = some (.inr (.boolean, 4)) := by decide +kernel
