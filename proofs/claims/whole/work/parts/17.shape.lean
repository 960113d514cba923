/-! ===== the heap behind the two makers ===== -/
def SH : List pShp := [.inl 11, .inl 9, .inr (.int, 400), .inl 5, .inl 4, .inr (.int, 8), .inr (.int, 4), .inr (.int, 6), .inr (.int, 6), .inr (.int, 6), .inl 7, .inr (.object "LoadRoad$Rule", 6), .inl 6, .inr (.int, 400), .inr (.long, 64), .inl 6, .inr (.int, 400), .inr (.long, 64), .inl 6, .inr (.int, 400), .inr (.long, 64), .inl 6, .inr (.int, 400), .inr (.long, 64), .inl 6, .inr (.int, 400), .inr (.long, 64), .inl 6, .inr (.int, 400), .inr (.long, 64), .inl 10, .inl 4, .inr (.int, 8), .inr (.int, 4), .inr (.int, 6), .inr (.int, 6), .inr (.int, 6), .inl 8, .inr (.int, 4), .inr (.int, 4), .inr (.int, 6), .inl 2, .inr (.object "LoadRoad$State", 20), .inl 8, .inr (.int, 4), .inr (.int, 4), .inr (.int, 6), .inl 8, .inr (.int, 4), .inr (.int, 4), .inr (.int, 6), .inl 8, .inr (.int, 4), .inr (.int, 4), .inr (.int, 6), .inl 8, .inr (.int, 4), .inr (.int, 4), .inr (.int, 6), .inl 8, .inr (.int, 4), .inr (.int, 4), .inr (.int, 6), .inl 8, .inr (.int, 4), .inr (.int, 4), .inr (.int, 6), .inl 8, .inr (.int, 4), .inr (.int, 4), .inr (.int, 6), .inl 8, .inr (.int, 4), .inr (.int, 4), .inr (.int, 6), .inl 8, .inr (.int, 4), .inr (.int, 4), .inr (.int, 6), .inl 8, .inr (.int, 4), .inr (.int, 4), .inr (.int, 6), .inl 8, .inr (.int, 4), .inr (.int, 4), .inr (.int, 6), .inl 8, .inr (.int, 4), .inr (.int, 4), .inr (.int, 6), .inl 8, .inr (.int, 4), .inr (.int, 4), .inr (.int, 6), .inl 8, .inr (.int, 4), .inr (.int, 4), .inr (.int, 6), .inl 8, .inr (.int, 4), .inr (.int, 4), .inr (.int, 6), .inl 8, .inr (.int, 4), .inr (.int, 4), .inr (.int, 6), .inl 8, .inr (.int, 4), .inr (.int, 4), .inr (.int, 6), .inl 8, .inr (.int, 4), .inr (.int, 4), .inr (.int, 6), .inl 8, .inr (.int, 4), .inr (.int, 4), .inr (.int, 6), .inl 8, .inr (.int, 4), .inr (.int, 4), .inr (.int, 6), .inr (.int, 10), .inr (.int, 10), .inr (.int, 10), .inr (.object "LoadRoad$World", 4), .inl 10, .inl 4, .inr (.int, 8), .inr (.int, 4), .inr (.int, 6), .inr (.int, 6), .inr (.int, 6), .inl 8, .inr (.int, 4), .inr (.int, 4), .inr (.int, 6), .inl 2, .inr (.object "LoadRoad$State", 20), .inl 8, .inr (.int, 4), .inr (.int, 4), .inr (.int, 6), .inl 8, .inr (.int, 4), .inr (.int, 4), .inr (.int, 6), .inl 8, .inr (.int, 4), .inr (.int, 4), .inr (.int, 6), .inl 8, .inr (.int, 4), .inr (.int, 4), .inr (.int, 6), .inl 8, .inr (.int, 4), .inr (.int, 4), .inr (.int, 6), .inl 8, .inr (.int, 4), .inr (.int, 4), .inr (.int, 6), .inl 8, .inr (.int, 4), .inr (.int, 4), .inr (.int, 6), .inl 8, .inr (.int, 4), .inr (.int, 4), .inr (.int, 6), .inl 8, .inr (.int, 4), .inr (.int, 4), .inr (.int, 6), .inl 8, .inr (.int, 4), .inr (.int, 4), .inr (.int, 6), .inl 8, .inr (.int, 4), .inr (.int, 4), .inr (.int, 6), .inl 8, .inr (.int, 4), .inr (.int, 4), .inr (.int, 6), .inl 8, .inr (.int, 4), .inr (.int, 4), .inr (.int, 6), .inl 8, .inr (.int, 4), .inr (.int, 4), .inr (.int, 6), .inl 8, .inr (.int, 4), .inr (.int, 4), .inr (.int, 6), .inl 8, .inr (.int, 4), .inr (.int, 4), .inr (.int, 6), .inl 8, .inr (.int, 4), .inr (.int, 4), .inr (.int, 6), .inl 8, .inr (.int, 4), .inr (.int, 4), .inr (.int, 6), .inl 8, .inr (.int, 4), .inr (.int, 4), .inr (.int, 6), .inl 8, .inr (.int, 4), .inr (.int, 4), .inr (.int, 6), .inr (.int, 10), .inr (.int, 10), .inr (.int, 10), .inl 10, .inl 4, .inr (.int, 8), .inr (.int, 4), .inr (.int, 6), .inr (.int, 6), .inr (.int, 6), .inl 8, .inr (.int, 4), .inr (.int, 4), .inr (.int, 6), .inl 2, .inr (.object "LoadRoad$State", 20), .inl 8, .inr (.int, 4), .inr (.int, 4), .inr (.int, 6), .inl 8, .inr (.int, 4), .inr (.int, 4), .inr (.int, 6), .inl 8, .inr (.int, 4), .inr (.int, 4), .inr (.int, 6), .inl 8, .inr (.int, 4), .inr (.int, 4), .inr (.int, 6), .inl 8, .inr (.int, 4), .inr (.int, 4), .inr (.int, 6), .inl 8, .inr (.int, 4), .inr (.int, 4), .inr (.int, 6), .inl 8, .inr (.int, 4), .inr (.int, 4), .inr (.int, 6), .inl 8, .inr (.int, 4), .inr (.int, 4), .inr (.int, 6), .inl 8, .inr (.int, 4), .inr (.int, 4), .inr (.int, 6), .inl 8, .inr (.int, 4), .inr (.int, 4), .inr (.int, 6), .inl 8, .inr (.int, 4), .inr (.int, 4), .inr (.int, 6), .inl 8, .inr (.int, 4), .inr (.int, 4), .inr (.int, 6), .inl 8, .inr (.int, 4), .inr (.int, 4), .inr (.int, 6), .inl 8, .inr (.int, 4), .inr (.int, 4), .inr (.int, 6), .inl 8, .inr (.int, 4), .inr (.int, 4), .inr (.int, 6), .inl 8, .inr (.int, 4), .inr (.int, 4), .inr (.int, 6), .inl 8, .inr (.int, 4), .inr (.int, 4), .inr (.int, 6), .inl 8, .inr (.int, 4), .inr (.int, 4), .inr (.int, 6), .inl 8, .inr (.int, 4), .inr (.int, 4), .inr (.int, 6), .inl 8, .inr (.int, 4), .inr (.int, 4), .inr (.int, 6), .inr (.int, 10), .inr (.int, 10), .inr (.int, 10), .inl 10, .inl 4, .inr (.int, 8), .inr (.int, 4), .inr (.int, 6), .inr (.int, 6), .inr (.int, 6), .inl 8, .inr (.int, 4), .inr (.int, 4), .inr (.int, 6), .inl 2, .inr (.object "LoadRoad$State", 20), .inl 8, .inr (.int, 4), .inr (.int, 4), .inr (.int, 6), .inl 8, .inr (.int, 4), .inr (.int, 4), .inr (.int, 6), .inl 8, .inr (.int, 4), .inr (.int, 4), .inr (.int, 6), .inl 8, .inr (.int, 4), .inr (.int, 4), .inr (.int, 6), .inl 8, .inr (.int, 4), .inr (.int, 4), .inr (.int, 6), .inl 8, .inr (.int, 4), .inr (.int, 4), .inr (.int, 6), .inl 8, .inr (.int, 4), .inr (.int, 4), .inr (.int, 6), .inl 8, .inr (.int, 4), .inr (.int, 4), .inr (.int, 6), .inl 8, .inr (.int, 4), .inr (.int, 4), .inr (.int, 6), .inl 8, .inr (.int, 4), .inr (.int, 4), .inr (.int, 6), .inl 8, .inr (.int, 4), .inr (.int, 4), .inr (.int, 6), .inl 8, .inr (.int, 4), .inr (.int, 4), .inr (.int, 6), .inl 8, .inr (.int, 4), .inr (.int, 4), .inr (.int, 6), .inl 8, .inr (.int, 4), .inr (.int, 4), .inr (.int, 6), .inl 8, .inr (.int, 4), .inr (.int, 4), .inr (.int, 6), .inl 8, .inr (.int, 4), .inr (.int, 4), .inr (.int, 6), .inl 8, .inr (.int, 4), .inr (.int, 4), .inr (.int, 6), .inl 8, .inr (.int, 4), .inr (.int, 4), .inr (.int, 6), .inl 8, .inr (.int, 4), .inr (.int, 4), .inr (.int, 6), .inl 8, .inr (.int, 4), .inr (.int, 4), .inr (.int, 6), .inr (.int, 10), .inr (.int, 10), .inr (.int, 10), .inl 10, .inl 4, .inr (.int, 8), .inr (.int, 4), .inr (.int, 6), .inr (.int, 6), .inr (.int, 6), .inl 8, .inr (.int, 4), .inr (.int, 4), .inr (.int, 6), .inl 2, .inr (.object "LoadRoad$State", 20), .inl 8, .inr (.int, 4), .inr (.int, 4), .inr (.int, 6), .inl 8, .inr (.int, 4), .inr (.int, 4), .inr (.int, 6), .inl 8, .inr (.int, 4), .inr (.int, 4), .inr (.int, 6), .inl 8, .inr (.int, 4), .inr (.int, 4), .inr (.int, 6), .inl 8, .inr (.int, 4), .inr (.int, 4), .inr (.int, 6), .inl 8, .inr (.int, 4), .inr (.int, 4), .inr (.int, 6), .inl 8, .inr (.int, 4), .inr (.int, 4), .inr (.int, 6), .inl 8, .inr (.int, 4), .inr (.int, 4), .inr (.int, 6), .inl 8, .inr (.int, 4), .inr (.int, 4), .inr (.int, 6), .inl 8, .inr (.int, 4), .inr (.int, 4), .inr (.int, 6), .inl 8, .inr (.int, 4), .inr (.int, 4), .inr (.int, 6), .inl 8, .inr (.int, 4), .inr (.int, 4), .inr (.int, 6), .inl 8, .inr (.int, 4), .inr (.int, 4), .inr (.int, 6), .inl 8, .inr (.int, 4), .inr (.int, 4), .inr (.int, 6), .inl 8, .inr (.int, 4), .inr (.int, 4), .inr (.int, 6), .inl 8, .inr (.int, 4), .inr (.int, 4), .inr (.int, 6), .inl 8, .inr (.int, 4), .inr (.int, 4), .inr (.int, 6), .inl 8, .inr (.int, 4), .inr (.int, 4), .inr (.int, 6), .inl 8, .inr (.int, 4), .inr (.int, 4), .inr (.int, 6), .inl 8, .inr (.int, 4), .inr (.int, 4), .inr (.int, 6), .inr (.int, 10), .inr (.int, 10), .inr (.int, 10), .inr (.boolean, 4), .inl 0, .inr (.int, 12), .inl 3, .inl 1, .inr (.int, 2916), .inr (.array .int, 2), .inr (.int, 64), .inr (.int, 64), .inr (.int, 6), .inr (.int, 6), .inr (.int, 2), .inl 8, .inr (.int, 4), .inr (.int, 4), .inr (.int, 6), .inr (.array .int, 7), .inr (.int, 4), .inr (.int, 4), .inr (.int, 4), .inr (.int, 4), .inr (.int, 4), .inr (.int, 4), .inr (.int, 4), .inl 12, .inr (.int, 9), .inr (.int, 4), .inr (.int, 4), .inr (.int, 6), .inr (.int, 8), .inr (.int, 4), .inr (.int, 6), .inr (.int, 6), .inr (.int, 10), .inr (.int, 10), .inr (.int, 10), .inr (.int, 6), .inr (.int, 5), .inr (.int, 8), .inr (.int, 4), .inr (.int, 6), .inr (.int, 6), .inr (.int, 6), .inr (.byte, 400), .inr (.int, 1800), .inr (.int, 1800), .inr (.int, 6), .inr (.int, 72), .inr (.int, 72), .inr (.int, 72), .inr (.int, 402), .inr (.long, 12), .inr (.long, 300), .inr (.int, 300), .inr (.int, 1), .inr (.int, 2916), .inr (.int, 6), .inr (.int, 244), .inr (.int, 28), .inr (.int, 2250), .inr (.boolean, 4)]
theorem SH_len : SH.length = 572 := by decide +kernel
def Wf0 (m : pMem) : Prop := ∀ a, SH[a]? = some (.inl 0) → mR m a 0 = some (31) ∧ mR m a 1 = some (a + 1)
def Wf1 (m : pMem) : Prop := ∀ a, SH[a]? = some (.inl 1) → mR m a 0 = some (31) ∧ mR m a 1 = some (37) ∧ mR m a 2 = some (a + 1) ∧ mR m a 3 = some (517) ∧ mR m a 4 = some (a + 5) ∧ mR m a 5 = some (a + 6) ∧ mR m a 7 = some (a + 7)
def Wf2 (m : pMem) : Prop := ∀ a, SH[a]? = some (.inl 2) → mR m a 0 = some (a + 1)
def Wf3 (m : pMem) : Prop := ∀ a, SH[a]? = some (.inl 3) → mR m a 0 = some (31) ∧ mR m a 1 = some (37)
def Wf4 (m : pMem) : Prop := ∀ a, SH[a]? = some (.inl 4) → mR m a 5 = some (a + 1) ∧ mR m a 6 = some (a + 2) ∧ mR m a 7 = some (a + 3) ∧ mR m a 8 = some (a + 4) ∧ mR m a 9 = some (a + 5)
def Wf5 (m : pMem) : Prop := ∀ a, SH[a]? = some (.inl 5) → mR m a 0 = some (1) ∧ mR m a 1 = some (a + 1)
def Wf6 (m : pMem) : Prop := ∀ a, SH[a]? = some (.inl 6) → mR m a 0 = some (a + 1) ∧ mR m a 1 = some (a + 2)
def Wf7 (m : pMem) : Prop := ∀ a, SH[a]? = some (.inl 7) → mR m a 0 = some (1)
def Wf8 (m : pMem) : Prop := ∀ a, SH[a]? = some (.inl 8) → mR m a 1 = some (a + 1) ∧ mR m a 2 = some (a + 2) ∧ mR m a 3 = some (a + 3)
def Wf9 (m : pMem) : Prop := ∀ a, SH[a]? = some (.inl 9) → mR m a 0 = some (a + 1)
def Wf10 (m : pMem) : Prop := ∀ a, SH[a]? = some (.inl 10) → mR m a 0 = some (a + 1) ∧ mR m a 1 = some (a + 7) ∧ mR m a 2 = some (a + 11) ∧ mR m a 6 = some (a + 93) ∧ mR m a 7 = some (a + 94) ∧ mR m a 8 = some (a + 95)
def Wf11 (m : pMem) : Prop := ∀ a, SH[a]? = some (.inl 11) → mR m a 0 = some (1) ∧ mR m a 1 = some (3) ∧ mR m a 2 = some (10) ∧ mR m a 3 = some (11) ∧ mR m a 5 = some (30) ∧ mR m a 6 = some (126) ∧ mR m a 7 = some (511) ∧ mR m a 8 = some (512) ∧ mR m a 9 = some (514) ∧ mR m a 10 = some (515) ∧ mR m a 11 = some (523) ∧ mR m a 12 = some (527)
def Wf12 (m : pMem) : Prop := ∀ a, SH[a]? = some (.inl 12) → mR m a 1 = some (a + 1) ∧ mR m a 2 = some (a + 2) ∧ mR m a 3 = some (a + 3) ∧ mR m a 4 = some (a + 4) ∧ mR m a 5 = some (a + 5) ∧ mR m a 6 = some (a + 6) ∧ mR m a 7 = some (a + 7) ∧ mR m a 8 = some (a + 8) ∧ mR m a 9 = some (a + 9) ∧ mR m a 10 = some (a + 10) ∧ mR m a 11 = some (a + 11) ∧ mR m a 12 = some (a + 12) ∧ mR m a 13 = some (a + 13) ∧ mR m a 14 = some (a + 14) ∧ mR m a 15 = some (a + 15) ∧ mR m a 16 = some (a + 16) ∧ mR m a 17 = some (a + 17) ∧ mR m a 18 = some (a + 18) ∧ mR m a 29 = some (a + 19) ∧ mR m a 30 = some (a + 20) ∧ mR m a 31 = some (a + 21) ∧ mR m a 32 = some (a + 22) ∧ mR m a 33 = some (a + 23) ∧ mR m a 34 = some (a + 24) ∧ mR m a 35 = some (a + 25) ∧ mR m a 36 = some (a + 26) ∧ mR m a 37 = some (a + 27) ∧ mR m a 38 = some (a + 28) ∧ mR m a 39 = some (a + 29) ∧ mR m a 40 = some (a + 30) ∧ mR m a 44 = some (a + 31) ∧ mR m a 45 = some (a + 32) ∧ mR m a 50 = some (a + 33) ∧ mR m a 51 = some (a + 34) ∧ mR m a 52 = some (a + 35) ∧ mR m a 53 = some (a + 36)
def WfR (m : pMem) : Prop := (∀ i, i < 6 → mR m 11 i = some (12 + 3 * i)) ∧ (∀ a, SH[a]? = some (.inl 2) → ∀ i, i < 20 → mR m (a + 1) i = some (a + 2 + 4 * i)) ∧ (∀ i, i < 4 → mR m 126 i = some (127 + 96 * i)) ∧ (∀ i, i < 2 → mR m 517 i = some (518 + i)) ∧ (∀ i, i < 7 → mR m 527 i = some (528 + i))
def Wf (m : pMem) : Prop := Wf0 m ∧ Wf1 m ∧ Wf2 m ∧ Wf3 m ∧ Wf4 m ∧ Wf5 m ∧ Wf6 m ∧ Wf7 m ∧ Wf8 m ∧ Wf9 m ∧ Wf10 m ∧ Wf11 m ∧ Wf12 m ∧ WfR m
theorem w0_0 {m : pMem} {a : Nat} (hW : Wf m) (c : SH[a]? = some (.inl 0)) : mR m a 0 = some (31) := (hW.1 a c).1
theorem w0_1 {m : pMem} {a : Nat} (hW : Wf m) (c : SH[a]? = some (.inl 0)) : mR m a 1 = some (a + 1) := (hW.1 a c).2
theorem w1_0 {m : pMem} {a : Nat} (hW : Wf m) (c : SH[a]? = some (.inl 1)) : mR m a 0 = some (31) := (hW.2.1 a c).1
theorem w1_1 {m : pMem} {a : Nat} (hW : Wf m) (c : SH[a]? = some (.inl 1)) : mR m a 1 = some (37) := (hW.2.1 a c).2.1
theorem w1_2 {m : pMem} {a : Nat} (hW : Wf m) (c : SH[a]? = some (.inl 1)) : mR m a 2 = some (a + 1) := (hW.2.1 a c).2.2.1
theorem w1_3 {m : pMem} {a : Nat} (hW : Wf m) (c : SH[a]? = some (.inl 1)) : mR m a 3 = some (517) := (hW.2.1 a c).2.2.2.1
theorem w1_4 {m : pMem} {a : Nat} (hW : Wf m) (c : SH[a]? = some (.inl 1)) : mR m a 4 = some (a + 5) := (hW.2.1 a c).2.2.2.2.1
theorem w1_5 {m : pMem} {a : Nat} (hW : Wf m) (c : SH[a]? = some (.inl 1)) : mR m a 5 = some (a + 6) := (hW.2.1 a c).2.2.2.2.2.1
theorem w1_7 {m : pMem} {a : Nat} (hW : Wf m) (c : SH[a]? = some (.inl 1)) : mR m a 7 = some (a + 7) := (hW.2.1 a c).2.2.2.2.2.2
theorem w2_0 {m : pMem} {a : Nat} (hW : Wf m) (c : SH[a]? = some (.inl 2)) : mR m a 0 = some (a + 1) := (hW.2.2.1 a c)
theorem w3_0 {m : pMem} {a : Nat} (hW : Wf m) (c : SH[a]? = some (.inl 3)) : mR m a 0 = some (31) := (hW.2.2.2.1 a c).1
theorem w3_1 {m : pMem} {a : Nat} (hW : Wf m) (c : SH[a]? = some (.inl 3)) : mR m a 1 = some (37) := (hW.2.2.2.1 a c).2
theorem w4_5 {m : pMem} {a : Nat} (hW : Wf m) (c : SH[a]? = some (.inl 4)) : mR m a 5 = some (a + 1) := (hW.2.2.2.2.1 a c).1
theorem w4_6 {m : pMem} {a : Nat} (hW : Wf m) (c : SH[a]? = some (.inl 4)) : mR m a 6 = some (a + 2) := (hW.2.2.2.2.1 a c).2.1
theorem w4_7 {m : pMem} {a : Nat} (hW : Wf m) (c : SH[a]? = some (.inl 4)) : mR m a 7 = some (a + 3) := (hW.2.2.2.2.1 a c).2.2.1
theorem w4_8 {m : pMem} {a : Nat} (hW : Wf m) (c : SH[a]? = some (.inl 4)) : mR m a 8 = some (a + 4) := (hW.2.2.2.2.1 a c).2.2.2.1
theorem w4_9 {m : pMem} {a : Nat} (hW : Wf m) (c : SH[a]? = some (.inl 4)) : mR m a 9 = some (a + 5) := (hW.2.2.2.2.1 a c).2.2.2.2
theorem w5_0 {m : pMem} {a : Nat} (hW : Wf m) (c : SH[a]? = some (.inl 5)) : mR m a 0 = some (1) := (hW.2.2.2.2.2.1 a c).1
theorem w5_1 {m : pMem} {a : Nat} (hW : Wf m) (c : SH[a]? = some (.inl 5)) : mR m a 1 = some (a + 1) := (hW.2.2.2.2.2.1 a c).2
theorem w6_0 {m : pMem} {a : Nat} (hW : Wf m) (c : SH[a]? = some (.inl 6)) : mR m a 0 = some (a + 1) := (hW.2.2.2.2.2.2.1 a c).1
theorem w6_1 {m : pMem} {a : Nat} (hW : Wf m) (c : SH[a]? = some (.inl 6)) : mR m a 1 = some (a + 2) := (hW.2.2.2.2.2.2.1 a c).2
theorem w7_0 {m : pMem} {a : Nat} (hW : Wf m) (c : SH[a]? = some (.inl 7)) : mR m a 0 = some (1) := (hW.2.2.2.2.2.2.2.1 a c)
theorem w8_1 {m : pMem} {a : Nat} (hW : Wf m) (c : SH[a]? = some (.inl 8)) : mR m a 1 = some (a + 1) := (hW.2.2.2.2.2.2.2.2.1 a c).1
theorem w8_2 {m : pMem} {a : Nat} (hW : Wf m) (c : SH[a]? = some (.inl 8)) : mR m a 2 = some (a + 2) := (hW.2.2.2.2.2.2.2.2.1 a c).2.1
theorem w8_3 {m : pMem} {a : Nat} (hW : Wf m) (c : SH[a]? = some (.inl 8)) : mR m a 3 = some (a + 3) := (hW.2.2.2.2.2.2.2.2.1 a c).2.2
theorem w9_0 {m : pMem} {a : Nat} (hW : Wf m) (c : SH[a]? = some (.inl 9)) : mR m a 0 = some (a + 1) := (hW.2.2.2.2.2.2.2.2.2.1 a c)
theorem w10_0 {m : pMem} {a : Nat} (hW : Wf m) (c : SH[a]? = some (.inl 10)) : mR m a 0 = some (a + 1) := (hW.2.2.2.2.2.2.2.2.2.2.1 a c).1
theorem w10_1 {m : pMem} {a : Nat} (hW : Wf m) (c : SH[a]? = some (.inl 10)) : mR m a 1 = some (a + 7) := (hW.2.2.2.2.2.2.2.2.2.2.1 a c).2.1
theorem w10_2 {m : pMem} {a : Nat} (hW : Wf m) (c : SH[a]? = some (.inl 10)) : mR m a 2 = some (a + 11) := (hW.2.2.2.2.2.2.2.2.2.2.1 a c).2.2.1
theorem w10_6 {m : pMem} {a : Nat} (hW : Wf m) (c : SH[a]? = some (.inl 10)) : mR m a 6 = some (a + 93) := (hW.2.2.2.2.2.2.2.2.2.2.1 a c).2.2.2.1
theorem w10_7 {m : pMem} {a : Nat} (hW : Wf m) (c : SH[a]? = some (.inl 10)) : mR m a 7 = some (a + 94) := (hW.2.2.2.2.2.2.2.2.2.2.1 a c).2.2.2.2.1
theorem w10_8 {m : pMem} {a : Nat} (hW : Wf m) (c : SH[a]? = some (.inl 10)) : mR m a 8 = some (a + 95) := (hW.2.2.2.2.2.2.2.2.2.2.1 a c).2.2.2.2.2
theorem w11_0 {m : pMem} {a : Nat} (hW : Wf m) (c : SH[a]? = some (.inl 11)) : mR m a 0 = some (1) := (hW.2.2.2.2.2.2.2.2.2.2.2.1 a c).1
theorem w11_1 {m : pMem} {a : Nat} (hW : Wf m) (c : SH[a]? = some (.inl 11)) : mR m a 1 = some (3) := (hW.2.2.2.2.2.2.2.2.2.2.2.1 a c).2.1
theorem w11_2 {m : pMem} {a : Nat} (hW : Wf m) (c : SH[a]? = some (.inl 11)) : mR m a 2 = some (10) := (hW.2.2.2.2.2.2.2.2.2.2.2.1 a c).2.2.1
theorem w11_3 {m : pMem} {a : Nat} (hW : Wf m) (c : SH[a]? = some (.inl 11)) : mR m a 3 = some (11) := (hW.2.2.2.2.2.2.2.2.2.2.2.1 a c).2.2.2.1
theorem w11_5 {m : pMem} {a : Nat} (hW : Wf m) (c : SH[a]? = some (.inl 11)) : mR m a 5 = some (30) := (hW.2.2.2.2.2.2.2.2.2.2.2.1 a c).2.2.2.2.1
theorem w11_6 {m : pMem} {a : Nat} (hW : Wf m) (c : SH[a]? = some (.inl 11)) : mR m a 6 = some (126) := (hW.2.2.2.2.2.2.2.2.2.2.2.1 a c).2.2.2.2.2.1
theorem w11_7 {m : pMem} {a : Nat} (hW : Wf m) (c : SH[a]? = some (.inl 11)) : mR m a 7 = some (511) := (hW.2.2.2.2.2.2.2.2.2.2.2.1 a c).2.2.2.2.2.2.1
theorem w11_8 {m : pMem} {a : Nat} (hW : Wf m) (c : SH[a]? = some (.inl 11)) : mR m a 8 = some (512) := (hW.2.2.2.2.2.2.2.2.2.2.2.1 a c).2.2.2.2.2.2.2.1
theorem w11_9 {m : pMem} {a : Nat} (hW : Wf m) (c : SH[a]? = some (.inl 11)) : mR m a 9 = some (514) := (hW.2.2.2.2.2.2.2.2.2.2.2.1 a c).2.2.2.2.2.2.2.2.1
theorem w11_10 {m : pMem} {a : Nat} (hW : Wf m) (c : SH[a]? = some (.inl 11)) : mR m a 10 = some (515) := (hW.2.2.2.2.2.2.2.2.2.2.2.1 a c).2.2.2.2.2.2.2.2.2.1
theorem w11_11 {m : pMem} {a : Nat} (hW : Wf m) (c : SH[a]? = some (.inl 11)) : mR m a 11 = some (523) := (hW.2.2.2.2.2.2.2.2.2.2.2.1 a c).2.2.2.2.2.2.2.2.2.2.1
theorem w11_12 {m : pMem} {a : Nat} (hW : Wf m) (c : SH[a]? = some (.inl 11)) : mR m a 12 = some (527) := (hW.2.2.2.2.2.2.2.2.2.2.2.1 a c).2.2.2.2.2.2.2.2.2.2.2
theorem w12_1 {m : pMem} {a : Nat} (hW : Wf m) (c : SH[a]? = some (.inl 12)) : mR m a 1 = some (a + 1) := (hW.2.2.2.2.2.2.2.2.2.2.2.2.1 a c).1
theorem w12_2 {m : pMem} {a : Nat} (hW : Wf m) (c : SH[a]? = some (.inl 12)) : mR m a 2 = some (a + 2) := (hW.2.2.2.2.2.2.2.2.2.2.2.2.1 a c).2.1
theorem w12_3 {m : pMem} {a : Nat} (hW : Wf m) (c : SH[a]? = some (.inl 12)) : mR m a 3 = some (a + 3) := (hW.2.2.2.2.2.2.2.2.2.2.2.2.1 a c).2.2.1
theorem w12_4 {m : pMem} {a : Nat} (hW : Wf m) (c : SH[a]? = some (.inl 12)) : mR m a 4 = some (a + 4) := (hW.2.2.2.2.2.2.2.2.2.2.2.2.1 a c).2.2.2.1
theorem w12_5 {m : pMem} {a : Nat} (hW : Wf m) (c : SH[a]? = some (.inl 12)) : mR m a 5 = some (a + 5) := (hW.2.2.2.2.2.2.2.2.2.2.2.2.1 a c).2.2.2.2.1
theorem w12_6 {m : pMem} {a : Nat} (hW : Wf m) (c : SH[a]? = some (.inl 12)) : mR m a 6 = some (a + 6) := (hW.2.2.2.2.2.2.2.2.2.2.2.2.1 a c).2.2.2.2.2.1
theorem w12_7 {m : pMem} {a : Nat} (hW : Wf m) (c : SH[a]? = some (.inl 12)) : mR m a 7 = some (a + 7) := (hW.2.2.2.2.2.2.2.2.2.2.2.2.1 a c).2.2.2.2.2.2.1
theorem w12_8 {m : pMem} {a : Nat} (hW : Wf m) (c : SH[a]? = some (.inl 12)) : mR m a 8 = some (a + 8) := (hW.2.2.2.2.2.2.2.2.2.2.2.2.1 a c).2.2.2.2.2.2.2.1
theorem w12_9 {m : pMem} {a : Nat} (hW : Wf m) (c : SH[a]? = some (.inl 12)) : mR m a 9 = some (a + 9) := (hW.2.2.2.2.2.2.2.2.2.2.2.2.1 a c).2.2.2.2.2.2.2.2.1
theorem w12_10 {m : pMem} {a : Nat} (hW : Wf m) (c : SH[a]? = some (.inl 12)) : mR m a 10 = some (a + 10) := (hW.2.2.2.2.2.2.2.2.2.2.2.2.1 a c).2.2.2.2.2.2.2.2.2.1
theorem w12_11 {m : pMem} {a : Nat} (hW : Wf m) (c : SH[a]? = some (.inl 12)) : mR m a 11 = some (a + 11) := (hW.2.2.2.2.2.2.2.2.2.2.2.2.1 a c).2.2.2.2.2.2.2.2.2.2.1
theorem w12_12 {m : pMem} {a : Nat} (hW : Wf m) (c : SH[a]? = some (.inl 12)) : mR m a 12 = some (a + 12) := (hW.2.2.2.2.2.2.2.2.2.2.2.2.1 a c).2.2.2.2.2.2.2.2.2.2.2.1
theorem w12_13 {m : pMem} {a : Nat} (hW : Wf m) (c : SH[a]? = some (.inl 12)) : mR m a 13 = some (a + 13) := (hW.2.2.2.2.2.2.2.2.2.2.2.2.1 a c).2.2.2.2.2.2.2.2.2.2.2.2.1
theorem w12_14 {m : pMem} {a : Nat} (hW : Wf m) (c : SH[a]? = some (.inl 12)) : mR m a 14 = some (a + 14) := (hW.2.2.2.2.2.2.2.2.2.2.2.2.1 a c).2.2.2.2.2.2.2.2.2.2.2.2.2.1
theorem w12_15 {m : pMem} {a : Nat} (hW : Wf m) (c : SH[a]? = some (.inl 12)) : mR m a 15 = some (a + 15) := (hW.2.2.2.2.2.2.2.2.2.2.2.2.1 a c).2.2.2.2.2.2.2.2.2.2.2.2.2.2.1
theorem w12_16 {m : pMem} {a : Nat} (hW : Wf m) (c : SH[a]? = some (.inl 12)) : mR m a 16 = some (a + 16) := (hW.2.2.2.2.2.2.2.2.2.2.2.2.1 a c).2.2.2.2.2.2.2.2.2.2.2.2.2.2.2.1
theorem w12_17 {m : pMem} {a : Nat} (hW : Wf m) (c : SH[a]? = some (.inl 12)) : mR m a 17 = some (a + 17) := (hW.2.2.2.2.2.2.2.2.2.2.2.2.1 a c).2.2.2.2.2.2.2.2.2.2.2.2.2.2.2.2.1
theorem w12_18 {m : pMem} {a : Nat} (hW : Wf m) (c : SH[a]? = some (.inl 12)) : mR m a 18 = some (a + 18) := (hW.2.2.2.2.2.2.2.2.2.2.2.2.1 a c).2.2.2.2.2.2.2.2.2.2.2.2.2.2.2.2.2.1
theorem w12_29 {m : pMem} {a : Nat} (hW : Wf m) (c : SH[a]? = some (.inl 12)) : mR m a 29 = some (a + 19) := (hW.2.2.2.2.2.2.2.2.2.2.2.2.1 a c).2.2.2.2.2.2.2.2.2.2.2.2.2.2.2.2.2.2.1
theorem w12_30 {m : pMem} {a : Nat} (hW : Wf m) (c : SH[a]? = some (.inl 12)) : mR m a 30 = some (a + 20) := (hW.2.2.2.2.2.2.2.2.2.2.2.2.1 a c).2.2.2.2.2.2.2.2.2.2.2.2.2.2.2.2.2.2.2.1
theorem w12_31 {m : pMem} {a : Nat} (hW : Wf m) (c : SH[a]? = some (.inl 12)) : mR m a 31 = some (a + 21) := (hW.2.2.2.2.2.2.2.2.2.2.2.2.1 a c).2.2.2.2.2.2.2.2.2.2.2.2.2.2.2.2.2.2.2.2.1
theorem w12_32 {m : pMem} {a : Nat} (hW : Wf m) (c : SH[a]? = some (.inl 12)) : mR m a 32 = some (a + 22) := (hW.2.2.2.2.2.2.2.2.2.2.2.2.1 a c).2.2.2.2.2.2.2.2.2.2.2.2.2.2.2.2.2.2.2.2.2.1
theorem w12_33 {m : pMem} {a : Nat} (hW : Wf m) (c : SH[a]? = some (.inl 12)) : mR m a 33 = some (a + 23) := (hW.2.2.2.2.2.2.2.2.2.2.2.2.1 a c).2.2.2.2.2.2.2.2.2.2.2.2.2.2.2.2.2.2.2.2.2.2.1
theorem w12_34 {m : pMem} {a : Nat} (hW : Wf m) (c : SH[a]? = some (.inl 12)) : mR m a 34 = some (a + 24) := (hW.2.2.2.2.2.2.2.2.2.2.2.2.1 a c).2.2.2.2.2.2.2.2.2.2.2.2.2.2.2.2.2.2.2.2.2.2.2.1
theorem w12_35 {m : pMem} {a : Nat} (hW : Wf m) (c : SH[a]? = some (.inl 12)) : mR m a 35 = some (a + 25) := (hW.2.2.2.2.2.2.2.2.2.2.2.2.1 a c).2.2.2.2.2.2.2.2.2.2.2.2.2.2.2.2.2.2.2.2.2.2.2.2.1
theorem w12_36 {m : pMem} {a : Nat} (hW : Wf m) (c : SH[a]? = some (.inl 12)) : mR m a 36 = some (a + 26) := (hW.2.2.2.2.2.2.2.2.2.2.2.2.1 a c).2.2.2.2.2.2.2.2.2.2.2.2.2.2.2.2.2.2.2.2.2.2.2.2.2.1
theorem w12_37 {m : pMem} {a : Nat} (hW : Wf m) (c : SH[a]? = some (.inl 12)) : mR m a 37 = some (a + 27) := (hW.2.2.2.2.2.2.2.2.2.2.2.2.1 a c).2.2.2.2.2.2.2.2.2.2.2.2.2.2.2.2.2.2.2.2.2.2.2.2.2.2.1
theorem w12_38 {m : pMem} {a : Nat} (hW : Wf m) (c : SH[a]? = some (.inl 12)) : mR m a 38 = some (a + 28) := (hW.2.2.2.2.2.2.2.2.2.2.2.2.1 a c).2.2.2.2.2.2.2.2.2.2.2.2.2.2.2.2.2.2.2.2.2.2.2.2.2.2.2.1
theorem w12_39 {m : pMem} {a : Nat} (hW : Wf m) (c : SH[a]? = some (.inl 12)) : mR m a 39 = some (a + 29) := (hW.2.2.2.2.2.2.2.2.2.2.2.2.1 a c).2.2.2.2.2.2.2.2.2.2.2.2.2.2.2.2.2.2.2.2.2.2.2.2.2.2.2.2.1
theorem w12_40 {m : pMem} {a : Nat} (hW : Wf m) (c : SH[a]? = some (.inl 12)) : mR m a 40 = some (a + 30) := (hW.2.2.2.2.2.2.2.2.2.2.2.2.1 a c).2.2.2.2.2.2.2.2.2.2.2.2.2.2.2.2.2.2.2.2.2.2.2.2.2.2.2.2.2.1
theorem w12_44 {m : pMem} {a : Nat} (hW : Wf m) (c : SH[a]? = some (.inl 12)) : mR m a 44 = some (a + 31) := (hW.2.2.2.2.2.2.2.2.2.2.2.2.1 a c).2.2.2.2.2.2.2.2.2.2.2.2.2.2.2.2.2.2.2.2.2.2.2.2.2.2.2.2.2.2.1
theorem w12_45 {m : pMem} {a : Nat} (hW : Wf m) (c : SH[a]? = some (.inl 12)) : mR m a 45 = some (a + 32) := (hW.2.2.2.2.2.2.2.2.2.2.2.2.1 a c).2.2.2.2.2.2.2.2.2.2.2.2.2.2.2.2.2.2.2.2.2.2.2.2.2.2.2.2.2.2.2.1
theorem w12_50 {m : pMem} {a : Nat} (hW : Wf m) (c : SH[a]? = some (.inl 12)) : mR m a 50 = some (a + 33) := (hW.2.2.2.2.2.2.2.2.2.2.2.2.1 a c).2.2.2.2.2.2.2.2.2.2.2.2.2.2.2.2.2.2.2.2.2.2.2.2.2.2.2.2.2.2.2.2.1
theorem w12_51 {m : pMem} {a : Nat} (hW : Wf m) (c : SH[a]? = some (.inl 12)) : mR m a 51 = some (a + 34) := (hW.2.2.2.2.2.2.2.2.2.2.2.2.1 a c).2.2.2.2.2.2.2.2.2.2.2.2.2.2.2.2.2.2.2.2.2.2.2.2.2.2.2.2.2.2.2.2.2.1
theorem w12_52 {m : pMem} {a : Nat} (hW : Wf m) (c : SH[a]? = some (.inl 12)) : mR m a 52 = some (a + 35) := (hW.2.2.2.2.2.2.2.2.2.2.2.2.1 a c).2.2.2.2.2.2.2.2.2.2.2.2.2.2.2.2.2.2.2.2.2.2.2.2.2.2.2.2.2.2.2.2.2.2.1
theorem w12_53 {m : pMem} {a : Nat} (hW : Wf m) (c : SH[a]? = some (.inl 12)) : mR m a 53 = some (a + 36) := (hW.2.2.2.2.2.2.2.2.2.2.2.2.1 a c).2.2.2.2.2.2.2.2.2.2.2.2.2.2.2.2.2.2.2.2.2.2.2.2.2.2.2.2.2.2.2.2.2.2.2
theorem wRules {m : pMem} (hW : Wf m) {i : Nat} (h : i < 6) : mR m 11 i = some (12 + 3 * i) := (hW.2.2.2.2.2.2.2.2.2.2.2.2.2).1 i h
theorem wRows {m : pMem} {a : Nat} (hW : Wf m) (c : SH[a]? = some (.inl 2)) {i : Nat} (h : i < 20) : mR m (a + 1) i = some (a + 2 + 4 * i) := (hW.2.2.2.2.2.2.2.2.2.2.2.2.2).2.1 a c i h
theorem wImages {m : pMem} (hW : Wf m) {i : Nat} (h : i < 4) : mR m 126 i = some (127 + 96 * i) := (hW.2.2.2.2.2.2.2.2.2.2.2.2.2).2.2.1 i h
theorem wWorth {m : pMem} (hW : Wf m) {i : Nat} (h : i < 2) : mR m 517 i = some (518 + i) := (hW.2.2.2.2.2.2.2.2.2.2.2.2.2).2.2.2.1 i h
theorem wSeen {m : pMem} (hW : Wf m) {i : Nat} (h : i < 7) : mR m 527 i = some (528 + i) := (hW.2.2.2.2.2.2.2.2.2.2.2.2.2).2.2.2.2 i h
theorem SH_lt {a : Nat} {sh : pShp} (c : SH[a]? = some sh) : a < 572 := by have := (List.getElem?_eq_some_iff.mp c).1; rw [SH_len] at this; exact this
def okT (ci off : Nat) (t : pShp) : List pShp → Bool
  | [] => true
  | sh :: S => decide (sh = .inl ci → (sh :: S)[off]? = some t) && okT ci off t S
theorem okT_spec {ci off : Nat} {t : pShp} : ∀ {S : List pShp} {a : Nat}, okT ci off t S = true → S[a]? = some (.inl ci) → S[a + off]? = some t
  | [], _, _, h => by simp at h
  | sh :: S, 0, h0, h => by
    simp only [okT, Bool.and_eq_true, decide_eq_true_eq] at h0
    rw [Nat.zero_add]
    exact h0.1 (by simpa using h)
  | sh :: S, a + 1, h0, h => by
    simp only [okT, Bool.and_eq_true, decide_eq_true_eq] at h0
    have h1 := okT_spec (S := S) (a := a) h0.2 (by simpa using h)
    rw [Nat.add_right_comm, List.getElem?_cons_succ]
    exact h1
theorem s0_1 {a : Nat} (c : SH[a]? = some (.inl 0)) : SH[a + 1]? = some (.inr (.int, 12)) := okT_spec (by decide +kernel) c
theorem s1_2 {a : Nat} (c : SH[a]? = some (.inl 1)) : SH[a + 1]? = some (.inr (.int, 2916)) := okT_spec (by decide +kernel) c
theorem s1_4 {a : Nat} (c : SH[a]? = some (.inl 1)) : SH[a + 5]? = some (.inr (.int, 6)) := okT_spec (by decide +kernel) c
theorem s1_5 {a : Nat} (c : SH[a]? = some (.inl 1)) : SH[a + 6]? = some (.inr (.int, 6)) := okT_spec (by decide +kernel) c
theorem s1_7 {a : Nat} (c : SH[a]? = some (.inl 1)) : SH[a + 7]? = some (.inr (.int, 2)) := okT_spec (by decide +kernel) c
theorem s2_0 {a : Nat} (c : SH[a]? = some (.inl 2)) : SH[a + 1]? = some (.inr (.object "LoadRoad$State", 20)) := okT_spec (by decide +kernel) c
theorem s4_5 {a : Nat} (c : SH[a]? = some (.inl 4)) : SH[a + 1]? = some (.inr (.int, 8)) := okT_spec (by decide +kernel) c
theorem s4_6 {a : Nat} (c : SH[a]? = some (.inl 4)) : SH[a + 2]? = some (.inr (.int, 4)) := okT_spec (by decide +kernel) c
theorem s4_7 {a : Nat} (c : SH[a]? = some (.inl 4)) : SH[a + 3]? = some (.inr (.int, 6)) := okT_spec (by decide +kernel) c
theorem s4_8 {a : Nat} (c : SH[a]? = some (.inl 4)) : SH[a + 4]? = some (.inr (.int, 6)) := okT_spec (by decide +kernel) c
theorem s4_9 {a : Nat} (c : SH[a]? = some (.inl 4)) : SH[a + 5]? = some (.inr (.int, 6)) := okT_spec (by decide +kernel) c
theorem s5_1 {a : Nat} (c : SH[a]? = some (.inl 5)) : SH[a + 1]? = some (.inl 4) := okT_spec (by decide +kernel) c
theorem s6_0 {a : Nat} (c : SH[a]? = some (.inl 6)) : SH[a + 1]? = some (.inr (.int, 400)) := okT_spec (by decide +kernel) c
theorem s6_1 {a : Nat} (c : SH[a]? = some (.inl 6)) : SH[a + 2]? = some (.inr (.long, 64)) := okT_spec (by decide +kernel) c
theorem s8_1 {a : Nat} (c : SH[a]? = some (.inl 8)) : SH[a + 1]? = some (.inr (.int, 4)) := okT_spec (by decide +kernel) c
theorem s8_2 {a : Nat} (c : SH[a]? = some (.inl 8)) : SH[a + 2]? = some (.inr (.int, 4)) := okT_spec (by decide +kernel) c
theorem s8_3 {a : Nat} (c : SH[a]? = some (.inl 8)) : SH[a + 3]? = some (.inr (.int, 6)) := okT_spec (by decide +kernel) c
theorem s9_0 {a : Nat} (c : SH[a]? = some (.inl 9)) : SH[a + 1]? = some (.inr (.int, 400)) := okT_spec (by decide +kernel) c
theorem s10_0 {a : Nat} (c : SH[a]? = some (.inl 10)) : SH[a + 1]? = some (.inl 4) := okT_spec (by decide +kernel) c
theorem s10_1 {a : Nat} (c : SH[a]? = some (.inl 10)) : SH[a + 7]? = some (.inl 8) := okT_spec (by decide +kernel) c
theorem s10_2 {a : Nat} (c : SH[a]? = some (.inl 10)) : SH[a + 11]? = some (.inl 2) := okT_spec (by decide +kernel) c
theorem s10_6 {a : Nat} (c : SH[a]? = some (.inl 10)) : SH[a + 93]? = some (.inr (.int, 10)) := okT_spec (by decide +kernel) c
theorem s10_7 {a : Nat} (c : SH[a]? = some (.inl 10)) : SH[a + 94]? = some (.inr (.int, 10)) := okT_spec (by decide +kernel) c
theorem s10_8 {a : Nat} (c : SH[a]? = some (.inl 10)) : SH[a + 95]? = some (.inr (.int, 10)) := okT_spec (by decide +kernel) c
theorem s12_1 {a : Nat} (c : SH[a]? = some (.inl 12)) : SH[a + 1]? = some (.inr (.int, 9)) := okT_spec (by decide +kernel) c
theorem s12_2 {a : Nat} (c : SH[a]? = some (.inl 12)) : SH[a + 2]? = some (.inr (.int, 4)) := okT_spec (by decide +kernel) c
theorem s12_3 {a : Nat} (c : SH[a]? = some (.inl 12)) : SH[a + 3]? = some (.inr (.int, 4)) := okT_spec (by decide +kernel) c
theorem s12_4 {a : Nat} (c : SH[a]? = some (.inl 12)) : SH[a + 4]? = some (.inr (.int, 6)) := okT_spec (by decide +kernel) c
theorem s12_5 {a : Nat} (c : SH[a]? = some (.inl 12)) : SH[a + 5]? = some (.inr (.int, 8)) := okT_spec (by decide +kernel) c
theorem s12_6 {a : Nat} (c : SH[a]? = some (.inl 12)) : SH[a + 6]? = some (.inr (.int, 4)) := okT_spec (by decide +kernel) c
theorem s12_7 {a : Nat} (c : SH[a]? = some (.inl 12)) : SH[a + 7]? = some (.inr (.int, 6)) := okT_spec (by decide +kernel) c
theorem s12_8 {a : Nat} (c : SH[a]? = some (.inl 12)) : SH[a + 8]? = some (.inr (.int, 6)) := okT_spec (by decide +kernel) c
theorem s12_9 {a : Nat} (c : SH[a]? = some (.inl 12)) : SH[a + 9]? = some (.inr (.int, 10)) := okT_spec (by decide +kernel) c
theorem s12_10 {a : Nat} (c : SH[a]? = some (.inl 12)) : SH[a + 10]? = some (.inr (.int, 10)) := okT_spec (by decide +kernel) c
theorem s12_11 {a : Nat} (c : SH[a]? = some (.inl 12)) : SH[a + 11]? = some (.inr (.int, 10)) := okT_spec (by decide +kernel) c
theorem s12_12 {a : Nat} (c : SH[a]? = some (.inl 12)) : SH[a + 12]? = some (.inr (.int, 6)) := okT_spec (by decide +kernel) c
theorem s12_13 {a : Nat} (c : SH[a]? = some (.inl 12)) : SH[a + 13]? = some (.inr (.int, 5)) := okT_spec (by decide +kernel) c
theorem s12_14 {a : Nat} (c : SH[a]? = some (.inl 12)) : SH[a + 14]? = some (.inr (.int, 8)) := okT_spec (by decide +kernel) c
theorem s12_15 {a : Nat} (c : SH[a]? = some (.inl 12)) : SH[a + 15]? = some (.inr (.int, 4)) := okT_spec (by decide +kernel) c
theorem s12_16 {a : Nat} (c : SH[a]? = some (.inl 12)) : SH[a + 16]? = some (.inr (.int, 6)) := okT_spec (by decide +kernel) c
theorem s12_17 {a : Nat} (c : SH[a]? = some (.inl 12)) : SH[a + 17]? = some (.inr (.int, 6)) := okT_spec (by decide +kernel) c
theorem s12_18 {a : Nat} (c : SH[a]? = some (.inl 12)) : SH[a + 18]? = some (.inr (.int, 6)) := okT_spec (by decide +kernel) c
theorem s12_29 {a : Nat} (c : SH[a]? = some (.inl 12)) : SH[a + 19]? = some (.inr (.byte, 400)) := okT_spec (by decide +kernel) c
theorem s12_30 {a : Nat} (c : SH[a]? = some (.inl 12)) : SH[a + 20]? = some (.inr (.int, 1800)) := okT_spec (by decide +kernel) c
theorem s12_31 {a : Nat} (c : SH[a]? = some (.inl 12)) : SH[a + 21]? = some (.inr (.int, 1800)) := okT_spec (by decide +kernel) c
theorem s12_32 {a : Nat} (c : SH[a]? = some (.inl 12)) : SH[a + 22]? = some (.inr (.int, 6)) := okT_spec (by decide +kernel) c
theorem s12_33 {a : Nat} (c : SH[a]? = some (.inl 12)) : SH[a + 23]? = some (.inr (.int, 72)) := okT_spec (by decide +kernel) c
theorem s12_34 {a : Nat} (c : SH[a]? = some (.inl 12)) : SH[a + 24]? = some (.inr (.int, 72)) := okT_spec (by decide +kernel) c
theorem s12_35 {a : Nat} (c : SH[a]? = some (.inl 12)) : SH[a + 25]? = some (.inr (.int, 72)) := okT_spec (by decide +kernel) c
theorem s12_36 {a : Nat} (c : SH[a]? = some (.inl 12)) : SH[a + 26]? = some (.inr (.int, 402)) := okT_spec (by decide +kernel) c
theorem s12_37 {a : Nat} (c : SH[a]? = some (.inl 12)) : SH[a + 27]? = some (.inr (.long, 12)) := okT_spec (by decide +kernel) c
theorem s12_38 {a : Nat} (c : SH[a]? = some (.inl 12)) : SH[a + 28]? = some (.inr (.long, 300)) := okT_spec (by decide +kernel) c
theorem s12_39 {a : Nat} (c : SH[a]? = some (.inl 12)) : SH[a + 29]? = some (.inr (.int, 300)) := okT_spec (by decide +kernel) c
theorem s12_40 {a : Nat} (c : SH[a]? = some (.inl 12)) : SH[a + 30]? = some (.inr (.int, 1)) := okT_spec (by decide +kernel) c
theorem s12_44 {a : Nat} (c : SH[a]? = some (.inl 12)) : SH[a + 31]? = some (.inr (.int, 2916)) := okT_spec (by decide +kernel) c
theorem s12_45 {a : Nat} (c : SH[a]? = some (.inl 12)) : SH[a + 32]? = some (.inr (.int, 6)) := okT_spec (by decide +kernel) c
theorem s12_50 {a : Nat} (c : SH[a]? = some (.inl 12)) : SH[a + 33]? = some (.inr (.int, 244)) := okT_spec (by decide +kernel) c
theorem s12_51 {a : Nat} (c : SH[a]? = some (.inl 12)) : SH[a + 34]? = some (.inr (.int, 28)) := okT_spec (by decide +kernel) c
theorem s12_52 {a : Nat} (c : SH[a]? = some (.inl 12)) : SH[a + 35]? = some (.inr (.int, 2250)) := okT_spec (by decide +kernel) c
theorem s12_53 {a : Nat} (c : SH[a]? = some (.inl 12)) : SH[a + 36]? = some (.inr (.boolean, 4)) := okT_spec (by decide +kernel) c
theorem sh0 : SH[0]? = some (.inl 11) := by decide +kernel
theorem sh1 : SH[1]? = some (.inl 9) := by decide +kernel
theorem sh3 : SH[3]? = some (.inl 5) := by decide +kernel
theorem sh10 : SH[10]? = some (.inl 7) := by decide +kernel
theorem sh11 : SH[11]? = some (.inr (.object "LoadRoad$Rule", 6)) := by decide +kernel
theorem sh30 : SH[30]? = some (.inl 10) := by decide +kernel
theorem sh31 : SH[31]? = some (.inl 4) := by decide +kernel
theorem sh37 : SH[37]? = some (.inl 8) := by decide +kernel
theorem sh126 : SH[126]? = some (.inr (.object "LoadRoad$World", 4)) := by decide +kernel
theorem sh511 : SH[511]? = some (.inr (.boolean, 4)) := by decide +kernel
theorem sh512 : SH[512]? = some (.inl 0) := by decide +kernel
theorem sh514 : SH[514]? = some (.inl 3) := by decide +kernel
theorem sh515 : SH[515]? = some (.inl 1) := by decide +kernel
theorem sh517 : SH[517]? = some (.inr (.array .int, 2)) := by decide +kernel
theorem sh523 : SH[523]? = some (.inl 8) := by decide +kernel
theorem sh527 : SH[527]? = some (.inr (.array .int, 7)) := by decide +kernel
theorem sh535 : SH[535]? = some (.inl 12) := by decide +kernel
theorem shRules : ∀ i, i < 6 → SH[12 + 3 * i]? = some (.inl 6) := by decide +kernel
theorem shRowsA : ∀ i, i < 20 → okT 2 (2 + 4 * i) (.inl 8) SH = true := by decide +kernel
theorem shRows {a : Nat} (c : SH[a]? = some (.inl 2)) {i : Nat} (h : i < 20) : SH[a + 2 + 4 * i]? = some (.inl 8) := by rw [Nat.add_assoc]; exact okT_spec (shRowsA i h) c
theorem shImages : ∀ i, i < 4 → SH[127 + 96 * i]? = some (.inl 10) := by decide +kernel
theorem shWorth : ∀ i, i < 2 → SH[518 + i]? = some (.inr (.int, 64)) := by decide +kernel
theorem shSeen : ∀ i, i < 7 → SH[528 + i]? = some (.inr (.int, 4)) := by decide +kernel
theorem inN {i : Int32} {n : Nat} (h : vp_in i n) : i.toNatClampNeg < n := Nat.not_le.mp fun q => h (Or.inr q)
abbrev Go (X : pX) (d : Nat) (Y : pM) (Q : Option Value → pMem → Prop) (pc : Nat) (ls : List (Nat × Value)) (st : List Value) (m : pMem) : Prop := pGo X Y (prm d SH SH) SH.length (psl SH) (pZ X (prm d SH SH) SH Q) pc ls st SH m
abbrev Cl (X : pX) (d : Nat) (Y : pM) (vs : List Value) (m : pMem) (Q : Option Value → pMem → Prop) : Prop := pCl X Y d SH SH vs m Q
theorem rmSH {Y2 : pM} {d2 d : Nat} (h : d2 + 1 ≤ d) (hL : Y2.2.2.1 ≤ 40) : pRm (prm d SH SH) SH.length (psl SH) Y2 d2 SH SH := ⟨⟨h, by show 8 + (Y2.2.2.1 + 11) + 60 * d2 ≤ 60 * d; omega⟩, ⟨Nat.le_refl _, Nat.le_refl _⟩, Nat.le_refl _, Nat.le_refl _⟩
theorem enSH {d : Nat} : pEnd (prm d SH SH) SH.length (psl SH) SH := ⟨rfl, rfl⟩
theorem p_tabD {x : Int32} {lo hi : Int} (h : ∀ k : Int, lo ≤ k → k ≤ hi → x ≠ Int32.ofInt k) : x.toInt < lo ∨ hi < x.toInt := by
  by_cases h1 : x.toInt < lo
  · exact Or.inl h1
  · by_cases h2 : hi < x.toInt
    · exact Or.inr h2
    · exact absurd (by simp) (h x.toInt (by omega) (by omega))
