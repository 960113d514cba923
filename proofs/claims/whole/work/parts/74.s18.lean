/-! ===== the class: copies ===== -/
def cpS (m : pMem) (a b : Nat) : pMem := uC (uC (uC (uI m a 0 (mI m b 0)) (b + 1) 0 (a + 1) 0 4) (b + 2) 0 (a + 2) 0 4) (b + 3) 0 (a + 3) 0 6
def beS (m : pMem) (a b : Nat) : pMem := uC (uF (uF (uI m b 0 0) (b + 1) 4 0) (b + 2) 4 0) (a + 5) 0 (b + 3) 0 6
def clR (m : pMem) (a : Nat) : pMem := uF (uI (uI (uI (uI (uI m a 0 0) a 1 0) a 2 0) a 3 0) a 4 0) (a + 5) 6 (-1)
def cpR (m : pMem) (a b : Nat) : pMem := uC (uC (uC (uC (uC (uI (uI (uI (uI (uI m a 0 (mI m b 0)) a 1 (mI m b 1)) a 2 (mI m b 2)) a 3 (mI m b 3)) a 4 (mI m b 4)) (b + 1) 0 (a + 1) 0 8) (b + 2) 0 (a + 2) 0 4) (b + 3) 0 (a + 3) 0 6) (b + 4) 0 (a + 4) 0 6) (b + 5) 0 (a + 5) 0 6
def cst (m : pMem) (s j : Nat) : Int32 := if j < 1 then mI m s 0 else if j < 5 then mI m (s + 1) (j - 1) else if j < 9 then mI m (s + 2) (j - 5) else mI m (s + 3) (j - 9)
theorem mI_uC' (m : pMem) (a b n x y : Nat) : mI (uC m a 0 b 0 n) x y = if x = b ∧ y < n then mI m a y else mI m x y := by
  rw [mI_uC]
  by_cases e : x = b ∧ y < n
  · rw [if_pos e, if_pos ⟨e.1, by omega, by omega⟩, Nat.zero_add, Nat.sub_zero]
  · rw [if_neg e, if_neg (fun z => e ⟨z.1, by omega⟩)]
theorem mI_cpS {m : pMem} {a b : Nat} (h : a + 3 < b ∨ b + 3 < a) (x y : Nat) : mI (cpS m a b) x y = if x = a ∧ y = 0 then mI m b 0 else if x = a + 1 ∧ y < 4 then mI m (b + 1) y else if x = a + 2 ∧ y < 4 then mI m (b + 2) y else if x = a + 3 ∧ y < 6 then mI m (b + 3) y else mI m x y := by
  unfold cpS
  simp only [mI_uC', mI_uI]
  have k1 : ∀ t u, t ≤ 3 → u ≤ 3 → b + t ≠ a + u := fun t u _ _ => by omega
  by_cases e3 : x = a + 3 ∧ y < 6
  · obtain ⟨rfl, e3⟩ := e3
    rw [if_pos ⟨rfl, e3⟩, if_neg (by omega), if_neg (by omega), if_neg (by omega), if_neg (by omega), if_neg (by omega), if_neg (by omega), if_pos ⟨rfl, e3⟩]
  · rw [if_neg e3]
    by_cases e2 : x = a + 2 ∧ y < 4
    · obtain ⟨rfl, e2⟩ := e2
      rw [if_pos ⟨rfl, e2⟩, if_neg (by omega), if_neg (by omega), if_neg (by omega), if_neg (by omega), if_pos ⟨rfl, e2⟩]
    · rw [if_neg e2]
      by_cases e1 : x = a + 1 ∧ y < 4
      · obtain ⟨rfl, e1⟩ := e1
        rw [if_pos ⟨rfl, e1⟩, if_neg (by omega), if_neg (by omega), if_pos ⟨rfl, e1⟩]
      · rw [if_neg e1]
        by_cases e0 : x = a ∧ y = 0
        · rw [if_pos e0, if_pos e0]
        · rw [if_neg e0, if_neg e0, if_neg e1, if_neg e2, if_neg e3]
theorem mI_beS {m : pMem} {a b : Nat} (h : a + 5 < b ∨ b + 3 < a + 5) (x y : Nat) : mI (beS m a b) x y = if x = b ∧ y = 0 then 0 else if (x = b + 1 ∨ x = b + 2) ∧ y < 4 then 0 else if x = b + 3 ∧ y < 6 then mI m (a + 5) y else mI m x y := by
  unfold beS
  simp only [mI_uC', mI_uI, mI_uF]
  by_cases e3 : x = b + 3 ∧ y < 6
  · obtain ⟨rfl, e3⟩ := e3
    rw [if_pos ⟨rfl, e3⟩, if_neg (by omega), if_neg (by omega), if_neg (by omega), if_neg (by omega), if_neg (by omega), if_pos ⟨rfl, e3⟩]
  · rw [if_neg e3]
    by_cases e2 : x = b + 2 ∧ y < 4
    · obtain ⟨rfl, e2⟩ := e2
      rw [if_pos ⟨rfl, e2⟩, if_neg (by omega), if_pos ⟨Or.inr rfl, e2⟩]
    · rw [if_neg e2]
      by_cases e1 : x = b + 1 ∧ y < 4
      · obtain ⟨rfl, e1⟩ := e1
        rw [if_pos ⟨rfl, e1⟩, if_neg (by omega), if_pos ⟨Or.inl rfl, e1⟩]
      · rw [if_neg e1]
        by_cases e0 : x = b ∧ y = 0
        · rw [if_pos e0, if_pos e0]
        · rw [if_neg e0, if_neg e0, if_neg (by omega), if_neg e3]
theorem mI_clR (m : pMem) (a x y : Nat) : mI (clR m a) x y = if x = a ∧ y < 5 then 0 else if x = a + 5 ∧ y < 6 then -1 else mI m x y := by
  unfold clR
  simp only [mI_uI, mI_uF]
  by_cases e1 : x = a + 5 ∧ y < 6
  · rw [if_pos e1, if_neg (by omega), if_pos e1]
  · rw [if_neg e1]
    by_cases e : x = a ∧ y < 5
    · rw [if_pos e]
      obtain ⟨rfl, e⟩ := e
      have : y = 0 ∨ y = 1 ∨ y = 2 ∨ y = 3 ∨ y = 4 := by omega
      rcases this with rfl | rfl | rfl | rfl | rfl <;> simp
    · rw [if_neg e, if_neg e1, if_neg (by omega), if_neg (by omega), if_neg (by omega), if_neg (by omega), if_neg (by omega)]
theorem mI_cpR {m : pMem} {a b : Nat} (h : a + 5 < b ∨ b + 5 < a) (x y : Nat) : mI (cpR m a b) x y = if x = a ∧ y < 5 then mI m b y else if x = a + 1 ∧ y < 8 then mI m (b + 1) y else if x = a + 2 ∧ y < 4 then mI m (b + 2) y else if x = a + 3 ∧ y < 6 then mI m (b + 3) y else if x = a + 4 ∧ y < 6 then mI m (b + 4) y else if x = a + 5 ∧ y < 6 then mI m (b + 5) y else mI m x y := by
  have low : ∀ x y, ¬ (x = a ∧ y < 5) → mI (uI (uI (uI (uI (uI m a 0 (mI m b 0)) a 1 (mI m b 1)) a 2 (mI m b 2)) a 3 (mI m b 3)) a 4 (mI m b 4)) x y = mI m x y := by
    intro x y z
    simp only [mI_uI]
    rw [if_neg (by omega), if_neg (by omega), if_neg (by omega), if_neg (by omega), if_neg (by omega)]
  have low2 : ∀ y, y < 5 → mI (uI (uI (uI (uI (uI m a 0 (mI m b 0)) a 1 (mI m b 1)) a 2 (mI m b 2)) a 3 (mI m b 3)) a 4 (mI m b 4)) a y = mI m b y := by
    intro y z
    have : y = 0 ∨ y = 1 ∨ y = 2 ∨ y = 3 ∨ y = 4 := by omega
    simp only [mI_uI]
    rcases this with rfl | rfl | rfl | rfl | rfl <;> simp
  unfold cpR
  generalize uI (uI (uI (uI (uI m a 0 (mI m b 0)) a 1 (mI m b 1)) a 2 (mI m b 2)) a 3 (mI m b 3)) a 4 (mI m b 4) = m0 at *
  simp only [mI_uC']
  by_cases e5 : x = a + 5 ∧ y < 6
  · obtain ⟨rfl, e⟩ := e5
    rw [if_pos ⟨rfl, e⟩, if_neg (by omega), if_neg (by omega), if_neg (by omega), if_neg (by omega), if_neg (by omega), if_neg (by omega), if_neg (by omega), if_neg (by omega), if_neg (by omega), if_pos ⟨rfl, e⟩, low _ _ (by omega)]
  · rw [if_neg e5]
    by_cases e4 : x = a + 4 ∧ y < 6
    · obtain ⟨rfl, e⟩ := e4
      rw [if_pos ⟨rfl, e⟩, if_neg (by omega), if_neg (by omega), if_neg (by omega), if_neg (by omega), if_neg (by omega), if_neg (by omega), if_neg (by omega), if_pos ⟨rfl, e⟩, low _ _ (by omega)]
    · rw [if_neg e4]
      by_cases e3 : x = a + 3 ∧ y < 6
      · obtain ⟨rfl, e⟩ := e3
        rw [if_pos ⟨rfl, e⟩, if_neg (by omega), if_neg (by omega), if_neg (by omega), if_neg (by omega), if_neg (by omega), if_pos ⟨rfl, e⟩, low _ _ (by omega)]
      · rw [if_neg e3]
        by_cases e2 : x = a + 2 ∧ y < 4
        · obtain ⟨rfl, e⟩ := e2
          rw [if_pos ⟨rfl, e⟩, if_neg (by omega), if_neg (by omega), if_neg (by omega), if_pos ⟨rfl, e⟩, low _ _ (by omega)]
        · rw [if_neg e2]
          by_cases e1 : x = a + 1 ∧ y < 8
          · obtain ⟨rfl, e⟩ := e1
            rw [if_pos ⟨rfl, e⟩, if_neg (by omega), if_pos ⟨rfl, e⟩, low _ _ (by omega)]
          · rw [if_neg e1]
            by_cases e0 : x = a ∧ y < 5
            · rw [if_pos e0, e0.1, low2 y e0.2]
            · rw [if_neg e0, if_neg e1, if_neg e2, if_neg e3, if_neg e4, if_neg e5, low x y e0]
theorem cst_cpS {m : pMem} {a b j : Nat} (h : a + 3 < b ∨ b + 3 < a) (hj : j < 15) : cst (cpS m a b) a j = cst m b j := by
  unfold cst
  by_cases e1 : j < 1
  · rw [if_pos e1, if_pos e1, mI_cpS h, if_pos ⟨rfl, rfl⟩]
  · rw [if_neg e1, if_neg e1]
    by_cases e2 : j < 5
    · rw [if_pos e2, if_pos e2, mI_cpS h, if_neg (by omega), if_pos ⟨rfl, by omega⟩]
    · rw [if_neg e2, if_neg e2]
      by_cases e3 : j < 9
      · rw [if_pos e3, if_pos e3, mI_cpS h, if_neg (by omega), if_neg (by omega), if_pos ⟨rfl, by omega⟩]
      · rw [if_neg e3, if_neg e3, mI_cpS h, if_neg (by omega), if_neg (by omega), if_neg (by omega), if_pos ⟨rfl, by omega⟩]
theorem cst_c {m m2 : pMem} {s j : Nat} (h : ∀ t k, t ≤ 3 → mI m2 (s + t) k = mI m (s + t) k) : cst m2 s j = cst m s j := by
  have h0 := fun k => h 0 k (by omega)
  simp only [Nat.add_zero] at h0
  unfold cst
  rw [h0, h 1 _ (by omega), h 2 _ (by omega), h 3 _ (by omega)]
theorem fcP_cst (m : pMem) (a i j : Nat) : fcP m a i j = cst m (a + 13 + 4 * (((mI m (a + 11) 1).toNatClampNeg + i) % 20)) j := rfl
section S19
variable {X : pX} {Q : Option Value → pMem → Prop} {m : pMem}
theorem s_copyS {a b : Nat} (hW : Wf m) (c0 : SH[a]? = some (.inl 8)) (c1 : SH[b]? = some (.inl 8)) (h : Q none (cpS m a b)) : Cl X 1 mX8_copy [.ref a, .ref b] m Q :=
  pCl_of (by decide +kernel) (Nat.le_of_ble_eq_true rfl) rfl (bX8_copy_0 hW c0 c1 h)
theorem s_beginS {a b : Nat} (hW : Wf m) (c0 : SH[a]? = some (.inl 4)) (c1 : SH[b]? = some (.inl 8)) (h : Q none (beS m a b)) : Cl X 1 mX4_begin [.ref a, .ref b] m Q := by
  refine pCl_of (by decide +kernel) (Nat.le_of_ble_eq_true rfl) rfl (bX4_begin_0 hW c0 c1 ?_)
  refine s_fill (m := uI m b 0 0) hW (s8_1 c1) (by decide) ?_
  refine bX4_begin_13 (m := uF (uI m b 0 0) (b + 1) 4 0) hW c0 c1 ?_
  refine s_fill (m := uF (uI m b 0 0) (b + 1) 4 0) hW (s8_2 c1) (by decide) ?_
  exact bX4_begin_21 (m := uF (uF (uI m b 0 0) (b + 1) 4 0) (b + 2) 4 0) hW c0 c1 h
theorem s_clearR {a : Nat} (hW : Wf m) (c0 : SH[a]? = some (.inl 4)) (h : Q none (clR m a)) : Cl X 1 mX4_clear [.ref a] m Q := by
  refine pCl_of (by decide +kernel) (Nat.le_of_ble_eq_true rfl) rfl (bX4_clear_0 hW c0 ?_)
  refine s_fill (m := uI (uI (uI (uI (uI m a 0 0) a 1 0) a 2 0) a 3 0) a 4 0) hW (s4_9 c0) (by decide) ?_
  exact bX4_clear_33 (m := clR m a) hW c0 h
theorem s_copyR {a b : Nat} (hW : Wf m) (c0 : SH[a]? = some (.inl 4)) (c1 : SH[b]? = some (.inl 4)) (hb : mI m b 0 = 0 ∨ mI m b 0 = 1) (h : Q none (cpR m a b)) : Cl X 1 mX4_copy [.ref a, .ref b] m Q := by
  refine pCl_of (by decide +kernel) (Nat.le_of_ble_eq_true rfl) rfl (bX4_copy_0 hW c0 c1 hb ?_)
  by_cases hab : a = b
  · subst hab
    refine (congrArg (fun z => Q none z) ?_).mpr h
    unfold cpR
    congr 5
    refine mem_ext (fun x y => ?_) (fun _ _ => rfl) (fun _ _ => rfl)
    simp [mI_uI]
  · refine (congrArg (fun z => Q none z) ?_).mpr h
    unfold cpR
    have e : ∀ (m' : pMem) (k k2 : Nat) (v : Int32), mI (uI m' a k v) b k2 = mI m' b k2 := fun m' k k2 v => by rw [mI_uI, if_neg (fun z => hab z.1.symm)]
    rw [e, e, e, e, e, e, e, e, e, e]
end S19
