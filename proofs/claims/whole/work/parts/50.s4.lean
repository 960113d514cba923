/-! ===== Days: words ===== -/
theorem sh513 : SH[513]? = some (.inr (.int, 12)) := s0_1 sh512
theorem rule_rng {r : Nat} (c : SH[r]? = some (.inl 6)) : 12 ≤ r ∧ r ≤ 27 := by
  have h : ∀ r, r < 572 → SH[r]? = some (.inl 6) → 12 ≤ r ∧ r ≤ 27 := by decide +kernel
  exact h r (SH_lt c) c
theorem stepC_congr {w w2 : Row} (h : ∀ j, j < 12 → w j = w2 j) (x : Int32) (s : List Int64) : stepC w x s = stepC w2 x s := by
  unfold stepC
  by_cases h0 : 0 ≤ x
  · rw [if_pos h0, if_pos h0]
  · rw [if_neg h0, if_neg h0]
    by_cases h1 : -13 < x
    · rw [if_pos h1, if_pos h1]
      have a1 := (fa_lt _ _).mp (Int32.not_le.mp h0)
      have a2 := (fa_lt _ _).mp h1
      have b2 : ((-1 : Int32)).toInt = -1 := rfl
      have b3 : ((-13 : Int32)).toInt = -13 := rfl
      have b4 : ((0 : Int32)).toInt = 0 := rfl
      have hv : vp_in (-1 - x) 12 := by rw [vp_in_iff, fb_subI (by omega) (by omega)]; omega
      rw [h _ (inN hv)]
    · rw [if_neg h1, if_neg h1]
theorem runC_congr {st w w2 : Row} (h : ∀ j, j < 12 → w j = w2 j) : ∀ (r i : Nat) (s : List Int64), runC st w r i s = runC st w2 r i s
  | 0, _, _ => rfl
  | r + 1, i, s => by
    unfold runC
    rw [stepC_congr h]
    split
    · rfl
    · exact runC_congr h r _ _
/-- what the rule of a row of steps says -/
def evC (st we wo fu pa : Row) (Sg dy : Int32) (n k6 : Nat) : Row → Nat → Row → Nat → Bool := fun pl q wh t => decide (0 < runC st (wds we wo fu pa Sg dy pl wh k6 q t) n 0 [])
section S4
variable {X : pX} {Q : Option Value → pMem → Prop} {m : pMem}
theorem s_setWordsS37 {x2 x3 : Int32} (hW : Wf m) (h2 : vp_in x2 4) (h3 : vp_in x3 6) (hp : ¬ mI m 38 x2.toNatClampNeg < 0 ∧ ¬ mI m 31 2 ≤ mI m 38 x2.toNatClampNeg ∧ ¬ (8 : Int32) ≤ mI m 38 x2.toNatClampNeg)
    (h : Q none (uRow m 513 12 (wds (mI m 34) (mI m 35) (mI m 32) (mI m 33) (mI m 31 2) (mI m 37 0) (mI m 38) (mI m 40) 6 x2.toNatClampNeg x3.toNatClampNeg))) : Cl X 2 mX0_setWords [.ref 512, .ref 37, .int x2, .int x3] m Q := by
  obtain ⟨q, hq, rfl⟩ := vp_in_of h2 (by decide)
  obtain ⟨t, ht, rfl⟩ := vp_in_of h3 (by decide)
  have eq : (nI q).toNatClampNeg = q := nI_clamp (by omega)
  have et : (nI t).toNatClampNeg = t := nI_clamp (by omega)
  rw [eq] at hp
  rw [eq, et] at h
  refine pCl_of (by decide +kernel) (Nat.le_of_ble_eq_true rfl) rfl (bX0_setWordsS37_0 hW h2 h3 (tAt_sm _ _ 6 (Nat.le_refl 6)) (fun z => ?_) (fun z => ?_) (fun z => absurd (by rw [eq]; exact hp) z))
  · rw [eq]
    exact fun w => w.elim hp.1 (fun w2 => by
      obtain ⟨p, hp31, ep⟩ := nI_of hp.1
      rw [ep] at hp w2
      rw [nI_clamp hp31] at w2
      exact hp.2.2 (nI_le (a := 8) w2 hp31))
  · refine (congrArg (fun z => Q none z) ?_).mpr h
    refine mem_ext (fun x y => ?_) (fun _ _ => rfl) (fun _ _ => rfl)
    rw [eq, et]
    by_cases hx : x = 513
    · subst hx
      have hy : y = 0 ∨ y = 1 ∨ y = 2 ∨ y = 3 ∨ y = 4 ∨ y = 5 ∨ y = 6 ∨ y = 7 ∨ y = 8 ∨ y = 9 ∨ y = 10 ∨ y = 11 ∨ 12 ≤ y := by omega
      rcases hy with rfl | rfl | rfl | rfl | rfl | rfl | rfl | rfl | rfl | rfl | rfl | rfl | hy
      · simp [mI_uI, mI_uRow, wds]
      · simp [mI_uI, mI_uRow, wds]
      · simp [mI_uI, mI_uRow, wds]
      · simp [mI_uI, mI_uRow, wds]
      · simp only [mI_uI, mI_uRow, wds]; simp only [hasT (Nat.le_refl 6) ht]; simp
      · simp only [mI_uI, mI_uRow, wds]; simp only [pcI_t _ _ 6 (Nat.le_refl 6)]; simp
      · simp only [mI_uI, mI_uRow, wds]; simp only [wSum_t (Nat.le_refl 6) 6 (Nat.le_refl 6)]; simp
      · simp [mI_uI, mI_uRow, wds]
      · simp [mI_uI, mI_uRow, wds]
      · simp [mI_uI, mI_uRow, wds]
      · simp [mI_uI, mI_uRow, wds]
      · simp [mI_uI, mI_uRow, wds]
      · simp [mI_uI, mI_uRow, show ¬ y < 12 by omega, show ¬ y = 0 by omega, show ¬ y = 1 by omega, show ¬ y = 2 by omega, show ¬ y = 3 by omega, show ¬ y = 4 by omega, show ¬ y = 5 by omega, show ¬ y = 6 by omega, show ¬ y = 7 by omega, show ¬ y = 8 by omega, show ¬ y = 9 by omega, show ¬ y = 10 by omega, show ¬ y = 11 by omega]
    · simp [mI_uI, mI_uRow, hx]
theorem s_setWordsS523 {x2 x3 : Int32} (hW : Wf m) (h2 : vp_in x2 4) (h3 : vp_in x3 6) (hp : ¬ mI m 524 x2.toNatClampNeg < 0 ∧ ¬ mI m 31 2 ≤ mI m 524 x2.toNatClampNeg ∧ ¬ (8 : Int32) ≤ mI m 524 x2.toNatClampNeg)
    (h : Q none (uRow m 513 12 (wds (mI m 34) (mI m 35) (mI m 32) (mI m 33) (mI m 31 2) (mI m 523 0) (mI m 524) (mI m 526) 6 x2.toNatClampNeg x3.toNatClampNeg))) : Cl X 2 mX0_setWords [.ref 512, .ref 523, .int x2, .int x3] m Q := by
  obtain ⟨q, hq, rfl⟩ := vp_in_of h2 (by decide)
  obtain ⟨t, ht, rfl⟩ := vp_in_of h3 (by decide)
  have eq : (nI q).toNatClampNeg = q := nI_clamp (by omega)
  have et : (nI t).toNatClampNeg = t := nI_clamp (by omega)
  rw [eq] at hp
  rw [eq, et] at h
  refine pCl_of (by decide +kernel) (Nat.le_of_ble_eq_true rfl) rfl (bX0_setWordsS523_0 hW h2 h3 (tAt_sm _ _ 6 (Nat.le_refl 6)) (fun z => ?_) (fun z => ?_) (fun z => absurd (by rw [eq]; exact hp) z))
  · rw [eq]
    exact fun w => w.elim hp.1 (fun w2 => by
      obtain ⟨p, hp31, ep⟩ := nI_of hp.1
      rw [ep] at hp w2
      rw [nI_clamp hp31] at w2
      exact hp.2.2 (nI_le (a := 8) w2 hp31))
  · refine (congrArg (fun z => Q none z) ?_).mpr h
    refine mem_ext (fun x y => ?_) (fun _ _ => rfl) (fun _ _ => rfl)
    rw [eq, et]
    by_cases hx : x = 513
    · subst hx
      have hy : y = 0 ∨ y = 1 ∨ y = 2 ∨ y = 3 ∨ y = 4 ∨ y = 5 ∨ y = 6 ∨ y = 7 ∨ y = 8 ∨ y = 9 ∨ y = 10 ∨ y = 11 ∨ 12 ≤ y := by omega
      rcases hy with rfl | rfl | rfl | rfl | rfl | rfl | rfl | rfl | rfl | rfl | rfl | rfl | hy
      · simp [mI_uI, mI_uRow, wds]
      · simp [mI_uI, mI_uRow, wds]
      · simp [mI_uI, mI_uRow, wds]
      · simp [mI_uI, mI_uRow, wds]
      · simp only [mI_uI, mI_uRow, wds]; simp only [hasT (Nat.le_refl 6) ht]; simp
      · simp only [mI_uI, mI_uRow, wds]; simp only [pcI_t _ _ 6 (Nat.le_refl 6)]; simp
      · simp only [mI_uI, mI_uRow, wds]; simp only [wSum_t (Nat.le_refl 6) 6 (Nat.le_refl 6)]; simp
      · simp [mI_uI, mI_uRow, wds]
      · simp [mI_uI, mI_uRow, wds]
      · simp [mI_uI, mI_uRow, wds]
      · simp [mI_uI, mI_uRow, wds]
      · simp [mI_uI, mI_uRow, wds]
      · simp [mI_uI, mI_uRow, show ¬ y < 12 by omega, show ¬ y = 0 by omega, show ¬ y = 1 by omega, show ¬ y = 2 by omega, show ¬ y = 3 by omega, show ¬ y = 4 by omega, show ¬ y = 5 by omega, show ¬ y = 6 by omega, show ¬ y = 7 by omega, show ¬ y = 8 by omega, show ¬ y = 9 by omega, show ¬ y = 10 by omega, show ¬ y = 11 by omega]
    · simp [mI_uI, mI_uRow, hx]
end S4
