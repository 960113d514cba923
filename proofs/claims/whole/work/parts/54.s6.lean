section S6
variable {X : pX} {Q : Option Value → pMem → Prop} {m : pMem}
theorem s_walkS37 {q p Sg : Nat} (hW : Wf m) (hq : q < 4) (hS : mI m 31 2 = nI Sg) (h8 : Sg ≤ 8) (hp : mI m 38 q = nI p) (hps : p < Sg)
    (h1 : mI m 32 p + dSum (mI m 34) (mI m 40) (nI q) 6 ≤ mI m 39 q + mI m 33 q → Q (some (.int 1)) (uI (uI m 38 q (mI m 38 q + 1)) 39 q 0))
    (h0 : ¬ (mI m 32 p + dSum (mI m 34) (mI m 40) (nI q) 6 ≤ mI m 39 q + mI m 33 q) → Q (some (.int 0)) (uI m 39 q (mI m 39 q + mI m 33 q))) : Cl X 2 mX0_walk [.ref 512, .ref 37, .int (nI q)] m Q := by
  have eq : (nI q).toNatClampNeg = q := nI_clamp (by omega)
  have ep : (nI p).toNatClampNeg = p := nI_clamp (by omega)
  have hq4 : vp_in (nI q) 4 := vp_in_nI hq (by decide)
  have hst : ¬ (mI m 38 (nI q).toNatClampNeg) < 0 ∧ ¬ mI m 31 2 ≤ (mI m 38 (nI q).toNatClampNeg) ∧ ¬ (8 : Int32) ≤ (mI m 38 (nI q).toNatClampNeg) := by
    rw [eq, hS, hp]
    exact ⟨nI_pos (by omega), nI_ge hps (by omega), nI_ge (a := p) (b := 8) (by omega) (by decide)⟩
  refine pCl_of (by decide +kernel) (Nat.le_of_ble_eq_true rfl) rfl (bX0_walkS37_0 hW hq4 (fun _ => ?_) (fun _ => ?_) (fun z => absurd hst z))
  · rw [eq, hp]; exact vp_in_nI (by omega) (by decide)
  · rw [eq, hp, ep]
    refine bX0_walkS37_31 hW hq4 (fun _ => hq4) (fun z => ?_) (fun z => ?_)
    · rw [eq, mI_uI, if_pos ⟨rfl, rfl⟩, wSum_t (Nat.le_refl 6) 6 (Nat.le_refl 6)] at z
      refine (congrArg (fun w => Q (some (.int 1)) w) ?_).mpr (h1 z)
      refine mem_ext (fun x y => ?_) (fun _ _ => rfl) (fun _ _ => rfl)
      rw [eq]
      simp only [mI_uI]
      by_cases e1 : x = 39 ∧ y = q <;> by_cases e2 : x = 38 ∧ y = q <;> simp [e1, e2]
    · rw [eq, mI_uI, if_pos ⟨rfl, rfl⟩, wSum_t (Nat.le_refl 6) 6 (Nat.le_refl 6)] at z
      rw [eq]
      exact h0 z
theorem s_walkS523 {q p Sg : Nat} (hW : Wf m) (hq : q < 4) (hS : mI m 31 2 = nI Sg) (h8 : Sg ≤ 8) (hp : mI m 524 q = nI p) (hps : p < Sg)
    (h1 : mI m 32 p + dSum (mI m 34) (mI m 526) (nI q) 6 ≤ mI m 525 q + mI m 33 q → Q (some (.int 1)) (uI (uI m 524 q (mI m 524 q + 1)) 525 q 0))
    (h0 : ¬ (mI m 32 p + dSum (mI m 34) (mI m 526) (nI q) 6 ≤ mI m 525 q + mI m 33 q) → Q (some (.int 0)) (uI m 525 q (mI m 525 q + mI m 33 q))) : Cl X 2 mX0_walk [.ref 512, .ref 523, .int (nI q)] m Q := by
  have eq : (nI q).toNatClampNeg = q := nI_clamp (by omega)
  have ep : (nI p).toNatClampNeg = p := nI_clamp (by omega)
  have hq4 : vp_in (nI q) 4 := vp_in_nI hq (by decide)
  have hst : ¬ (mI m 524 (nI q).toNatClampNeg) < 0 ∧ ¬ mI m 31 2 ≤ (mI m 524 (nI q).toNatClampNeg) ∧ ¬ (8 : Int32) ≤ (mI m 524 (nI q).toNatClampNeg) := by
    rw [eq, hS, hp]
    exact ⟨nI_pos (by omega), nI_ge hps (by omega), nI_ge (a := p) (b := 8) (by omega) (by decide)⟩
  refine pCl_of (by decide +kernel) (Nat.le_of_ble_eq_true rfl) rfl (bX0_walkS523_0 hW hq4 (fun _ => ?_) (fun _ => ?_) (fun z => absurd hst z))
  · rw [eq, hp]; exact vp_in_nI (by omega) (by decide)
  · rw [eq, hp, ep]
    refine bX0_walkS523_31 hW hq4 (fun _ => hq4) (fun z => ?_) (fun z => ?_)
    · rw [eq, mI_uI, if_pos ⟨rfl, rfl⟩, wSum_t (Nat.le_refl 6) 6 (Nat.le_refl 6)] at z
      refine (congrArg (fun w => Q (some (.int 1)) w) ?_).mpr (h1 z)
      refine mem_ext (fun x y => ?_) (fun _ _ => rfl) (fun _ _ => rfl)
      rw [eq]
      simp only [mI_uI]
      by_cases e1 : x = 525 ∧ y = q <;> by_cases e2 : x = 524 ∧ y = q <;> simp [e1, e2]
    · rw [eq, mI_uI, if_pos ⟨rfl, rfl⟩, wSum_t (Nat.le_refl 6) 6 (Nat.le_refl 6)] at z
      rw [eq]
      exact h0 z
end S6
