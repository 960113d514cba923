section S22
variable {X : pX} {Q : Option Value → pMem → Prop} {m : pMem}
theorem s_mAt {x : Int32} (hW : Wf m) (hP : vp_in (mI m 536 3) 5) (h1 : ((¬ x < 0 ∧ ¬ (mI m 536 3 - (1 : Int32)) < x) ∧ mI m 538 x.toNatClampNeg = 0) → Q (some (.int 1)) m) (h0 : ¬ ((¬ x < 0 ∧ ¬ (mI m 536 3 - (1 : Int32)) < x) ∧ mI m 538 x.toNatClampNeg = 0) → Q (some (.int 0)) m) : Cl X 2 mX12_isAtPlace [.ref 535, .int x] m Q := by
  obtain ⟨P, hP6, eP⟩ := vp_in_of hP (by decide)
  refine pCl_of (by decide +kernel) (Nat.le_of_ble_eq_true rfl) rfl (bX12_isAtPlace_0 hW (fun z => ?_) (fun _ z => h0 (fun w => z w.2)) (fun z1 z2 => h1 ⟨z1, z2⟩) (fun z => h0 (fun w => z w.1)))
  obtain ⟨q, hq, rfl⟩ := (perM eP (by omega)).mp z
  exact vp_in_nI (by omega) (by decide)
theorem s_mHand {x : Int32} (hW : Wf m) (hT : vp_in (mI m 536 4) 7) (h1 : ¬ mI m 536 1 ≤ nI (cnt (mI m 539) x (mI m 536 4).toNatClampNeg) → Q (some (.int 1)) m) (h0 : ¬ ¬ mI m 536 1 ≤ nI (cnt (mI m 539) x (mI m 536 4).toNatClampNeg) → Q (some (.int 0)) m) : Cl X 1 mX12_mayHaveMore [.ref 535, .int x] m Q := by
  obtain ⟨T, hT6, eT⟩ := vp_in_of hT (by decide)
  have e : pcI (tAt (mI m 539) x (mI m 536 4).toNatClampNeg) = nI (cnt (mI m 539) x (mI m 536 4).toNatClampNeg) := by
    rw [eT, nI_clamp (by omega)]; exact pcI_t _ _ T (by omega)
  refine pCl_of (by decide +kernel) (Nat.le_of_ble_eq_true rfl) rfl (bX12_mayHaveMore_0 hW hT ?_ ?_ ?_)
  · rw [eT, nI_clamp (by omega)]; exact tAt_sm _ _ T (by omega)
  · rw [e]; exact fun z => h0 (fun w => w z)
  · rw [e]; exact h1
theorem s_cTog {x y : Int32} (hW : Wf m)
    (h1 : (¬ x = y ∧ ((¬ x < 0 ∧ ¬ mI m 31 3 ≤ x ∧ ¬ (4 : Int32) ≤ x) ∧ mI m 39 x.toNatClampNeg = 0) ∧ ((¬ y < 0 ∧ ¬ mI m 31 3 ≤ y ∧ ¬ (4 : Int32) ≤ y) ∧ mI m 39 y.toNatClampNeg = 0) ∧ mI m 38 x.toNatClampNeg = mI m 38 y.toNatClampNeg) → Q (some (.int 1)) m)
    (h0 : ¬ (¬ x = y ∧ ((¬ x < 0 ∧ ¬ mI m 31 3 ≤ x ∧ ¬ (4 : Int32) ≤ x) ∧ mI m 39 x.toNatClampNeg = 0) ∧ ((¬ y < 0 ∧ ¬ mI m 31 3 ≤ y ∧ ¬ (4 : Int32) ≤ y) ∧ mI m 39 y.toNatClampNeg = 0) ∧ mI m 38 x.toNatClampNeg = mI m 38 y.toNatClampNeg) → Q (some (.int 0)) m) : Cl X 2 mX11_areAtOnePlace [.ref 0, .int x, .int y] m Q :=
  pCl_of (by decide +kernel) (Nat.le_of_ble_eq_true rfl) rfl (bX11_areAtOnePlace_0 hW (fun z => h0 (fun w => w.1 z)) (fun _ z _ => vp_in_cmp (N := 4) z.1.1 z.1.2.2 (by decide)) (fun _ _ z => vp_in_cmp (N := 4) z.1.1 z.1.2.2 (by decide)) (fun _ _ _ z => h0 (fun w => z w.2.2.2)) (fun z1 z2 z3 z4 => h1 ⟨z1, z2, z3, z4⟩) (fun _ _ z => h0 (fun w => z w.2.2.1)) (fun _ z => h0 (fun w => z w.2.1)))
end S22
