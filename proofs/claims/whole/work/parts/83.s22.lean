section S23
variable {X : pX} {Q : Option Value → pMem → Prop} {m : pMem}
theorem s_mTog {x y : Int32} (hW : Wf m) (hP : vp_in (mI m 536 3) 5)
    (h1 : (((¬ x < 0 ∧ ¬ (mI m 536 3 - (1 : Int32)) < x) ∧ mI m 538 x.toNatClampNeg = 0) ∧ ((¬ y < 0 ∧ ¬ (mI m 536 3 - (1 : Int32)) < y) ∧ mI m 538 y.toNatClampNeg = 0) ∧ ¬ x = y ∧ mI m 537 x.toNatClampNeg = mI m 537 y.toNatClampNeg) → Q (some (.int 1)) m)
    (h0 : ¬ (((¬ x < 0 ∧ ¬ (mI m 536 3 - (1 : Int32)) < x) ∧ mI m 538 x.toNatClampNeg = 0) ∧ ((¬ y < 0 ∧ ¬ (mI m 536 3 - (1 : Int32)) < y) ∧ mI m 538 y.toNatClampNeg = 0) ∧ ¬ x = y ∧ mI m 537 x.toNatClampNeg = mI m 537 y.toNatClampNeg) → Q (some (.int 0)) m) : Cl X 3 mX12_areTogether [.ref 535, .int x, .int y] m Q := by
  obtain ⟨P, hP6, eP⟩ := vp_in_of hP (by decide)
  have vp : ∀ {x : Int32}, (¬ x < 0 ∧ ¬ (mI m 536 3 - (1 : Int32)) < x) → vp_in x 4 := by
    intro x z
    obtain ⟨q, hq, rfl⟩ := (perM eP (by omega)).mp z
    exact vp_in_nI (by omega) (by decide)
  exact pCl_of (by decide +kernel) (Nat.le_of_ble_eq_true rfl) rfl (bX12_areTogether_0 hW hP (fun _ => hP) (fun _ _ z => h0 (fun w => w.2.2.1 z)) (fun z _ _ => vp z.1) (fun _ z _ => vp z.1) (fun _ _ _ z => h0 (fun w => z w.2.2.2)) (fun z1 z2 z3 z4 => h1 ⟨z1, z2, z3, z4⟩) (fun _ z => h0 (fun w => z w.2.1)) (fun z => h0 (fun w => z w.1)))
end S23
/-- class and model, one behind the other, answer alike -/
def Pair (X : pX) (d1 d2 : Nat) (Y1 Y2 : pM) (as : List Value) : Prop :=
  ∀ m, Inv m → ∀ Q : Option Value → pMem → Prop, (∀ r m1, Wf m1 → (∀ Q2 : Option Value → pMem → Prop, (∀ m2, Inv m2 → Q2 (some (.int r)) m2) → Cl X d2 Y2 (.ref 535 :: as) m1 Q2) → Q (some (.int r)) m1) → Cl X d1 Y1 (.ref 0 :: as) m Q
/-- what is known, by names -/
theorem Inv_open {m : pMem} (h : Inv m) : Wf m ∧ ConI m ∧ TapeI m ∧ ∃ nr P Sg T N M d f, RulesI m nr ∧ ImgI m nr ∧ (f < 20 ∧ mI m 41 1 = nI f) ∧ WeqN nr (fc m 30) (fm m) P Sg T N M d ∧ Vw m nr P Sg T N M d := by
  obtain ⟨h1, h2, h3, nr, h4, h5, ⟨f, hf, ef⟩, P, Sg, T, N, M, d, h6⟩ := h
  exact ⟨h1, h2, h3, nr, P, Sg, T, N, M, d, f, h4, h5, ⟨hf, ef⟩, h6, vw_of h6⟩
