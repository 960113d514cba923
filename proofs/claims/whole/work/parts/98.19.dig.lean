section T31
variable {X : pX} {Q : Option Value → pMem → Prop} {m : pMem}
theorem s_isDigit {x y z : Int32} (hW : Wf m) (h1 : (0 < y ∧ ((x / y) - (x / y) / (3 : Int32) * (3 : Int32)) = z) → Q (some (.int 1)) m) (h0 : ¬ (0 < y ∧ ((x / y) - (x / y) / (3 : Int32) * (3 : Int32)) = z) → Q (some (.int 0)) m) : Cl X 0 mX1_isDigit [.int x, .int y, .int z] m Q :=
  pCl_of (by decide +kernel) (Nat.le_of_ble_eq_true rfl) rfl (bX1_isDigit_0 hW (fun q => h0 (fun w => Int32.not_lt.mpr q w.1)) (fun q e => q (by rw [e]; exact Int32.le_refl _)) (fun _ q => h0 (fun w => q w.2)) (fun q1 q2 => h1 ⟨Int32.not_le.mp q1, q2⟩))
end T31
