section T21
variable {X : pX} {Q : Option Value → pMem → Prop} {m : pMem}
theorem s_canBe {x : Int32} (hW : Wf m) (hT : vp_in (mI m 31 4) 7) (h1 : (¬ x < 0 ∧ ¬ (((1 : Int32) <<< (mI m 31 4 &&& 31)) - (1 : Int32)) < x ∧ ¬ mI m 31 1 < pcI x) → Q (some (.int 1)) m) (h0 : ¬ (¬ x < 0 ∧ ¬ (((1 : Int32) <<< (mI m 31 4 &&& 31)) - (1 : Int32)) < x ∧ ¬ mI m 31 1 < pcI x) → Q (some (.int 0)) m) : Cl X 1 mX3_canBeCarried [.ref 514, .int x] m Q := by
  obtain ⟨T, hT6, eT⟩ := vp_in_of hT (by decide)
  refine pCl_of (by decide +kernel) (Nat.le_of_ble_eq_true rfl) rfl (bX3_canBeCarried_0 hW (fun z => h0 (fun w => w.1 z)) (fun _ z => h0 (fun w => w.2.1 z)) (fun z1 z2 => ?_) (fun _ _ z => h0 (fun w => w.2.2 z)) (fun z1 z2 z3 => h1 ⟨z1, z2, z3⟩))
  rw [eT, allT T (by omega)] at z2
  have := allTp T (by omega)
  obtain ⟨k, hk, rfl⟩ := (inI (a := 2 ^ T - 1) (by omega)).mp ⟨z1, z2⟩
  exact ⟨k, by omega, rfl⟩
theorem s_toTown {x s : Int32} (hW : Wf m) (ok : dyOk (mI m 31 3) (mI m 33) x (mI m 38 x.toNatClampNeg) (mI m 31 2)) (h : Q (some (.int (dyI (mI m 32) (mI m 33 x.toNatClampNeg) (wSum (mI m 34) s 6) (mI m 38 x.toNatClampNeg) (mI m 31 2)))) m) : Cl X 2 mX3_daysToTown [.ref 514, .int x, .int s] m Q :=
  pCl_of (by decide +kernel) (Nat.le_of_ble_eq_true rfl) rfl (bX3_daysToTown_0 hW (vp_in_cmp (N := 4) ok.1.1 ok.1.2.2 (by decide)) ok h)
theorem s_home {x s : Int32} (hW : Wf m) (hT : vp_in (mI m 536 4) 7) (ok : dyOkM (mI m 541) x (mI m 537 x.toNatClampNeg) (mI m 536 2)) (h : Q (some (.int (dyI (mI m 540) (mI m 541 x.toNatClampNeg) (wSum (mI m 542) s (mI m 536 4).toNatClampNeg) (mI m 537 x.toNatClampNeg) (mI m 536 2)))) m) : Cl X 2 mX12_daysHome [.ref 535, .int x, .int s] m Q :=
  pCl_of (by decide +kernel) (Nat.le_of_ble_eq_true rfl) rfl (bX12_daysHome_0 hW ok.1 hT ok h)
end T21
