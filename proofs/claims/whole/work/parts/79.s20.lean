/-! ===== who is who ===== -/
theorem vp_in_cmp {x : Int32} {N : Nat} (h1 : ¬ x < 0) (h2 : ¬ nI N ≤ x) (hN : N < 2 ^ 31) : vp_in x N := by
  obtain ⟨k, hk, rfl⟩ := nI_of h1
  exact vp_in_nI (Nat.not_le.mp fun z => h2 (nI_le z hk)) hN
theorem perC {x y z : Int32} {P K : Nat} (hy : y = nI P) (hz : z = nI K) (hP : P ≤ K) (hK : K < 2 ^ 31) : (¬ x < 0 ∧ ¬ y ≤ x ∧ ¬ z ≤ x) ↔ ∃ q, q < P ∧ x = nI q := by
  subst hy; subst hz
  constructor
  · rintro ⟨h1, h2, h3⟩
    obtain ⟨k, hk, rfl⟩ := nI_of h1
    exact ⟨k, Nat.not_le.mp fun z => h2 (nI_le z hk), rfl⟩
  · rintro ⟨q, hq, rfl⟩
    exact ⟨nI_pos (by omega), nI_ge hq (by omega), nI_ge (by omega) hK⟩
theorem perM {x y : Int32} {P : Nat} (hy : y = nI P) (hP : P < 2 ^ 31) : (¬ x < 0 ∧ ¬ (y - (1 : Int32)) < x) ↔ ∃ q, q < P ∧ x = nI q := by
  subst hy
  constructor
  · rintro ⟨h1, h2⟩
    obtain ⟨k, hk, rfl⟩ := nI_of h1
    refine ⟨k, ?_, rfl⟩
    cases P with
    | zero =>
      exfalso
      refine h2 ?_
      show (0 : Int32) - 1 < nI k
      have h3 : (-1 : Int32) < 0 := by decide
      exact Int32.lt_of_lt_of_le h3 (Int32.not_lt.mp h1)
    | succ P =>
      rw [nI_pred] at h2
      exact Nat.not_le.mp fun z => h2 (nI_lt (by omega) hk)
  · rintro ⟨q, hq, rfl⟩
    refine ⟨nI_pos (by omega), ?_⟩
    cases P with
    | zero => omega
    | succ P => rw [nI_pred]; exact nI_nlt (by omega) (by omega)
section S21
variable {X : pX} {Q : Option Value → pMem → Prop} {m : pMem}
theorem s_cTown37 (hW : Wf m) (hP : vp_in (mI m 31 3) 5) (h : Q (some (.int (tAt (mI m 38) (mI m 31 2) (mI m 31 3).toNatClampNeg))) m) : Cl X 0 mX0_peopleInTown [.ref 512, .ref 37] m Q := by
  obtain ⟨P, hP6, eP⟩ := vp_in_of hP (by decide)
  rw [eP, nI_clamp (by omega)] at h
  exact s_inTown37 hW eP (by omega) h
theorem s_cTown523 (hW : Wf m) (hP : vp_in (mI m 31 3) 5) (h : Q (some (.int (tAt (mI m 524) (mI m 31 2) (mI m 31 3).toNatClampNeg))) m) : Cl X 0 mX0_peopleInTown [.ref 512, .ref 523] m Q := by
  obtain ⟨P, hP6, eP⟩ := vp_in_of hP (by decide)
  rw [eP, nI_clamp (by omega)] at h
  exact s_inTown523 hW eP (by omega) h
theorem s_cWorth37 (hW : Wf m) (hP : vp_in (mI m 31 3) 5) (h : Q (some (.int (wSum (mI m 35) (tTown (mI m 38) (mI m 40) (mI m 31 2) 6 (mI m 31 3).toNatClampNeg) 6))) m) : Cl X 2 mX0_worthInTown [.ref 512, .ref 37] m Q := by
  obtain ⟨P, hP6, eP⟩ := vp_in_of hP (by decide)
  rw [eP, nI_clamp (by omega)] at h
  exact s_worthTown37 hW eP (by omega) h
theorem s_cWorth523 (hW : Wf m) (hP : vp_in (mI m 31 3) 5) (h : Q (some (.int (wSum (mI m 35) (tTown (mI m 524) (mI m 526) (mI m 31 2) 6 (mI m 31 3).toNatClampNeg) 6))) m) : Cl X 2 mX0_worthInTown [.ref 512, .ref 523] m Q := by
  obtain ⟨P, hP6, eP⟩ := vp_in_of hP (by decide)
  rw [eP, nI_clamp (by omega)] at h
  exact s_worthTown523 hW eP (by omega) h
theorem s_cAt {x : Int32} (hW : Wf m) (h1 : ((¬ x < 0 ∧ ¬ mI m 31 3 ≤ x ∧ ¬ (4 : Int32) ≤ x) ∧ mI m 39 x.toNatClampNeg = 0) → Q (some (.int 1)) m) (h0 : ¬ ((¬ x < 0 ∧ ¬ mI m 31 3 ≤ x ∧ ¬ (4 : Int32) ≤ x) ∧ mI m 39 x.toNatClampNeg = 0) → Q (some (.int 0)) m) : Cl X 1 mX11_isAtPlace [.ref 0, .int x] m Q :=
  pCl_of (by decide +kernel) (Nat.le_of_ble_eq_true rfl) rfl (bX11_isAtPlace_0 hW (fun z => vp_in_cmp (N := 4) z.1 z.2.2 (by decide)) (fun _ z => h0 (fun w => z w.2)) (fun z1 z2 => h1 ⟨z1, z2⟩) (fun z => h0 (fun w => z w.1)))
theorem s_cHand {x : Int32} (hW : Wf m) (h1 : ¬ mI m 31 1 ≤ nI (cnt (mI m 40) x 6) → Q (some (.int 1)) m) (h0 : ¬ ¬ mI m 31 1 ≤ nI (cnt (mI m 40) x 6) → Q (some (.int 0)) m) : Cl X 2 mX11_hasFreeHand [.ref 0, .int x] m Q :=
  pCl_of (by decide +kernel) (Nat.le_of_ble_eq_true rfl) rfl (bX11_hasFreeHand_0 hW (fun z => h0 (fun w => w z)) h1)
end S21
