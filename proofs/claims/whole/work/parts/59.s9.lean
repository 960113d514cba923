/-! ===== the model's leaves, once more ===== -/
section S9
variable {X : pX} {Q : Option Value → pMem → Prop} {m : pMem}
theorem s_mPerson {x : Int32} (hW : Wf m) (h1 : (¬ x < 0 ∧ ¬ (mI m 536 3 - (1 : Int32)) < x) → Q (some (.int 1)) m) (h0 : ¬ (¬ x < 0 ∧ ¬ (mI m 536 3 - (1 : Int32)) < x) → Q (some (.int 0)) m) : Cl X 1 mX12_isPerson [.ref 535, .int x] m Q :=
  pCl_of (by decide +kernel) (Nat.le_of_ble_eq_true rfl) rfl (bX12_isPerson_0 hW h1 h0)
theorem s_mThing {x : Int32} (hW : Wf m) (h1 : (¬ x < 0 ∧ ¬ (mI m 536 4 - (1 : Int32)) < x) → Q (some (.int 1)) m) (h0 : ¬ (¬ x < 0 ∧ ¬ (mI m 536 4 - (1 : Int32)) < x) → Q (some (.int 0)) m) : Cl X 1 mX12_isThing [.ref 535, .int x] m Q :=
  pCl_of (by decide +kernel) (Nat.le_of_ble_eq_true rfl) rfl (bX12_isThing_0 hW h1 h0)
theorem s_mThings {x : Int32} (hW : Wf m) (hT : vp_in (mI m 536 4) 7) (h : Q (some (.int (tAt (mI m 539) x (mI m 536 4).toNatClampNeg))) m) : Cl X 0 mX12_thingsOf [.ref 535, .int x] m Q := by
  obtain ⟨T, hT6, eT⟩ := vp_in_of hT (by decide)
  rw [eT, nI_clamp (by omega)] at h
  exact s_thingsOf hW eT (by omega) h
theorem s_mWeight {x : Int32} (hW : Wf m) (hT : vp_in (mI m 536 4) 7) (h : Q (some (.int (wSum (mI m 542) x (mI m 536 4).toNatClampNeg))) m) : Cl X 1 mX12_weightOf [.ref 535, .int x] m Q := by
  obtain ⟨T, hT6, eT⟩ := vp_in_of hT (by decide)
  rw [eT, nI_clamp (by omega)] at h
  refine pCl_of (by decide +kernel) (Nat.le_of_ble_eq_true rfl) rfl (bX12_weightOf_0 hW ?_)
  refine upTo (P := fun t => Go X 1 mX12_weightOf Q 4 [(0, .ref 535), (1, .int x), (2, .int (wSum (mI m 542) x t)), (3, .int (nI t))] [] m) T
    (bX12_weightOf_4 hW (fun _ => h) (fun q => absurd (by rw [eT]; exact Int32.le_refl _) q) (fun q => absurd (by rw [eT]; exact Int32.le_refl _) q) (fun q => absurd (by rw [eT]; exact Int32.le_refl _) q))
    (fun t ht ih => bX12_weightOf_4 hW (fun q => absurd (by rw [eT] at q; exact q) (nI_ge ht (by omega))) (fun _ _ => vp_in_nI (by omega) (by decide)) (fun _ q => ?_) (fun _ q => ?_)) 0 (Nat.zero_le _)
  · rw [nI_1, nI_clamp (by omega)]; simp only [wSum, if_pos q] at ih; exact ih
  · rw [nI_1, Int32.add_zero]; simp only [wSum, if_neg q] at ih; exact ih
theorem s_mWorth {x : Int32} (hW : Wf m) (hT : vp_in (mI m 536 4) 7) (h : Q (some (.int (wSum (mI m 543) x (mI m 536 4).toNatClampNeg))) m) : Cl X 1 mX12_worthOf [.ref 535, .int x] m Q := by
  obtain ⟨T, hT6, eT⟩ := vp_in_of hT (by decide)
  rw [eT, nI_clamp (by omega)] at h
  refine pCl_of (by decide +kernel) (Nat.le_of_ble_eq_true rfl) rfl (bX12_worthOf_0 hW ?_)
  refine upTo (P := fun t => Go X 1 mX12_worthOf Q 4 [(0, .ref 535), (1, .int x), (2, .int (wSum (mI m 543) x t)), (3, .int (nI t))] [] m) T
    (bX12_worthOf_4 hW (fun _ => h) (fun q => absurd (by rw [eT]; exact Int32.le_refl _) q) (fun q => absurd (by rw [eT]; exact Int32.le_refl _) q) (fun q => absurd (by rw [eT]; exact Int32.le_refl _) q))
    (fun t ht ih => bX12_worthOf_4 hW (fun q => absurd (by rw [eT] at q; exact q) (nI_ge ht (by omega))) (fun _ _ => vp_in_nI (by omega) (by decide)) (fun _ q => ?_) (fun _ q => ?_)) 0 (Nat.zero_le _)
  · rw [nI_1, nI_clamp (by omega)]; simp only [wSum, if_pos q] at ih; exact ih
  · rw [nI_1, Int32.add_zero]; simp only [wSum, if_neg q] at ih; exact ih
theorem s_mInTown (hW : Wf m) (hP : vp_in (mI m 536 3) 5) (h : Q (some (.int (tAt (mI m 537) (mI m 536 2) (mI m 536 3).toNatClampNeg))) m) : Cl X 1 mX12_inTown [.ref 535] m Q := by
  obtain ⟨T, hT6, eT⟩ := vp_in_of hP (by decide)
  rw [eT, nI_clamp (by omega)] at h
  refine pCl_of (by decide +kernel) (Nat.le_of_ble_eq_true rfl) rfl (bX12_inTown_0 hW ?_)
  refine upTo (P := fun t => Go X 1 mX12_inTown Q 4 [(0, .ref 535), (1, .int (tAt (mI m 537) (mI m 536 2) t)), (2, .int (nI t))] [] m) T
    (bX12_inTown_4 hW (fun _ => h) (fun q => absurd (by rw [eT]; exact Int32.le_refl _) q) (fun q => absurd (by rw [eT]; exact Int32.le_refl _) q) (fun q => absurd (by rw [eT]; exact Int32.le_refl _) q))
    (fun t ht ih => bX12_inTown_4 hW (fun q => absurd (by rw [eT] at q; exact q) (nI_ge ht (by omega))) (fun _ => vp_in_nI (by omega) (by decide)) (fun _ q => ?_) (fun _ q => ?_)) 0 (Nat.zero_le _)
  · rw [nI_clamp (by omega)] at q
    rw [nI_1, Int32.or_zero]; simp only [tAt, if_neg q] at ih; exact ih
  · rw [nI_clamp (by omega)] at q
    rw [nI_1]; simp only [tAt, if_pos q] at ih; exact ih
end S9
