section Q3
variable {X : pX}
theorem p_count {x : Int32} : Pair X 3 3 mX11_count mX12_count [.int x] := by
  intro m h Q K
  obtain ⟨hW, hC, hT, nr, P, Sg, T, N, M, d, f, hr, hi, hf, hw, hv⟩ := Inv_open h
  obtain ⟨a1, a2, a3, a4, s1, s2, s3⟩ := rows_of hv
  obtain ⟨⟨⟨p3, p4, p2, p8, pT, p6⟩, ⟨q3, _, q2, _, qT, _⟩, _⟩, ⟨v1, v2, v3, v4, v5, v6, v7, v8, v9, v10⟩, _⟩ := hv
  obtain ⟨L, _, tL, tM, _⟩ := hT
  have t1 : mI m 1 1 = mI m 535 19 := tL.trans tM.symm
  have vP : vp_in (mI m 536 3) 5 := by rw [q3]; exact vp_in_nI (by omega) (by decide)
  have vP2 : vp_in (mI m 31 3) 5 := by rw [p3]; exact vp_in_nI (by omega) (by decide)
  have vT : vp_in (mI m 536 4) 7 := by rw [qT]; exact vp_in_nI (by omega) (by decide)
  have e7 : tAt (mI m 38) (mI m 31 2) (mI m 31 3).toNatClampNeg = tAt (mI m 537) (mI m 536 2) (mI m 536 3).toNatClampNeg := by
    rw [p2, q2, p3, q3, nI_clamp (by omega)]; exact tAt_pl s1 P p4
  have e8 : wSum (mI m 35) (tTown (mI m 38) (mI m 40) (mI m 31 2) 6 (mI m 31 3).toNatClampNeg) 6 = wTown (mI m 543) (mI m 537) (mI m 539) (mI m 536 2) (mI m 536 4).toNatClampNeg (mI m 536 3).toNatClampNeg := by
    rw [p2, q2, p3, q3, qT, nI_clamp (by omega), nI_clamp (by omega)]; exact wealth_ag s3 a4 s1 p6 p8 p4
  have e9 : (((1 : Int32) <<< (mI m 31 4 &&& 31)) - (1 : Int32)) &&& (tAt (mI m 40) (-1 : Int32) 6) = tAt (mI m 539) (-1 : Int32) (mI m 536 4).toNatClampNeg := by
    rw [pT, qT, nI_clamp (by omega)]; exact gone_ag s3 p6
  refine pCl_of (by decide +kernel) (Nat.le_of_ble_eq_true rfl) rfl (bX11_count_0 hW ?_ ?_ ?_ ?_ ?_ ?_ ?_ (by intros; exact vP2) ?_ (by intros; exact vP2) ?_ ?_ ?_ ?_ ?_ ?_ ?_)
  · intros
    rename_i z
    subst z
    refine K _ m hW (fun Q2 h2 => ?_)
    have main : Q2 (some (.int (mI m 536 1))) m := by rw [← v2]; exact h2 m h
    refine pCl_of (by decide +kernel) (Nat.le_of_ble_eq_true rfl) rfl (bX12_count_0 hW ?_ ?_ ?_ ?_ ?_ ?_ ?_ ?_ ?_ ?_ ?_ ?_ ?_ ?_ ?_ ?_ ?_ ?_ ?_) <;> intros <;> first | exact main | exact vP | exact vT | contradiction | (rename_i z; exact absurd z (by decide))
  · intros
    rename_i z
    subst z
    refine K _ m hW (fun Q2 h2 => ?_)
    have main : Q2 (some (.int (mI m 536 2))) m := by rw [← (show mI m 31 2 = mI m 536 2 from p2.trans q2.symm)]; exact h2 m h
    refine pCl_of (by decide +kernel) (Nat.le_of_ble_eq_true rfl) rfl (bX12_count_0 hW ?_ ?_ ?_ ?_ ?_ ?_ ?_ ?_ ?_ ?_ ?_ ?_ ?_ ?_ ?_ ?_ ?_ ?_ ?_) <;> intros <;> first | exact main | exact vP | exact vT | contradiction | (rename_i z; exact absurd z (by decide))
  · intros
    rename_i z
    subst z
    refine K _ m hW (fun Q2 h2 => ?_)
    have main : Q2 (some (.int (mI m 536 3))) m := by rw [← (show mI m 31 3 = mI m 536 3 from p3.trans q3.symm)]; exact h2 m h
    refine pCl_of (by decide +kernel) (Nat.le_of_ble_eq_true rfl) rfl (bX12_count_0 hW ?_ ?_ ?_ ?_ ?_ ?_ ?_ ?_ ?_ ?_ ?_ ?_ ?_ ?_ ?_ ?_ ?_ ?_ ?_) <;> intros <;> first | exact main | exact vP | exact vT | contradiction | (rename_i z; exact absurd z (by decide))
  · intros
    rename_i z
    subst z
    refine K _ m hW (fun Q2 h2 => ?_)
    have main : Q2 (some (.int (mI m 536 4))) m := by rw [← (show mI m 31 4 = mI m 536 4 from pT.trans qT.symm)]; exact h2 m h
    refine pCl_of (by decide +kernel) (Nat.le_of_ble_eq_true rfl) rfl (bX12_count_0 hW ?_ ?_ ?_ ?_ ?_ ?_ ?_ ?_ ?_ ?_ ?_ ?_ ?_ ?_ ?_ ?_ ?_ ?_ ?_) <;> intros <;> first | exact main | exact vP | exact vT | contradiction | (rename_i z; exact absurd z (by decide))
  · intros
    rename_i z
    subst z
    refine K _ m hW (fun Q2 h2 => ?_)
    have main : Q2 (some (.int (mI m 535 23))) m := by rw [← (show mI m 0 4 = mI m 535 23 from hr.2.1.trans hr.2.2.1.symm)]; exact h2 m h
    refine pCl_of (by decide +kernel) (Nat.le_of_ble_eq_true rfl) rfl (bX12_count_0 hW ?_ ?_ ?_ ?_ ?_ ?_ ?_ ?_ ?_ ?_ ?_ ?_ ?_ ?_ ?_ ?_ ?_ ?_ ?_) <;> intros <;> first | exact main | exact vP | exact vT | contradiction | (rename_i z; exact absurd z (by decide))
  · intros
    rename_i z
    subst z
    refine K _ m hW (fun Q2 h2 => ?_)
    have main : Q2 (some (.int (mI m 536 8))) m := by rw [← v8]; exact h2 m h
    refine pCl_of (by decide +kernel) (Nat.le_of_ble_eq_true rfl) rfl (bX12_count_0 hW ?_ ?_ ?_ ?_ ?_ ?_ ?_ ?_ ?_ ?_ ?_ ?_ ?_ ?_ ?_ ?_ ?_ ?_ ?_) <;> intros <;> first | exact main | exact vP | exact vT | contradiction | (rename_i z; exact absurd z (by decide))
  · intros
    rename_i z
    subst z
    refine K _ m hW (fun Q2 h2 => ?_)
    have main : Q2 (some (.int (mI m 536 5))) m := by rw [← (show mI m 37 0 = mI m 536 5 from v3.trans v4.symm)]; exact h2 m h
    refine pCl_of (by decide +kernel) (Nat.le_of_ble_eq_true rfl) rfl (bX12_count_0 hW ?_ ?_ ?_ ?_ ?_ ?_ ?_ ?_ ?_ ?_ ?_ ?_ ?_ ?_ ?_ ?_ ?_ ?_ ?_) <;> intros <;> first | exact main | exact vP | exact vT | contradiction | (rename_i z; exact absurd z (by decide))
  · intros
    rename_i z
    subst z
    refine K _ m hW (fun Q2 h2 => ?_)
    have main : Q2 (some (.int (tAt (mI m 537) (mI m 536 2) (mI m 536 3).toNatClampNeg))) m := by rw [← e7]; exact h2 m h
    refine pCl_of (by decide +kernel) (Nat.le_of_ble_eq_true rfl) rfl (bX12_count_0 hW ?_ ?_ ?_ ?_ ?_ ?_ ?_ ?_ ?_ ?_ ?_ ?_ ?_ ?_ ?_ ?_ ?_ ?_ ?_) <;> intros <;> first | exact main | exact vP | exact vT | contradiction | (rename_i z; exact absurd z (by decide))
  · intros
    rename_i z
    subst z
    refine K _ m hW (fun Q2 h2 => ?_)
    have main : Q2 (some (.int (wTown (mI m 543) (mI m 537) (mI m 539) (mI m 536 2) (mI m 536 4).toNatClampNeg (mI m 536 3).toNatClampNeg))) m := by rw [← e8]; exact h2 m h
    refine pCl_of (by decide +kernel) (Nat.le_of_ble_eq_true rfl) rfl (bX12_count_0 hW ?_ ?_ ?_ ?_ ?_ ?_ ?_ ?_ ?_ ?_ ?_ ?_ ?_ ?_ ?_ ?_ ?_ ?_ ?_) <;> intros <;> first | exact main | exact vP | exact vT | contradiction | (rename_i z; exact absurd z (by decide))
  · intros
    rename_i z
    subst z
    refine K _ m hW (fun Q2 h2 => ?_)
    have main : Q2 (some (.int (tAt (mI m 539) (-1 : Int32) (mI m 536 4).toNatClampNeg))) m := by rw [← e9]; exact h2 m h
    refine pCl_of (by decide +kernel) (Nat.le_of_ble_eq_true rfl) rfl (bX12_count_0 hW ?_ ?_ ?_ ?_ ?_ ?_ ?_ ?_ ?_ ?_ ?_ ?_ ?_ ?_ ?_ ?_ ?_ ?_ ?_) <;> intros <;> first | exact main | exact vP | exact vT | contradiction | (rename_i z; exact absurd z (by decide))
  · intros
    rename_i z
    subst z
    refine K _ m hW (fun Q2 h2 => ?_)
    have main : Q2 (some (.int (mI m 536 6))) m := by rw [← (show mI m 30 5 = mI m 536 6 from v5.trans v6.symm)]; exact h2 m h
    refine pCl_of (by decide +kernel) (Nat.le_of_ble_eq_true rfl) rfl (bX12_count_0 hW ?_ ?_ ?_ ?_ ?_ ?_ ?_ ?_ ?_ ?_ ?_ ?_ ?_ ?_ ?_ ?_ ?_ ?_ ?_) <;> intros <;> first | exact main | exact vP | exact vT | contradiction | (rename_i z; exact absurd z (by decide))
  · intros
    rename_i z
    subst z
    refine K _ m hW (fun Q2 h2 => ?_)
    have main : Q2 (some (.int (mI m 535 41))) m := by rw [← (show mI m 41 2 = mI m 535 41 from v9.trans v10.symm)]; exact h2 m h
    refine pCl_of (by decide +kernel) (Nat.le_of_ble_eq_true rfl) rfl (bX12_count_0 hW ?_ ?_ ?_ ?_ ?_ ?_ ?_ ?_ ?_ ?_ ?_ ?_ ?_ ?_ ?_ ?_ ?_ ?_ ?_) <;> intros <;> first | exact main | exact vP | exact vT | contradiction | (rename_i z; exact absurd z (by decide))
  · intros
    rename_i z
    subst z
    refine K _ m hW (fun Q2 h2 => ?_)
    have main : Q2 (some (.int (mI m 536 7))) m := by rw [← v7]; exact h2 m h
    refine pCl_of (by decide +kernel) (Nat.le_of_ble_eq_true rfl) rfl (bX12_count_0 hW ?_ ?_ ?_ ?_ ?_ ?_ ?_ ?_ ?_ ?_ ?_ ?_ ?_ ?_ ?_ ?_ ?_ ?_ ?_) <;> intros <;> first | exact main | exact vP | exact vT | contradiction | (rename_i z; exact absurd z (by decide))
  · intros
    rename_i z
    subst z
    refine K _ m hW (fun Q2 h2 => ?_)
    have main : Q2 (some (.int (mI m 535 19))) m := by rw [← t1]; exact h2 m h
    refine pCl_of (by decide +kernel) (Nat.le_of_ble_eq_true rfl) rfl (bX12_count_0 hW ?_ ?_ ?_ ?_ ?_ ?_ ?_ ?_ ?_ ?_ ?_ ?_ ?_ ?_ ?_ ?_ ?_ ?_ ?_) <;> intros <;> first | exact main | exact vP | exact vT | contradiction | (rename_i z; exact absurd z (by decide))
  · intros
    refine K _ m hW (fun Q2 h2 => ?_)
    have main : Q2 (some (.int (-1))) m := h2 m h
    refine pCl_of (by decide +kernel) (Nat.le_of_ble_eq_true rfl) rfl (bX12_count_0 hW ?_ ?_ ?_ ?_ ?_ ?_ ?_ ?_ ?_ ?_ ?_ ?_ ?_ ?_ ?_ ?_ ?_ ?_ ?_) <;> intros <;> first | exact main | exact vP | exact vT | contradiction
end Q3
