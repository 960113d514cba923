/-- what an entry of two comes to -/
def bothM (k : Int32) (a b : Int64) : Int64 :=
  if k = 2 then a + b else if k = 3 then a - b else if k = 13 then a * b else if k = 14 then (if b = 0 then 0 else a / b) else if k = 15 then (if b = 0 then 0 else a - a / b * b)
  else if k = 4 then (if a < b then 1 else 0) else if k = 5 then (if a ≤ b then 1 else 0) else if k = 6 then (if a = b then 1 else 0) else if k = 7 then (if b ≤ a then 1 else 0) else if k = 8 then (if b < a then 1 else 0)
  else if k = 10 then a &&& b else a ||| b
/-- the wealth in the town: q people are through -/
def wTown (wo pl wh : Row) (S : Int32) (n : Nat) : Nat → Int32
  | 0 => wSum wo (tAt wh (10 + S) n) n
  | q + 1 => if pl q = S then wTown wo pl wh S n q + wSum wo (tAt wh (nI q) n) n else wTown wo pl wh S n q
section S10
variable {X : pX} {Q : Option Value → pMem → Prop} {m : pMem}
theorem s_both {x : Int32} {a b : Int64} (hW : Wf m) (h : Q (some (.long (bothM x a b))) m) : Cl X 1 mX12_both [.int x, .long a, .long b] m Q := by
  refine pCl_of (by decide +kernel) (Nat.le_of_ble_eq_true rfl) rfl (bX12_both_0 hW ?_ ?_ ?_ ?_ ?_ ?_ ?_ ?_ ?_ ?_ ?_ ?_ ?_ ?_ ?_ ?_ ?_ ?_ ?_ ?_ ?_ ?_ ?_ ?_)
  all_goals (intros)
  all_goals first
    | (subst_vars; simp_all [bothM, lg_cmp_le, lg_cmp_lt, lg_cmp_eq, lg_cmp_gt, lg_cmp_ge]; done)
    | skip
  all_goals (rename_i z; simp only [lg_cmp_le, lg_cmp_lt, lg_cmp_eq, lg_cmp_gt, lg_cmp_ge] at z; subst_vars; first | (have z2 := Int64.not_lt.mpr z; simp [bothM, z2] at h; exact h) | (have z2 := Int64.not_le.mpr z; simp [bothM, z2] at h; exact h) | (have z2 := Int64.not_lt.mp z; simp [bothM, z2] at h; exact h) | (have z2 := Int64.not_le.mp z; simp [bothM, z2] at h; exact h))
theorem s_wealthNow (hW : Wf m) (hP : vp_in (mI m 536 3) 5) (hT : vp_in (mI m 536 4) 7) (h : Q (some (.int (wTown (mI m 543) (mI m 537) (mI m 539) (mI m 536 2) (mI m 536 4).toNatClampNeg (mI m 536 3).toNatClampNeg))) m) : Cl X 2 mX12_wealthNow [.ref 535] m Q := by
  obtain ⟨T, hT6, eT⟩ := vp_in_of hP (by decide)
  rw [eT, nI_clamp (by omega)] at h
  refine pCl_of (by decide +kernel) (Nat.le_of_ble_eq_true rfl) rfl (bX12_wealthNow_0 hW hT ?_)
  refine upTo (P := fun t => Go X 2 mX12_wealthNow Q 18 [(0, .ref 535), (1, .int (wTown (mI m 543) (mI m 537) (mI m 539) (mI m 536 2) (mI m 536 4).toNatClampNeg t)), (2, .int (nI t))] [] m) T
    (bX12_wealthNow_18 hW (fun _ => h) (fun q => absurd (by rw [eT]; exact Int32.le_refl _) q) (fun q => absurd (by rw [eT]; exact Int32.le_refl _) q) (fun q => absurd (by rw [eT]; exact Int32.le_refl _) q) (fun q => absurd (by rw [eT]; exact Int32.le_refl _) q))
    (fun t ht ih => bX12_wealthNow_18 hW (fun q => absurd (by rw [eT] at q; exact q) (nI_ge ht (by omega))) (fun _ => vp_in_nI (by omega) (by decide)) (fun _ q => ?_) (fun _ _ => hT) (fun _ q => ?_)) 0 (Nat.zero_le _)
  · rw [nI_clamp (by omega)] at q
    rw [nI_1, Int32.add_zero]; simp only [wTown, if_neg q] at ih; exact ih
  · rw [nI_clamp (by omega)] at q
    rw [nI_1]; simp only [wTown, if_pos q] at ih; exact ih
end S10
