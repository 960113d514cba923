/-! ===== the model: acts kept, and taken back ===== -/
def layP (j : Nat) : Nat × Nat := if j < 1 then (536, 5) else if j < 5 then (537, j - 1) else if j < 9 then (538, j - 5) else (539, j - 9)
def pst (m : pMem) (j : Nat) : Int32 := mI m (layP j).1 (layP j).2
theorem pR_537 : ∀ j, j < 4 → layP (1 + j) = (537, j) := by decide +kernel
theorem pN_537 : ∀ j, j < 1 → (layP j).1 ≠ 537 := by decide +kernel
theorem pR_538 : ∀ j, j < 4 → layP (5 + j) = (538, j) := by decide +kernel
theorem pN_538 : ∀ j, j < 5 → (layP j).1 ≠ 538 := by decide +kernel
theorem pR_539 : ∀ j, j < 6 → layP (9 + j) = (539, j) := by decide +kernel
theorem pN_539 : ∀ j, j < 9 → (layP j).1 ≠ 539 := by decide +kernel
theorem pN_p : ∀ j, j < 15 → (layP j).1 ≠ 535 ∧ (layP j).1 ≠ 564 := by decide +kernel
def PsI (m : pMem) (k o : Nat) (mi : pMem) : Prop := mI mi 535 43 = 0 ∧ mI mi 535 42 = nI (15 * k + o) ∧ (∀ x y, x ≠ 564 → ¬ (x = 535 ∧ (y = 42 ∨ y = 43)) → mI mi x y = mI m x y) ∧ (∀ y, mI mi 564 y = if 15 * k ≤ y ∧ y < 15 * k + o then pst m (y - 15 * k) else mI m 564 y) ∧ ∀ x y, mR mi x y = mR m x y
theorem ps_step {m mi : pMem} {k o r n : Nat} (h : PsI m k o mi) (hr : r ≠ 564 ∧ r ≠ 535) (hrow : ∀ j, j < n → mI mi r j = pst m (o + j)) (hb : 15 * k + o + n ≤ 300) : PsI m k (o + n) (gM 564 42 43 mi r n) := by
  obtain ⟨h1, h2, h3, h4, h5⟩ := h
  unfold gM
  rw [h2, nI_clamp (by omega)]
  refine ⟨(gP_f (by decide) hr.2 (by decide)).trans h1, by rw [gP_c, Nat.add_assoc], fun x y z1 z3 => ?_, fun y => ?_, fun x y => (gP_R).trans (h5 x y)⟩
  · unfold gP
    rw [if_pos h1, mI_uI, if_neg (fun z => z3 ⟨z.1, Or.inl z.2⟩), mI_uC, if_neg (fun z => z1 z.1)]
    exact h3 x y z1 z3
  · unfold gP
    rw [if_pos h1, mI_uI, if_neg (by omega), mI_uC]
    by_cases e : 15 * k + o ≤ y ∧ y < 15 * k + o + n
    · rw [if_pos ⟨rfl, e⟩, if_pos (by omega), hrow _ (by omega)]
      congr 1
      omega
    · rw [if_neg (fun z => e z.2), h4]
      by_cases e2 : 15 * k ≤ y ∧ y < 15 * k + o
      · rw [if_pos e2, if_pos (by omega)]
      · rw [if_neg e2, if_neg (by omega)]
def PbI (m : pMem) (k o : Nat) (mi : pMem) : Prop := ¬ mI mi 535 43 = 0 ∧ mI mi 535 42 = nI (15 * k + o) ∧ (∀ y, mI mi 564 y = mI m 564 y) ∧ (∀ j, j < o → mI mi (layP j).1 (layP j).2 = mI m 564 (15 * k + j)) ∧ (∀ x y, x ≠ 537 → x ≠ 538 → x ≠ 539 → ¬ (x = 536 ∧ y = 5) → ¬ (x = 535 ∧ (y = 42 ∨ y = 43)) → mI mi x y = mI m x y) ∧ ∀ x y, mR mi x y = mR m x y
theorem pb_step {m mi : pMem} {k o r n : Nat} (h : PbI m k o mi) (hr : r ≠ 564 ∧ r ≠ 535) (hr3 : r = 537 ∨ r = 538 ∨ r = 539) (h1r : ∀ j, j < n → layP (o + j) = (r, j)) (h2r : ∀ j, j < o → (layP j).1 ≠ r) (h15 : o + n ≤ 15) (hb : 15 * k + o + n ≤ 300) : PbI m k (o + n) (gM 564 42 43 mi r n) := by
  obtain ⟨h1, h2, h3, h4, h5, h7⟩ := h
  unfold gM
  rw [h2, nI_clamp (by omega)]
  have val : ∀ x y, ¬ (x = 535 ∧ y = 42) → mI (gP 564 42 43 mi r (15 * k + o) n) x y = if x = r ∧ y < n then mI m 564 (15 * k + o + y) else mI mi x y := by
    intro x y z
    unfold gP
    rw [if_neg h1, mI_uI, if_neg z, mI_uC]
    by_cases e : x = r ∧ y < n
    · rw [if_pos ⟨e.1, by omega, by omega⟩, if_pos e, h3]
      rfl
    · rw [if_neg (fun q => e ⟨q.1, by omega⟩), if_neg e]
  refine ⟨fun z => h1 ((gP_f (by decide) hr.2 (by decide)).symm.trans z), by rw [gP_c, Nat.add_assoc], fun y => ?_, fun j hj => ?_, fun x y z1 z2 z3 z4 z5 => ?_, fun x y => (gP_R).trans (h7 x y)⟩
  · rw [val _ _ (by omega), if_neg (fun q => hr.1 q.1.symm)]
    exact h3 y
  · by_cases e : j < o
    · have hp := h2r j e
      have h535 : (layP j).1 ≠ 535 := (pN_p j (by omega)).1
      rw [val _ _ (fun q => h535 q.1), if_neg (fun q => hp q.1)]
      exact h4 j e
    · obtain ⟨i, rfl⟩ : ∃ i, j = o + i := ⟨j - o, by omega⟩
      have hi : i < n := by omega
      rw [h1r i hi]
      show mI (gP 564 42 43 mi r (15 * k + o) n) r i = mI m 564 (15 * k + (o + i))
      rw [val _ _ (fun q => hr.2 q.1), if_pos ⟨rfl, hi⟩, Nat.add_assoc]
  · rw [val _ _ (fun q => z5 ⟨q.1, Or.inl q.2⟩), if_neg (fun q => by omega)]
    exact h5 x y z1 z2 z3 z4 z5
section S17
variable {X : pX} {Q : Option Value → pMem → Prop} {m : pMem}
theorem s_moveSave {k : Nat} (hW : Wf m) (hk : k < 20) (h : ∀ m2, PsI m k 15 m2 → Q none m2) : Cl X 2 mX12_movesAll [.ref 535, .int (nI k), .int 0] m Q := by
  have e0 : ((15 : Int32) * nI k) = nI (15 * k) := by rw [show (15 : Int32) = nI 15 from rfl, nI_mul]
  refine pCl_of (by decide +kernel) (Nat.le_of_ble_eq_true rfl) rfl (bX12_movesAll_0 hW (Or.inl rfl) ?_)
  rw [e0]
  have c0 : mI (uI (uI m 535 42 (nI (15 * k))) 535 43 0) 535 42 = nI (15 * k) := by rw [mI_uI, if_neg (by omega), mI_uI, if_pos ⟨rfl, rfl⟩]
  have f0 : mI (uI (uI m 535 42 (nI (15 * k))) 535 43 0) 535 43 = 0 := by rw [mI_uI, if_pos ⟨rfl, rfl⟩]
  have v0 : vp_in (mI (uI (uI m 535 42 (nI (15 * k))) 535 43 0) 535 42) 300 := by rw [c0]; exact vp_in_nI (by omega) (by decide)
  refine pCl_of (by decide +kernel) (Nat.le_of_ble_eq_true rfl) rfl (bX12_moves_0 (m := uI (uI m 535 42 (nI (15 * k))) 535 43 0) hW (fun _ => ?_) (fun z => absurd f0 z) (fun z => absurd f0 z))
  refine bX12_moves_20 (m := uI (uI m 535 42 (nI (15 * k))) 535 43 0) hW v0 ?_
  rw [c0, nI_clamp (by omega), nI_1]
  refine bX12_movesAll_28 (m := uI (uI (uI (uI m 535 42 (nI (15 * k))) 535 43 0) 564 (15 * k) (mI m 536 5)) 535 42 (nI (15 * k + 1))) hW (s12_1 sh535) ?_
  have i1 : PsI m k 1 (uI (uI (uI (uI (uI m 535 42 (nI (15 * k))) 535 43 0) 564 (15 * k) (mI m 536 5)) 535 42 (nI (15 * k + 1))) 536 5 (mI m 536 5)) := by
    refine ⟨?_, ?_, fun x y z1 z2 => ?_, fun y => ?_, fun _ _ => rfl⟩
    · rw [mI_uI, if_neg (by omega), mI_uI, if_neg (by omega), mI_uI, if_neg (by omega), mI_uI, if_pos ⟨rfl, rfl⟩]
    · rw [mI_uI, if_neg (by omega), mI_uI, if_pos ⟨rfl, rfl⟩]
    · rw [mI_uI]
      by_cases e : x = 536 ∧ y = 5
      · rw [if_pos e, e.1, e.2]
      · rw [if_neg e, mI_uI, if_neg (fun q => z2 ⟨q.1, Or.inl q.2⟩), mI_uI, if_neg (fun q => z1 q.1), mI_uI, if_neg (fun q => z2 ⟨q.1, Or.inr q.2⟩), mI_uI, if_neg (fun q => z2 ⟨q.1, Or.inl q.2⟩)]
    · rw [mI_uI, if_neg (by omega), mI_uI, if_neg (by omega), mI_uI]
      by_cases e : y = 15 * k
      · rw [if_pos ⟨rfl, e⟩, if_pos (by omega), e, Nat.sub_self]; rfl
      · rw [if_neg (fun q => e q.2), if_neg (by omega), mI_uI, if_neg (by omega), mI_uI, if_neg (by omega)]
  generalize uI (uI (uI (uI (uI m 535 42 (nI (15 * k))) 535 43 0) 564 (15 * k) (mI m 536 5)) 535 42 (nI (15 * k + 1))) 536 5 (mI m 536 5) = m1 at i1 ⊢
  refine s_movesRow (hW.sm i1.2.2.2.2) (s12_2 sh535) ⟨by decide, 15 * k + 1, i1.2.1, by omega⟩ ?_
  have i2 := ps_step (r := 537) (n := 4) i1 (by decide) (fun j hj => by rw [i1.2.2.1 537 j (by decide) (by omega)]; unfold pst; rw [pR_537 j hj]) (by omega)
  generalize gM 564 42 43 m1 537 4 = m2 at *
  refine bX12_movesAll_37 (hW.sm i2.2.2.2.2) ?_
  refine s_movesRow (hW.sm i2.2.2.2.2) (s12_3 sh535) ⟨by decide, 15 * k + 5, i2.2.1, by omega⟩ ?_
  have i3 := ps_step (r := 538) (n := 4) i2 (by decide) (fun j hj => by rw [i2.2.2.1 538 j (by decide) (by omega)]; unfold pst; rw [pR_538 j hj]) (by omega)
  generalize gM 564 42 43 m2 538 4 = m3 at *
  refine bX12_movesAll_45 (hW.sm i3.2.2.2.2) ?_
  refine s_movesRow (hW.sm i3.2.2.2.2) (s12_4 sh535) ⟨by decide, 15 * k + 9, i3.2.1, by omega⟩ ?_
  have i4 := ps_step (r := 539) (n := 6) i3 (by decide) (fun j hj => by rw [i3.2.2.1 539 j (by decide) (by omega)]; unfold pst; rw [pR_539 j hj]) (by omega)
  generalize gM 564 42 43 m3 539 6 = m4 at *
  exact bX12_movesAll_53 (hW.sm i4.2.2.2.2) (h _ i4)
theorem s_moveBack {k : Nat} (hW : Wf m) (hk : k < 20) (h : ∀ m2, PbI m k 15 m2 → Q none m2) : Cl X 2 mX12_movesAll [.ref 535, .int (nI k), .int 1] m Q := by
  have e0 : ((15 : Int32) * nI k) = nI (15 * k) := by rw [show (15 : Int32) = nI 15 from rfl, nI_mul]
  refine pCl_of (by decide +kernel) (Nat.le_of_ble_eq_true rfl) rfl (bX12_movesAll_0 hW (Or.inr rfl) ?_)
  rw [e0]
  have c0 : mI (uI (uI m 535 42 (nI (15 * k))) 535 43 1) 535 42 = nI (15 * k) := by rw [mI_uI, if_neg (by omega), mI_uI, if_pos ⟨rfl, rfl⟩]
  have f0 : ¬ mI (uI (uI m 535 42 (nI (15 * k))) 535 43 1) 535 43 = 0 := by rw [mI_uI, if_pos ⟨rfl, rfl⟩]; decide
  have v0 : vp_in (mI (uI (uI m 535 42 (nI (15 * k))) 535 43 1) 535 42) 300 := by rw [c0]; exact vp_in_nI (by omega) (by decide)
  have g0 : mI (uI (uI m 535 42 (nI (15 * k))) 535 43 1) 564 (15 * k) = mI m 564 (15 * k) := by rw [mI_uI, if_neg (by omega), mI_uI, if_neg (by omega)]
  refine pCl_of (by decide +kernel) (Nat.le_of_ble_eq_true rfl) rfl (bX12_moves_0 (m := uI (uI m 535 42 (nI (15 * k))) 535 43 1) hW (fun z => absurd z f0) (fun _ => v0) (fun _ => ?_))
  refine bX12_moves_20 (m := uI (uI m 535 42 (nI (15 * k))) 535 43 1) hW v0 ?_
  rw [c0, nI_clamp (by omega), nI_1, g0]
  refine bX12_movesAll_28 (m := uI (uI (uI (uI m 535 42 (nI (15 * k))) 535 43 1) 564 (15 * k) (mI m 564 (15 * k))) 535 42 (nI (15 * k + 1))) hW (s12_1 sh535) ?_
  have i1 : PbI m k 1 (uI (uI (uI (uI (uI m 535 42 (nI (15 * k))) 535 43 1) 564 (15 * k) (mI m 564 (15 * k))) 535 42 (nI (15 * k + 1))) 536 5 (mI m 564 (15 * k))) := by
    refine ⟨?_, ?_, fun y => ?_, fun j hj => ?_, fun x y z1 z2 z3 z4 z5 => ?_, fun _ _ => rfl⟩
    · rw [mI_uI, if_neg (by omega), mI_uI, if_neg (by omega), mI_uI, if_neg (by omega), mI_uI, if_pos ⟨rfl, rfl⟩]; decide
    · rw [mI_uI, if_neg (by omega), mI_uI, if_pos ⟨rfl, rfl⟩]
    · rw [mI_uI, if_neg (by omega), mI_uI, if_neg (by omega), mI_uI]
      by_cases e : y = 15 * k
      · rw [if_pos ⟨rfl, e⟩, e]
      · rw [if_neg (fun q => e q.2), mI_uI, if_neg (by omega), mI_uI, if_neg (by omega)]
    · obtain rfl : j = 0 := by omega
      show mI _ 536 5 = _
      rw [mI_uI, if_pos ⟨rfl, rfl⟩]; rfl
    · rw [mI_uI, if_neg z4, mI_uI, if_neg (fun q => z5 ⟨q.1, Or.inl q.2⟩), mI_uI]
      by_cases e : x = 564 ∧ y = 15 * k
      · rw [if_pos e, e.1, e.2]
      · rw [if_neg e, mI_uI, if_neg (fun q => z5 ⟨q.1, Or.inr q.2⟩), mI_uI, if_neg (fun q => z5 ⟨q.1, Or.inl q.2⟩)]
  generalize uI (uI (uI (uI (uI m 535 42 (nI (15 * k))) 535 43 1) 564 (15 * k) (mI m 564 (15 * k))) 535 42 (nI (15 * k + 1))) 536 5 (mI m 564 (15 * k)) = m1 at i1 ⊢
  refine s_movesRow (hW.sm i1.2.2.2.2.2) (s12_2 sh535) ⟨by decide, 15 * k + 1, i1.2.1, by omega⟩ ?_
  have i2 := pb_step (r := 537) (n := 4) i1 (by decide) (by decide) pR_537 pN_537 (by decide) (by omega)
  generalize gM 564 42 43 m1 537 4 = m2 at *
  refine bX12_movesAll_37 (hW.sm i2.2.2.2.2.2) ?_
  refine s_movesRow (hW.sm i2.2.2.2.2.2) (s12_3 sh535) ⟨by decide, 15 * k + 5, i2.2.1, by omega⟩ ?_
  have i3 := pb_step (r := 538) (n := 4) i2 (by decide) (by decide) pR_538 pN_538 (by decide) (by omega)
  generalize gM 564 42 43 m2 538 4 = m3 at *
  refine bX12_movesAll_45 (hW.sm i3.2.2.2.2.2) ?_
  refine s_movesRow (hW.sm i3.2.2.2.2.2) (s12_4 sh535) ⟨by decide, 15 * k + 9, i3.2.1, by omega⟩ ?_
  have i4 := pb_step (r := 539) (n := 6) i3 (by decide) (by decide) pR_539 pN_539 (by decide) (by omega)
  generalize gM 564 42 43 m3 539 6 = m4 at *
  exact bX12_movesAll_53 (hW.sm i4.2.2.2.2.2) (h _ i4)
end S17
