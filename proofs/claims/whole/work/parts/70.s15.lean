/-! ===== images of the model ===== -/
/-- where the j-th number of an image belongs -/
def layR (j : Nat) : Nat × Nat :=
  if j < 9 then (536, j - 0) else if j < 13 then (537, j - 9) else if j < 17 then (538, j - 13) else if j < 23 then (539, j - 17) else if j < 24 then (565, j - 23) else if j < 32 then (540, j - 24) else if j < 36 then (541, j - 32) else if j < 42 then (542, j - 36) else if j < 48 then (543, j - 42) else if j < 58 then (544, j - 48) else if j < 68 then (545, j - 58) else if j < 78 then (546, j - 68) else if j < 84 then (547, j - 78) else if j < 384 then (564, j - 84) else (0, j)
def fm (m : pMem) (j : Nat) : Int32 := if j = 23 then mI m 535 41 else mI m (layR j).1 (layR j).2
def fi (m : pMem) (k j : Nat) : Int32 := mI m 570 (450 * k + j)
theorem lR_536 : ∀ j, j < 9 → layR (0 + j) = (536, j) := by decide +kernel
theorem lN_536 : ∀ j, j < 0 → (layR j).1 ≠ 536 := by decide +kernel
theorem lR_537 : ∀ j, j < 4 → layR (9 + j) = (537, j) := by decide +kernel
theorem lN_537 : ∀ j, j < 9 → (layR j).1 ≠ 537 := by decide +kernel
theorem lR_538 : ∀ j, j < 4 → layR (13 + j) = (538, j) := by decide +kernel
theorem lN_538 : ∀ j, j < 13 → (layR j).1 ≠ 538 := by decide +kernel
theorem lR_539 : ∀ j, j < 6 → layR (17 + j) = (539, j) := by decide +kernel
theorem lN_539 : ∀ j, j < 17 → (layR j).1 ≠ 539 := by decide +kernel
theorem lR_565 : ∀ j, j < 1 → layR (23 + j) = (565, j) := by decide +kernel
theorem lN_565 : ∀ j, j < 23 → (layR j).1 ≠ 565 := by decide +kernel
theorem lR_540 : ∀ j, j < 8 → layR (24 + j) = (540, j) := by decide +kernel
theorem lN_540 : ∀ j, j < 24 → (layR j).1 ≠ 540 := by decide +kernel
theorem lR_541 : ∀ j, j < 4 → layR (32 + j) = (541, j) := by decide +kernel
theorem lN_541 : ∀ j, j < 32 → (layR j).1 ≠ 541 := by decide +kernel
theorem lR_542 : ∀ j, j < 6 → layR (36 + j) = (542, j) := by decide +kernel
theorem lN_542 : ∀ j, j < 36 → (layR j).1 ≠ 542 := by decide +kernel
theorem lR_543 : ∀ j, j < 6 → layR (42 + j) = (543, j) := by decide +kernel
theorem lN_543 : ∀ j, j < 42 → (layR j).1 ≠ 543 := by decide +kernel
theorem lR_544 : ∀ j, j < 10 → layR (48 + j) = (544, j) := by decide +kernel
theorem lN_544 : ∀ j, j < 48 → (layR j).1 ≠ 544 := by decide +kernel
theorem lR_545 : ∀ j, j < 10 → layR (58 + j) = (545, j) := by decide +kernel
theorem lN_545 : ∀ j, j < 58 → (layR j).1 ≠ 545 := by decide +kernel
theorem lR_546 : ∀ j, j < 10 → layR (68 + j) = (546, j) := by decide +kernel
theorem lN_546 : ∀ j, j < 68 → (layR j).1 ≠ 546 := by decide +kernel
theorem lR_547 : ∀ j, j < 6 → layR (78 + j) = (547, j) := by decide +kernel
theorem lN_547 : ∀ j, j < 78 → (layR j).1 ≠ 547 := by decide +kernel
theorem lR_564 : ∀ j, j < 300 → layR (84 + j) = (564, j) := by decide +kernel
theorem lN_564 : ∀ j, j < 84 → (layR j).1 ≠ 564 := by decide +kernel
theorem lN_p : ∀ j, j < 384 → (layR j).1 ≠ 535 ∧ (layR j).1 ≠ 570 := by decide +kernel
def SvI (m : pMem) (k o : Nat) (mi : pMem) : Prop := mI mi 535 55 = 0 ∧ mI mi 535 54 = nI (450 * k + o) ∧ (∀ x y, x ≠ 570 → x ≠ 565 → ¬ (x = 535 ∧ (y = 54 ∨ y = 55)) → mI mi x y = mI m x y) ∧ (∀ y, mI mi 570 y = if 450 * k ≤ y ∧ y < 450 * k + o then fm m (y - 450 * k) else mI m 570 y) ∧ ∀ x y, mR mi x y = mR m x y
theorem sv_step {m mi : pMem} {k o r n : Nat} (h : SvI m k o mi) (hr : r ≠ 570 ∧ r ≠ 535) (hrow : ∀ j, j < n → mI mi r j = fm m (o + j)) (hb : 450 * k + o + n ≤ 2250) : SvI m k (o + n) (gM 570 54 55 mi r n) := by
  obtain ⟨h1, h2, h3, h4, h5⟩ := h
  unfold gM
  rw [h2, nI_clamp (by omega)]
  refine ⟨(gP_f (by decide) hr.2 (by decide)).trans h1, by rw [gP_c, Nat.add_assoc], fun x y z1 z2 z3 => ?_, fun y => ?_, fun x y => (gP_R).trans (h5 x y)⟩
  · unfold gP
    rw [if_pos h1, mI_uI, if_neg (fun z => z3 ⟨z.1, Or.inl z.2⟩), mI_uC, if_neg (fun z => z1 z.1)]
    exact h3 x y z1 z2 z3
  · unfold gP
    rw [if_pos h1, mI_uI, if_neg (by omega), mI_uC]
    by_cases e : 450 * k + o ≤ y ∧ y < 450 * k + o + n
    · rw [if_pos ⟨rfl, e⟩, if_pos (by omega), hrow _ (by omega)]
      congr 1
      omega
    · rw [if_neg (fun z => e z.2), h4]
      by_cases e2 : 450 * k ≤ y ∧ y < 450 * k + o
      · rw [if_pos e2, if_pos (by omega)]
      · rw [if_neg e2, if_neg (by omega)]
def BkI (m : pMem) (k o : Nat) (mi : pMem) : Prop := ¬ mI mi 535 55 = 0 ∧ mI mi 535 54 = nI (450 * k + o) ∧ (∀ y, mI mi 570 y = mI m 570 y) ∧ (∀ j, j < o → mI mi (layR j).1 (layR j).2 = mI m 570 (450 * k + j)) ∧ (∀ x y, (∀ j, j < o → (layR j).1 ≠ x) → x ≠ 565 → ¬ (x = 535 ∧ (y = 54 ∨ y = 55 ∨ (24 ≤ o ∧ y = 41))) → mI mi x y = mI m x y) ∧ (24 ≤ o → mI mi 535 41 = mI m 570 (450 * k + 23)) ∧ ∀ x y, mR mi x y = mR m x y
theorem bk_step {m mi : pMem} {k o r n : Nat} (h : BkI m k o mi) (hr : r ≠ 570 ∧ r ≠ 535) (h1r : ∀ j, j < n → layR (o + j) = (r, j)) (h2r : ∀ j, j < o → (layR j).1 ≠ r) (ho : o ≠ 23) (hn : o + n ≤ 23 ∨ 24 ≤ o) (hn0 : 0 < n) (h384 : o + n ≤ 384) (hb : 450 * k + o + n ≤ 2250) : BkI m k (o + n) (gM 570 54 55 mi r n) := by
  obtain ⟨h1, h2, h3, h4, h5, h6, h7⟩ := h
  unfold gM
  rw [h2, nI_clamp (by omega)]
  have val : ∀ x y, ¬ (x = 535 ∧ y = 54) → mI (gP 570 54 55 mi r (450 * k + o) n) x y = if x = r ∧ y < n then mI m 570 (450 * k + o + y) else mI mi x y := by
    intro x y z
    unfold gP
    rw [if_neg h1, mI_uI, if_neg z, mI_uC]
    by_cases e : x = r ∧ y < n
    · rw [if_pos ⟨e.1, by omega, by omega⟩, if_pos e, h3]
      rfl
    · rw [if_neg (fun q => e ⟨q.1, by omega⟩), if_neg e]
  refine ⟨fun z => h1 ((gP_f (by decide) hr.2 (by decide)).symm.trans z), by rw [gP_c, Nat.add_assoc], fun y => ?_, fun j hj => ?_, fun x y z1 z2 z3 => ?_, fun z => ?_, fun x y => (gP_R).trans (h7 x y)⟩
  · rw [val _ _ (by omega), if_neg (fun q => hr.1 q.1.symm)]
    exact h3 y
  · by_cases e : j < o
    · have hp := h2r j e
      have h535 : (layR j).1 ≠ 535 := (lN_p j (by omega)).1
      rw [val _ _ (fun q => h535 q.1), if_neg (fun q => hp q.1)]
      exact h4 j e
    · obtain ⟨i, rfl⟩ : ∃ i, j = o + i := ⟨j - o, by omega⟩
      have hi : i < n := by omega
      rw [h1r i hi]
      show mI (gP 570 54 55 mi r (450 * k + o) n) r i = mI m 570 (450 * k + (o + i))
      rw [val _ _ (fun q => hr.2 q.1), if_pos ⟨rfl, hi⟩, Nat.add_assoc]
  · have hxr : x ≠ r := by
      intro e
      have := z1 (o + 0) (by omega)
      rw [h1r 0 hn0] at this
      exact this e.symm
    rw [val _ _ (fun q => z3 ⟨q.1, Or.inl q.2⟩), if_neg (fun q => hxr q.1)]
    exact h5 x y (fun j hj => z1 j (by omega)) z2 (fun q => z3 ⟨q.1, by omega⟩)
  · rw [val _ _ (by omega), if_neg (fun q => hr.2 q.1.symm)]
    exact h6 (by omega)
section S16
variable {X : pX} {Q : Option Value → pMem → Prop} {m : pMem}
theorem s_keepAll {k : Nat} (hW : Wf m) (hk : k = 4) (h : ∀ m2, SvI m k 23 m2 → Q none m2) : Cl X 1 mX12_carriesAll [.ref 535, .int (nI k), .int 0] m Q := by
  have e0 : ((450 : Int32) * nI k) = nI (450 * k) := by rw [show (450 : Int32) = nI 450 from rfl, nI_mul]
  refine pCl_of (by decide +kernel) (Nat.le_of_ble_eq_true rfl) rfl (bX12_carriesAll_0 hW (Or.inl rfl) ?_)
  rw [e0]
  have i0 : SvI m k 0 (uI (uI m 535 54 (nI (450 * k))) 535 55 0) := by
    refine ⟨by rw [mI_uI, if_pos ⟨rfl, rfl⟩], by rw [mI_uI, if_neg (by omega), mI_uI, if_pos ⟨rfl, rfl⟩]; rfl, fun x y z1 z2 z3 => by rw [mI_uI, if_neg (fun q => z3 ⟨q.1, Or.inr q.2⟩), mI_uI, if_neg (fun q => z3 ⟨q.1, Or.inl q.2⟩)], fun y => by rw [mI_uI, if_neg (by omega), mI_uI, if_neg (by omega), if_neg (by omega)], fun _ _ => rfl⟩
  refine s_carryRow (hW.sm i0.2.2.2.2) (s12_1 sh535) ⟨by decide, 450 * k + 0, i0.2.1, by omega⟩ ?_
  have i1 := sv_step (r := 536) (n := 9) i0 (by decide) (fun j hj => by rw [i0.2.2.1 536 j (by decide) (by decide) (by omega)]; unfold fm; rw [if_neg (by omega), lR_536 j hj]) (by omega)
  generalize gM 570 54 55 (uI (uI m 535 54 (nI (450 * k))) 535 55 0) 536 9 = m1 at *
  refine bX12_carriesAll_22 (hW.sm i1.2.2.2.2) ?_
  refine s_carryRow (hW.sm i1.2.2.2.2) (s12_2 sh535) ⟨by decide, 450 * k + 9, i1.2.1, by omega⟩ ?_
  have i2 := sv_step (r := 537) (n := 4) i1 (by decide) (fun j hj => by rw [i1.2.2.1 537 j (by decide) (by decide) (by omega)]; unfold fm; rw [if_neg (by omega), lR_537 j hj]) (by omega)
  generalize gM 570 54 55 m1 537 4 = m2 at *
  refine bX12_carriesAll_30 (hW.sm i2.2.2.2.2) ?_
  refine s_carryRow (hW.sm i2.2.2.2.2) (s12_3 sh535) ⟨by decide, 450 * k + 13, i2.2.1, by omega⟩ ?_
  have i3 := sv_step (r := 538) (n := 4) i2 (by decide) (fun j hj => by rw [i2.2.2.1 538 j (by decide) (by decide) (by omega)]; unfold fm; rw [if_neg (by omega), lR_538 j hj]) (by omega)
  generalize gM 570 54 55 m2 538 4 = m3 at *
  refine bX12_carriesAll_38 (hW.sm i3.2.2.2.2) ?_
  refine s_carryRow (hW.sm i3.2.2.2.2) (s12_4 sh535) ⟨by decide, 450 * k + 17, i3.2.1, by omega⟩ ?_
  have i4 := sv_step (r := 539) (n := 6) i3 (by decide) (fun j hj => by rw [i3.2.2.1 539 j (by decide) (by decide) (by omega)]; unfold fm; rw [if_neg (by omega), lR_539 j hj]) (by omega)
  generalize gM 570 54 55 m3 539 6 = m4 at *
  subst hk
  exact bX12_carriesAll_46 (hW.sm i4.2.2.2.2) (fun z => absurd rfl z) (fun _ => h _ i4)
theorem s_imageAll {k : Nat} (hW : Wf m) (hk : k < 4) (h : ∀ m2, SvI m k 384 m2 → Q none m2) : Cl X 1 mX12_carriesAll [.ref 535, .int (nI k), .int 0] m Q := by
  have e0 : ((450 : Int32) * nI k) = nI (450 * k) := by rw [show (450 : Int32) = nI 450 from rfl, nI_mul]
  refine pCl_of (by decide +kernel) (Nat.le_of_ble_eq_true rfl) rfl (bX12_carriesAll_0 hW (Or.inl rfl) ?_)
  rw [e0]
  have i0 : SvI m k 0 (uI (uI m 535 54 (nI (450 * k))) 535 55 0) := by
    refine ⟨by rw [mI_uI, if_pos ⟨rfl, rfl⟩], by rw [mI_uI, if_neg (by omega), mI_uI, if_pos ⟨rfl, rfl⟩]; rfl, fun x y z1 z2 z3 => by rw [mI_uI, if_neg (fun q => z3 ⟨q.1, Or.inr q.2⟩), mI_uI, if_neg (fun q => z3 ⟨q.1, Or.inl q.2⟩)], fun y => by rw [mI_uI, if_neg (by omega), mI_uI, if_neg (by omega), if_neg (by omega)], fun _ _ => rfl⟩
  refine s_carryRow (hW.sm i0.2.2.2.2) (s12_1 sh535) ⟨by decide, 450 * k + 0, i0.2.1, by omega⟩ ?_
  have i1 := sv_step (r := 536) (n := 9) i0 (by decide) (fun j hj => by rw [i0.2.2.1 536 j (by decide) (by decide) (by omega)]; unfold fm; rw [if_neg (by omega), lR_536 j hj]) (by omega)
  generalize gM 570 54 55 (uI (uI m 535 54 (nI (450 * k))) 535 55 0) 536 9 = m1 at *
  refine bX12_carriesAll_22 (hW.sm i1.2.2.2.2) ?_
  refine s_carryRow (hW.sm i1.2.2.2.2) (s12_2 sh535) ⟨by decide, 450 * k + 9, i1.2.1, by omega⟩ ?_
  have i2 := sv_step (r := 537) (n := 4) i1 (by decide) (fun j hj => by rw [i1.2.2.1 537 j (by decide) (by decide) (by omega)]; unfold fm; rw [if_neg (by omega), lR_537 j hj]) (by omega)
  generalize gM 570 54 55 m1 537 4 = m2 at *
  refine bX12_carriesAll_30 (hW.sm i2.2.2.2.2) ?_
  refine s_carryRow (hW.sm i2.2.2.2.2) (s12_3 sh535) ⟨by decide, 450 * k + 13, i2.2.1, by omega⟩ ?_
  have i3 := sv_step (r := 538) (n := 4) i2 (by decide) (fun j hj => by rw [i2.2.2.1 538 j (by decide) (by decide) (by omega)]; unfold fm; rw [if_neg (by omega), lR_538 j hj]) (by omega)
  generalize gM 570 54 55 m2 538 4 = m3 at *
  refine bX12_carriesAll_38 (hW.sm i3.2.2.2.2) ?_
  refine s_carryRow (hW.sm i3.2.2.2.2) (s12_4 sh535) ⟨by decide, 450 * k + 17, i3.2.1, by omega⟩ ?_
  have i4 := sv_step (r := 539) (n := 6) i3 (by decide) (fun j hj => by rw [i3.2.2.1 539 j (by decide) (by decide) (by omega)]; unfold fm; rw [if_neg (by omega), lR_539 j hj]) (by omega)
  generalize gM 570 54 55 m3 539 6 = m4 at *
  have n4 : ¬ nI k = (4 : Int32) := fun z => by have := (nI_eq (a := k) (b := 4) (by omega) (by decide)).mp z; omega
  refine bX12_carriesAll_46 (hW.sm i4.2.2.2.2) (fun _ => ?_) (fun z => absurd z n4)
  have j4 : SvI m k 23 (uI m4 565 0 (mI m4 535 41)) := by
    obtain ⟨a1, a2, a3, a4, a5⟩ := i4
    exact ⟨by rw [mI_uI, if_neg (by omega)]; exact a1, by rw [mI_uI, if_neg (by omega)]; exact a2, fun x y z1 z2 z3 => by rw [mI_uI, if_neg (fun q => z2 q.1)]; exact a3 x y z1 z2 z3, fun y => by rw [mI_uI, if_neg (by omega)]; exact a4 y, a5⟩
  have p4 : mI (uI m4 565 0 (mI m4 535 41)) 565 0 = mI m 535 41 := by rw [mI_uI, if_pos ⟨rfl, rfl⟩]; exact i4.2.2.1 535 41 (by decide) (by decide) (by omega)
  generalize (uI m4 565 0 (mI m4 535 41)) = m4' at j4 p4 ⊢
  refine s_carryRow (hW.sm j4.2.2.2.2) (s12_40 sh535) ⟨by decide, 450 * k + 23, j4.2.1, by omega⟩ ?_
  have i5 := sv_step (r := 565) (n := 1) j4 (by decide) (fun j hj => by obtain rfl : j = 0 := (by omega); rw [p4]; rfl) (by omega)
  have e5 : mI (gM 570 54 55 m4' 565 1) 565 0 = mI m4' 565 0 := by unfold gM gP; rw [if_pos j4.1, mI_uI, if_neg (by omega), mI_uC, if_neg (by omega)]
  generalize gM 570 54 55 m4' 565 1 = m5 at *
  refine bX12_carriesAll_70 (hW.sm i5.2.2.2.2) ?_
  have q5 : mI m5 565 0 = mI m 535 41 := by rw [e5]; exact p4
  rw [show mI m5 565 0 = mI m5 535 41 from q5.trans (i5.2.2.1 535 41 (by decide) (by decide) (by omega)).symm, uI_id (m := m5) (a := 535) (k := 41) rfl]
  refine s_carryRow (hW.sm i5.2.2.2.2) (s12_5 sh535) ⟨by decide, 450 * k + 24, i5.2.1, by omega⟩ ?_
  have i6 := sv_step (r := 540) (n := 8) i5 (by decide) (fun j hj => by rw [i5.2.2.1 540 j (by decide) (by decide) (by omega)]; unfold fm; rw [if_neg (by omega), lR_540 j hj]) (by omega)
  generalize gM 570 54 55 m5 540 8 = m6 at *
  refine bX12_carriesAll_88 (hW.sm i6.2.2.2.2) ?_
  refine s_carryRow (hW.sm i6.2.2.2.2) (s12_6 sh535) ⟨by decide, 450 * k + 32, i6.2.1, by omega⟩ ?_
  have i7 := sv_step (r := 541) (n := 4) i6 (by decide) (fun j hj => by rw [i6.2.2.1 541 j (by decide) (by decide) (by omega)]; unfold fm; rw [if_neg (by omega), lR_541 j hj]) (by omega)
  generalize gM 570 54 55 m6 541 4 = m7 at *
  refine bX12_carriesAll_96 (hW.sm i7.2.2.2.2) ?_
  refine s_carryRow (hW.sm i7.2.2.2.2) (s12_7 sh535) ⟨by decide, 450 * k + 36, i7.2.1, by omega⟩ ?_
  have i8 := sv_step (r := 542) (n := 6) i7 (by decide) (fun j hj => by rw [i7.2.2.1 542 j (by decide) (by decide) (by omega)]; unfold fm; rw [if_neg (by omega), lR_542 j hj]) (by omega)
  generalize gM 570 54 55 m7 542 6 = m8 at *
  refine bX12_carriesAll_104 (hW.sm i8.2.2.2.2) ?_
  refine s_carryRow (hW.sm i8.2.2.2.2) (s12_8 sh535) ⟨by decide, 450 * k + 42, i8.2.1, by omega⟩ ?_
  have i9 := sv_step (r := 543) (n := 6) i8 (by decide) (fun j hj => by rw [i8.2.2.1 543 j (by decide) (by decide) (by omega)]; unfold fm; rw [if_neg (by omega), lR_543 j hj]) (by omega)
  generalize gM 570 54 55 m8 543 6 = m9 at *
  refine bX12_carriesAll_112 (hW.sm i9.2.2.2.2) ?_
  refine s_carryRow (hW.sm i9.2.2.2.2) (s12_9 sh535) ⟨by decide, 450 * k + 48, i9.2.1, by omega⟩ ?_
  have i10 := sv_step (r := 544) (n := 10) i9 (by decide) (fun j hj => by rw [i9.2.2.1 544 j (by decide) (by decide) (by omega)]; unfold fm; rw [if_neg (by omega), lR_544 j hj]) (by omega)
  generalize gM 570 54 55 m9 544 10 = m10 at *
  refine bX12_carriesAll_120 (hW.sm i10.2.2.2.2) ?_
  refine s_carryRow (hW.sm i10.2.2.2.2) (s12_10 sh535) ⟨by decide, 450 * k + 58, i10.2.1, by omega⟩ ?_
  have i11 := sv_step (r := 545) (n := 10) i10 (by decide) (fun j hj => by rw [i10.2.2.1 545 j (by decide) (by decide) (by omega)]; unfold fm; rw [if_neg (by omega), lR_545 j hj]) (by omega)
  generalize gM 570 54 55 m10 545 10 = m11 at *
  refine bX12_carriesAll_128 (hW.sm i11.2.2.2.2) ?_
  refine s_carryRow (hW.sm i11.2.2.2.2) (s12_11 sh535) ⟨by decide, 450 * k + 68, i11.2.1, by omega⟩ ?_
  have i12 := sv_step (r := 546) (n := 10) i11 (by decide) (fun j hj => by rw [i11.2.2.1 546 j (by decide) (by decide) (by omega)]; unfold fm; rw [if_neg (by omega), lR_546 j hj]) (by omega)
  generalize gM 570 54 55 m11 546 10 = m12 at *
  refine bX12_carriesAll_136 (hW.sm i12.2.2.2.2) ?_
  refine s_carryRow (hW.sm i12.2.2.2.2) (s12_12 sh535) ⟨by decide, 450 * k + 78, i12.2.1, by omega⟩ ?_
  have i13 := sv_step (r := 547) (n := 6) i12 (by decide) (fun j hj => by rw [i12.2.2.1 547 j (by decide) (by decide) (by omega)]; unfold fm; rw [if_neg (by omega), lR_547 j hj]) (by omega)
  generalize gM 570 54 55 m12 547 6 = m13 at *
  refine bX12_carriesAll_144 (hW.sm i13.2.2.2.2) ?_
  refine s_carryRow (hW.sm i13.2.2.2.2) (s12_39 sh535) ⟨by decide, 450 * k + 84, i13.2.1, by omega⟩ ?_
  have i14 := sv_step (r := 564) (n := 300) i13 (by decide) (fun j hj => by rw [i13.2.2.1 564 j (by decide) (by decide) (by omega)]; unfold fm; rw [if_neg (by omega), lR_564 j hj]) (by omega)
  generalize gM 570 54 55 m13 564 300 = m14 at *
  exact bX12_carriesAll_152 (hW.sm i14.2.2.2.2) (h _ i14)
theorem s_layAll {k : Nat} (hW : Wf m) (hk : k = 4) (h : ∀ m2, BkI m k 23 m2 → Q none m2) : Cl X 1 mX12_carriesAll [.ref 535, .int (nI k), .int 1] m Q := by
  have e0 : ((450 : Int32) * nI k) = nI (450 * k) := by rw [show (450 : Int32) = nI 450 from rfl, nI_mul]
  refine pCl_of (by decide +kernel) (Nat.le_of_ble_eq_true rfl) rfl (bX12_carriesAll_0 hW (Or.inr rfl) ?_)
  rw [e0]
  have i0 : BkI m k 0 (uI (uI m 535 54 (nI (450 * k))) 535 55 1) := by
    refine ⟨by rw [mI_uI, if_pos ⟨rfl, rfl⟩]; decide, by rw [mI_uI, if_neg (by omega), mI_uI, if_pos ⟨rfl, rfl⟩]; rfl, fun y => by rw [mI_uI, if_neg (by omega), mI_uI, if_neg (by omega)], fun j hj => absurd hj (by omega), fun x y z1 z2 z3 => by rw [mI_uI, if_neg (fun q => z3 ⟨q.1, Or.inr (Or.inl q.2)⟩), mI_uI, if_neg (fun q => z3 ⟨q.1, Or.inl q.2⟩)], fun z => absurd z (by omega), fun _ _ => rfl⟩
  refine s_carryRow (hW.sm i0.2.2.2.2.2.2) (s12_1 sh535) ⟨by decide, 450 * k + 0, i0.2.1, by omega⟩ ?_
  have i1 := bk_step (r := 536) (n := 9) i0 (by decide) lR_536 lN_536 (by decide) (by omega) (by decide) (by decide) (by omega)
  generalize gM 570 54 55 (uI (uI m 535 54 (nI (450 * k))) 535 55 1) 536 9 = m1 at *
  refine bX12_carriesAll_22 (hW.sm i1.2.2.2.2.2.2) ?_
  refine s_carryRow (hW.sm i1.2.2.2.2.2.2) (s12_2 sh535) ⟨by decide, 450 * k + 9, i1.2.1, by omega⟩ ?_
  have i2 := bk_step (r := 537) (n := 4) i1 (by decide) lR_537 lN_537 (by decide) (by omega) (by decide) (by decide) (by omega)
  generalize gM 570 54 55 m1 537 4 = m2 at *
  refine bX12_carriesAll_30 (hW.sm i2.2.2.2.2.2.2) ?_
  refine s_carryRow (hW.sm i2.2.2.2.2.2.2) (s12_3 sh535) ⟨by decide, 450 * k + 13, i2.2.1, by omega⟩ ?_
  have i3 := bk_step (r := 538) (n := 4) i2 (by decide) lR_538 lN_538 (by decide) (by omega) (by decide) (by decide) (by omega)
  generalize gM 570 54 55 m2 538 4 = m3 at *
  refine bX12_carriesAll_38 (hW.sm i3.2.2.2.2.2.2) ?_
  refine s_carryRow (hW.sm i3.2.2.2.2.2.2) (s12_4 sh535) ⟨by decide, 450 * k + 17, i3.2.1, by omega⟩ ?_
  have i4 := bk_step (r := 539) (n := 6) i3 (by decide) lR_539 lN_539 (by decide) (by omega) (by decide) (by decide) (by omega)
  generalize gM 570 54 55 m3 539 6 = m4 at *
  subst hk
  exact bX12_carriesAll_46 (hW.sm i4.2.2.2.2.2.2) (fun z => absurd rfl z) (fun _ => h _ i4)
theorem s_backAll {k : Nat} (hW : Wf m) (hk : k < 4) (h : ∀ m2, BkI m k 384 m2 → Q none m2) : Cl X 1 mX12_carriesAll [.ref 535, .int (nI k), .int 1] m Q := by
  have e0 : ((450 : Int32) * nI k) = nI (450 * k) := by rw [show (450 : Int32) = nI 450 from rfl, nI_mul]
  refine pCl_of (by decide +kernel) (Nat.le_of_ble_eq_true rfl) rfl (bX12_carriesAll_0 hW (Or.inr rfl) ?_)
  rw [e0]
  have i0 : BkI m k 0 (uI (uI m 535 54 (nI (450 * k))) 535 55 1) := by
    refine ⟨by rw [mI_uI, if_pos ⟨rfl, rfl⟩]; decide, by rw [mI_uI, if_neg (by omega), mI_uI, if_pos ⟨rfl, rfl⟩]; rfl, fun y => by rw [mI_uI, if_neg (by omega), mI_uI, if_neg (by omega)], fun j hj => absurd hj (by omega), fun x y z1 z2 z3 => by rw [mI_uI, if_neg (fun q => z3 ⟨q.1, Or.inr (Or.inl q.2)⟩), mI_uI, if_neg (fun q => z3 ⟨q.1, Or.inl q.2⟩)], fun z => absurd z (by omega), fun _ _ => rfl⟩
  refine s_carryRow (hW.sm i0.2.2.2.2.2.2) (s12_1 sh535) ⟨by decide, 450 * k + 0, i0.2.1, by omega⟩ ?_
  have i1 := bk_step (r := 536) (n := 9) i0 (by decide) lR_536 lN_536 (by decide) (by omega) (by decide) (by decide) (by omega)
  generalize gM 570 54 55 (uI (uI m 535 54 (nI (450 * k))) 535 55 1) 536 9 = m1 at *
  refine bX12_carriesAll_22 (hW.sm i1.2.2.2.2.2.2) ?_
  refine s_carryRow (hW.sm i1.2.2.2.2.2.2) (s12_2 sh535) ⟨by decide, 450 * k + 9, i1.2.1, by omega⟩ ?_
  have i2 := bk_step (r := 537) (n := 4) i1 (by decide) lR_537 lN_537 (by decide) (by omega) (by decide) (by decide) (by omega)
  generalize gM 570 54 55 m1 537 4 = m2 at *
  refine bX12_carriesAll_30 (hW.sm i2.2.2.2.2.2.2) ?_
  refine s_carryRow (hW.sm i2.2.2.2.2.2.2) (s12_3 sh535) ⟨by decide, 450 * k + 13, i2.2.1, by omega⟩ ?_
  have i3 := bk_step (r := 538) (n := 4) i2 (by decide) lR_538 lN_538 (by decide) (by omega) (by decide) (by decide) (by omega)
  generalize gM 570 54 55 m2 538 4 = m3 at *
  refine bX12_carriesAll_38 (hW.sm i3.2.2.2.2.2.2) ?_
  refine s_carryRow (hW.sm i3.2.2.2.2.2.2) (s12_4 sh535) ⟨by decide, 450 * k + 17, i3.2.1, by omega⟩ ?_
  have i4 := bk_step (r := 539) (n := 6) i3 (by decide) lR_539 lN_539 (by decide) (by omega) (by decide) (by decide) (by omega)
  generalize gM 570 54 55 m3 539 6 = m4 at *
  have n4 : ¬ nI k = (4 : Int32) := fun z => by have := (nI_eq (a := k) (b := 4) (by omega) (by decide)).mp z; omega
  refine bX12_carriesAll_46 (hW.sm i4.2.2.2.2.2.2) (fun _ => ?_) (fun z => absurd z n4)
  obtain ⟨a1, a2, a3, a4, a5, a6, a7⟩ := i4
  refine s_carryRow (m := uI m4 565 0 (mI m4 535 41)) (hW.sm a7) (s12_40 sh535) ⟨by decide, 450 * k + 23, by rw [mI_uI, if_neg (by omega)]; exact a2, by omega⟩ ?_
  have v5 : ∀ x y, ¬ (x = 535 ∧ y = 54) → mI (gM 570 54 55 (uI m4 565 0 (mI m4 535 41)) 565 1) x y = if x = 565 ∧ y < 1 then mI m 570 (450 * k + 23 + y) else mI m4 x y := by
    intro x y z
    have f5 : ¬ mI (uI m4 565 0 (mI m4 535 41)) 535 55 = 0 := by rw [mI_uI, if_neg (by omega)]; exact a1
    have c5 : mI (uI m4 565 0 (mI m4 535 41)) 535 54 = nI (450 * k + 23) := by rw [mI_uI, if_neg (by omega)]; exact a2
    unfold gM gP
    rw [if_neg f5, mI_uI, if_neg z, mI_uC, c5, nI_clamp (by omega)]
    by_cases e : x = 565 ∧ y < 1
    · rw [if_pos ⟨e.1, by omega, by omega⟩, if_pos e, mI_uI, if_neg (by omega), a3]
      rfl
    · rw [if_neg (fun q => e ⟨q.1, by omega⟩), if_neg e, mI_uI, if_neg (fun q => e ⟨q.1, by omega⟩)]
  have c6 : mI (gM 570 54 55 (uI m4 565 0 (mI m4 535 41)) 565 1) 535 54 = nI (450 * k + 24) := by
    unfold gM
    rw [gP_c, mI_uI, if_neg (by omega), a2, nI_clamp (by omega)]
  have r6 : ∀ x y, mR (gM 570 54 55 (uI m4 565 0 (mI m4 535 41)) 565 1) x y = mR m x y := fun x y => (gP_R).trans (a7 x y)
  generalize gM 570 54 55 (uI m4 565 0 (mI m4 535 41)) 565 1 = m5 at *
  refine bX12_carriesAll_70 (hW.sm r6) ?_
  have i5 : BkI m k 24 (uI m5 535 41 (mI m5 565 0)) := by
    have w5 : mI m5 565 0 = mI m 570 (450 * k + 23) := by rw [v5 _ _ (by omega), if_pos ⟨rfl, by omega⟩]
    have u5 : ∀ x y, ¬ (x = 535 ∧ (y = 54 ∨ y = 41)) → mI (uI m5 535 41 (mI m5 565 0)) x y = if x = 565 ∧ y < 1 then mI m 570 (450 * k + 23 + y) else mI m4 x y := by
      intro x y z
      rw [mI_uI, if_neg (fun q => z ⟨q.1, Or.inr q.2⟩), v5 _ _ (fun q => z ⟨q.1, Or.inl q.2⟩)]
    refine ⟨by rw [u5 _ _ (by omega), if_neg (by omega)]; exact a1, by rw [mI_uI, if_neg (by omega)]; exact c6, fun y => by rw [u5 _ _ (by omega), if_neg (by omega)]; exact a3 y, fun j hj => ?_, fun x y z1 z2 z3 => ?_, fun _ => by rw [mI_uI, if_pos ⟨rfl, rfl⟩]; exact w5, fun x y => r6 x y⟩
    · have h535 : (layR j).1 ≠ 535 := (lN_p j (by omega)).1
      rw [u5 _ _ (fun q => h535 q.1)]
      by_cases e : j < 23
      · rw [if_neg (fun q => lN_565 j e q.1)]; exact a4 j e
      · obtain rfl : j = 23 := by omega
        rw [if_pos ⟨rfl, by decide⟩]; rfl
    · rw [u5 _ _ (fun q => z3 ⟨q.1, by omega⟩), if_neg (fun q => z2 q.1)]
      exact a5 x y (fun j hj => z1 j (by omega)) z2 (fun q => z3 ⟨q.1, by omega⟩)
  generalize uI m5 535 41 (mI m5 565 0) = m5' at i5 ⊢
  refine s_carryRow (hW.sm i5.2.2.2.2.2.2) (s12_5 sh535) ⟨by decide, 450 * k + 24, i5.2.1, by omega⟩ ?_
  have i6 := bk_step (r := 540) (n := 8) i5 (by decide) lR_540 lN_540 (by decide) (by omega) (by decide) (by decide) (by omega)
  generalize gM 570 54 55 m5' 540 8 = m6 at *
  refine bX12_carriesAll_88 (hW.sm i6.2.2.2.2.2.2) ?_
  refine s_carryRow (hW.sm i6.2.2.2.2.2.2) (s12_6 sh535) ⟨by decide, 450 * k + 32, i6.2.1, by omega⟩ ?_
  have i7 := bk_step (r := 541) (n := 4) i6 (by decide) lR_541 lN_541 (by decide) (by omega) (by decide) (by decide) (by omega)
  generalize gM 570 54 55 m6 541 4 = m7 at *
  refine bX12_carriesAll_96 (hW.sm i7.2.2.2.2.2.2) ?_
  refine s_carryRow (hW.sm i7.2.2.2.2.2.2) (s12_7 sh535) ⟨by decide, 450 * k + 36, i7.2.1, by omega⟩ ?_
  have i8 := bk_step (r := 542) (n := 6) i7 (by decide) lR_542 lN_542 (by decide) (by omega) (by decide) (by decide) (by omega)
  generalize gM 570 54 55 m7 542 6 = m8 at *
  refine bX12_carriesAll_104 (hW.sm i8.2.2.2.2.2.2) ?_
  refine s_carryRow (hW.sm i8.2.2.2.2.2.2) (s12_8 sh535) ⟨by decide, 450 * k + 42, i8.2.1, by omega⟩ ?_
  have i9 := bk_step (r := 543) (n := 6) i8 (by decide) lR_543 lN_543 (by decide) (by omega) (by decide) (by decide) (by omega)
  generalize gM 570 54 55 m8 543 6 = m9 at *
  refine bX12_carriesAll_112 (hW.sm i9.2.2.2.2.2.2) ?_
  refine s_carryRow (hW.sm i9.2.2.2.2.2.2) (s12_9 sh535) ⟨by decide, 450 * k + 48, i9.2.1, by omega⟩ ?_
  have i10 := bk_step (r := 544) (n := 10) i9 (by decide) lR_544 lN_544 (by decide) (by omega) (by decide) (by decide) (by omega)
  generalize gM 570 54 55 m9 544 10 = m10 at *
  refine bX12_carriesAll_120 (hW.sm i10.2.2.2.2.2.2) ?_
  refine s_carryRow (hW.sm i10.2.2.2.2.2.2) (s12_10 sh535) ⟨by decide, 450 * k + 58, i10.2.1, by omega⟩ ?_
  have i11 := bk_step (r := 545) (n := 10) i10 (by decide) lR_545 lN_545 (by decide) (by omega) (by decide) (by decide) (by omega)
  generalize gM 570 54 55 m10 545 10 = m11 at *
  refine bX12_carriesAll_128 (hW.sm i11.2.2.2.2.2.2) ?_
  refine s_carryRow (hW.sm i11.2.2.2.2.2.2) (s12_11 sh535) ⟨by decide, 450 * k + 68, i11.2.1, by omega⟩ ?_
  have i12 := bk_step (r := 546) (n := 10) i11 (by decide) lR_546 lN_546 (by decide) (by omega) (by decide) (by decide) (by omega)
  generalize gM 570 54 55 m11 546 10 = m12 at *
  refine bX12_carriesAll_136 (hW.sm i12.2.2.2.2.2.2) ?_
  refine s_carryRow (hW.sm i12.2.2.2.2.2.2) (s12_12 sh535) ⟨by decide, 450 * k + 78, i12.2.1, by omega⟩ ?_
  have i13 := bk_step (r := 547) (n := 6) i12 (by decide) lR_547 lN_547 (by decide) (by omega) (by decide) (by decide) (by omega)
  generalize gM 570 54 55 m12 547 6 = m13 at *
  refine bX12_carriesAll_144 (hW.sm i13.2.2.2.2.2.2) ?_
  refine s_carryRow (hW.sm i13.2.2.2.2.2.2) (s12_39 sh535) ⟨by decide, 450 * k + 84, i13.2.1, by omega⟩ ?_
  have i14 := bk_step (r := 564) (n := 300) i13 (by decide) lR_564 lN_564 (by decide) (by omega) (by decide) (by decide) (by omega)
  generalize gM 570 54 55 m13 564 300 = m14 at *
  exact bX12_carriesAll_152 (hW.sm i14.2.2.2.2.2.2) (h _ i14)
end S16
