theorem tog_iff {m : pMem} {x y : Int32} {nr P Sg T N M d : Nat} (hv : Vw m nr P Sg T N M d) : (¬ x = y ∧ ((¬ x < 0 ∧ ¬ mI m 31 3 ≤ x ∧ ¬ (4 : Int32) ≤ x) ∧ mI m 39 x.toNatClampNeg = 0) ∧ ((¬ y < 0 ∧ ¬ mI m 31 3 ≤ y ∧ ¬ (4 : Int32) ≤ y) ∧ mI m 39 y.toNatClampNeg = 0) ∧ mI m 38 x.toNatClampNeg = mI m 38 y.toNatClampNeg)
    ↔ (((¬ x < 0 ∧ ¬ (mI m 536 3 - (1 : Int32)) < x) ∧ mI m 538 x.toNatClampNeg = 0) ∧ ((¬ y < 0 ∧ ¬ (mI m 536 3 - (1 : Int32)) < y) ∧ mI m 538 y.toNatClampNeg = 0) ∧ ¬ x = y ∧ mI m 537 x.toNatClampNeg = mI m 537 y.toNatClampNeg) := by
  obtain ⟨-, -, -, -, s1, s2, -⟩ := rows_of hv
  have ia := at_iff (x := x) hv
  have ib := at_iff (x := y) hv
  obtain ⟨⟨⟨p3, p4, _⟩, ⟨q3, _⟩, _⟩, _⟩ := hv
  have pl : ∀ z : Int32, ((¬ z < 0 ∧ ¬ mI m 31 3 ≤ z ∧ ¬ (4 : Int32) ≤ z) ∧ mI m 39 z.toNatClampNeg = 0) → mI m 38 z.toNatClampNeg = mI m 537 z.toNatClampNeg := by
    intro z hz
    obtain ⟨q, hq, rfl, _⟩ := (atC p3 p4).mp hz
    rw [nI_clamp (by omega)]; exact s1 q (by omega)
  constructor
  · rintro ⟨h1, h2, h3, h4⟩
    exact ⟨ia.mp h2, ib.mp h3, h1, by rw [← pl x h2, ← pl y h3]; exact h4⟩
  · rintro ⟨h2, h3, h1, h4⟩
    exact ⟨h1, ia.mpr h2, ib.mpr h3, by rw [pl x (ia.mpr h2), pl y (ib.mpr h3)]; exact h4⟩
theorem hand_iff {m : pMem} {q : Nat} {nr P Sg T N M d : Nat} (hv : Vw m nr P Sg T N M d) (hq : q < 4) : ¬ mI m 31 1 ≤ nI (cnt (mI m 40) (nI q) 6) ↔ ¬ mI m 536 1 ≤ nI (cnt (mI m 539) (nI q) (mI m 536 4).toNatClampNeg) := by
  obtain ⟨-, -, -, -, -, -, s3⟩ := rows_of hv
  obtain ⟨⟨⟨_, _, _, _, _, p6⟩, ⟨_, _, _, _, qT, _⟩, _⟩, ⟨_, v2, _⟩, _⟩ := hv
  rw [v2, qT, nI_clamp (by omega), cnt_ag s3 (nI_neM (by omega)) p6]
section A2
variable {X : pX}
theorem p_take {x y : Int32} : Pair X 3 4 mX11_take mX12_take [.int x, .int y] := by
  intro m h Q K
  obtain ⟨hW, hC, hT, nr, P, Sg, T, N, M, d, f, hr, hi, ⟨hf, ef⟩, hw, hv⟩ := Inv_open h
  have ia := at_iff (x := x) hv
  have it := th_iff (x := y) hv
  have hv0 := hv
  obtain ⟨a1, a2, a3, a4, s1, s2, s3⟩ := rows_of hv
  obtain ⟨⟨⟨p3, p4, p2, p8, pT, p6⟩, ⟨q3, _, q2, _, qT, _⟩, _⟩, ⟨v1, v2, v3, v4, v5, v6, v7, v8, v9, v10⟩, ⟨hN, hM, hd⟩, _⟩ := hv
  have vP : vp_in (mI m 536 3) 5 := by rw [q3]; exact vp_in_nI (by omega) (by decide)
  have vT : vp_in (mI m 536 4) 7 := by rw [qT]; exact vp_in_nI (by omega) (by decide)
  have vpx : (¬ x < 0 ∧ ¬ mI m 31 3 ≤ x ∧ ¬ (4 : Int32) ≤ x) → vp_in x 4 := fun z => vp_in_cmp (N := 4) z.1 z.2.2 (by decide)
  have vpy : (¬ y < 0 ∧ ¬ mI m 31 4 ≤ y ∧ ¬ (6 : Int32) ≤ y) → vp_in y 6 := fun z => vp_in_cmp (N := 6) z.1 z.2.2 (by decide)
  refine pCl_of (by decide +kernel) (Nat.le_of_ble_eq_true rfl) rfl (bX11_take_0 hW (fun _ z _ => vpy z) (fun z _ _ => vpx z.1) (fun z1 z2 z4 z3 => ?_) (fun z1 z2 z4 z3 => ?_) (fun z1 z2 z4 => ?_) (fun z1 z2 => ?_) (fun z => ?_))
  · have w1 := ia.mp z1
    have w2 := it.mp z2
    obtain ⟨q, hq, rfl, _⟩ := (atC p3 p4).mp z1
    obtain ⟨t, ht, rfl⟩ := (perC pT (K := 6) rfl p6 (by decide)).mp z2
    have eq : (nI q).toNatClampNeg = q := nI_clamp (by omega)
    have et : (nI t).toNatClampNeg = t := nI_clamp (by omega)
    have w4 := (hand_iff hv0 (by omega)).mp z4
    rw [et, eq] at z3
    refine s_keep37 hW hf ef hM v9 (fun m1 kc => ?_)
    have hW1 := hW.sm kc.2.1
    refine bX11_take_69 hW1 sh37 (vp_in_nI (by omega) (by decide)) ?_
    rw [et]
    show Q (some (.int (nI (cnt (mI (uI m1 40 t (nI q)) 40) (nI q) 6)))) (uI m1 40 t (nI q))
    refine K _ _ (hW1.sm (fun _ _ => rfl)) (fun Q2 h2 => ?_)
    have fr : ∀ a k, 535 ≤ a → mI (uI m1 40 t (nI q)) a k = mI m a k := fun a k z => by rw [mI_uI, if_neg (by omega)]; exact kc.1 _ _ (by omega) (by omega)
    have hWu : Wf (uI m1 40 t (nI q)) := hW1.sm (fun _ _ => rfl)
    have r539 : mI (uI m1 40 t (nI q)) 539 = mI m 539 := funext fun k => fr _ _ (by omega)
    have w1' : ((¬ nI q < 0 ∧ ¬ (mI (uI m1 40 t (nI q)) 536 3 - (1 : Int32)) < nI q) ∧ mI (uI m1 40 t (nI q)) 538 (nI q).toNatClampNeg = 0) := by rw [fr _ _ (by omega), fr _ _ (by omega)]; exact w1
    have w2' : (¬ nI t < 0 ∧ ¬ (mI (uI m1 40 t (nI q)) 536 4 - (1 : Int32)) < nI t) := by rw [fr _ _ (by omega)]; exact w2
    have w3' : mI (uI m1 40 t (nI q)) 539 (nI t).toNatClampNeg = (10 : Int32) + mI (uI m1 40 t (nI q)) 537 (nI q).toNatClampNeg := by rw [fr _ _ (by omega), fr _ _ (by omega), et, eq, ← s1 q (by omega)]; exact (s3.1 t ht).symm.trans z3
    have w4' : ¬ mI (uI m1 40 t (nI q)) 536 1 ≤ nI (cnt (mI (uI m1 40 t (nI q)) 539) (nI q) (mI (uI m1 40 t (nI q)) 536 4).toNatClampNeg) := by rw [fr _ _ (by omega), fr _ _ (by omega), r539]; exact w4
    refine pCl_of (by decide +kernel) (Nat.le_of_ble_eq_true rfl) rfl (bX12_take_0 hWu ?_ (fun _ _ => vp_in_nI (by omega) (by decide)) (fun _ _ => vp_in_nI (by omega) (by decide)) (fun _ _ z => absurd w3' z) (fun _ _ _ => ?_) (fun _ _ _ _ => ?_) (fun _ _ _ z => absurd w4' z) (fun _ z => absurd w2' z) (fun z => absurd w1' z))
    · rw [fr _ _ (by omega)]; exact vP
    · rw [fr _ _ (by omega)]; exact vT
    · refine s_keepsAct (M := M) hWu ((fr _ _ (by omega)).trans v10) hM (fun mk km => ?_)
      obtain ⟨inv, ag⟩ := act_wh hW hC hT hr hi hf hw kc km ht
      have hWk : Wf mk := hWu.sm km.2.1
      have g4 : mI mk 536 4 = nI T := (km.1 _ _ (by omega) (by omega)).trans ((fr _ _ (by omega)).trans qT)
      refine bX12_take_48 hWk (vp_in_nI (by omega) (by decide)) (by rw [g4]; exact vp_in_nI (by omega) (by decide)) ?_ ?_
      · rw [g4, nI_clamp (show T < 2 ^ 31 by omega)]; exact tAt_sm _ _ T p6
      · rw [g4, nI_clamp (show T < 2 ^ 31 by omega), pcI_t _ _ T p6, et, ← cnt_ag ag (nI_neM (by omega)) p6]
        exact h2 _ inv
  · obtain ⟨q, hq, rfl, _⟩ := (atC p3 p4).mp z1
    obtain ⟨t, ht, rfl⟩ := (perC pT (K := 6) rfl p6 (by decide)).mp z2
    have eq : (nI q).toNatClampNeg = q := nI_clamp (by omega)
    have et : (nI t).toNatClampNeg = t := nI_clamp (by omega)
    have z3' : ¬ mI m 539 (nI t).toNatClampNeg = (10 : Int32) + mI m 537 (nI q).toNatClampNeg := by
      rw [et, eq] at z3 ⊢
      rw [← s1 q (by omega), ← s3.1 t ht]; exact z3
    exact K _ m hW (fun Q2 h2 => pCl_of (by decide +kernel) (Nat.le_of_ble_eq_true rfl) rfl (bX12_take_0 hW vP (fun _ _ => vpy z2) (fun _ _ => vpx z1.1) (fun _ _ _ => h2 m h) (fun _ _ w => absurd w z3') (fun _ _ w => absurd w z3') (fun _ _ w => absurd w z3') (fun _ w => absurd (it.mp z2) w) (fun w => absurd (ia.mp z1) w)))
  · obtain ⟨q, hq, rfl, _⟩ := (atC p3 p4).mp z1
    have z4' : ¬ ¬ mI m 536 1 ≤ nI (cnt (mI m 539) (nI q) (mI m 536 4).toNatClampNeg) := fun w => z4 ((hand_iff hv0 (by omega)).mpr w)
    exact K _ m hW (fun Q2 h2 => pCl_of (by decide +kernel) (Nat.le_of_ble_eq_true rfl) rfl (bX12_take_0 hW vP (fun _ _ => vpy z2) (fun _ _ => vpx z1.1) (fun _ _ _ => h2 m h) (fun _ _ _ => vT) (fun _ _ _ w => absurd w z4') (fun _ _ _ _ => h2 m h) (fun _ w => absurd (it.mp z2) w) (fun w => absurd (ia.mp z1) w)))
  · exact K _ m hW (fun Q2 h2 => pCl_of (by decide +kernel) (Nat.le_of_ble_eq_true rfl) rfl (bX12_take_0 hW vP (fun _ w => absurd (it.mpr w) z2) (fun _ w => absurd (it.mpr w) z2) (fun _ w => absurd (it.mpr w) z2) (fun _ w => absurd (it.mpr w) z2) (fun _ w => absurd (it.mpr w) z2) (fun _ w => absurd (it.mpr w) z2) (fun _ _ => h2 m h) (fun w => absurd (ia.mp z1) w)))
  · exact K _ m hW (fun Q2 h2 => pCl_of (by decide +kernel) (Nat.le_of_ble_eq_true rfl) rfl (bX12_take_0 hW vP (fun w => absurd (ia.mpr w) z) (fun w => absurd (ia.mpr w) z) (fun w => absurd (ia.mpr w) z) (fun w => absurd (ia.mpr w) z) (fun w => absurd (ia.mpr w) z) (fun w => absurd (ia.mpr w) z) (fun w => absurd (ia.mpr w) z) (fun _ => h2 m h)))
theorem p_give {x y u : Int32} : Pair X 3 4 mX11_give mX12_give [.int x, .int y, .int u] := by
  intro m h Q K
  obtain ⟨hW, hC, hT, nr, P, Sg, T, N, M, d, f, hr, hi, ⟨hf, ef⟩, hw, hv⟩ := Inv_open h
  have ia := tog_iff (x := x) (y := y) hv
  have it := th_iff (x := u) hv
  have hv0 := hv
  obtain ⟨a1, a2, a3, a4, s1, s2, s3⟩ := rows_of hv
  obtain ⟨⟨⟨p3, p4, p2, p8, pT, p6⟩, ⟨q3, _, q2, _, qT, _⟩, _⟩, ⟨v1, v2, v3, v4, v5, v6, v7, v8, v9, v10⟩, ⟨hN, hM, hd⟩, _⟩ := hv
  have vP : vp_in (mI m 536 3) 5 := by rw [q3]; exact vp_in_nI (by omega) (by decide)
  have vT : vp_in (mI m 536 4) 7 := by rw [qT]; exact vp_in_nI (by omega) (by decide)
  have vpy : (¬ u < 0 ∧ ¬ mI m 31 4 ≤ u ∧ ¬ (6 : Int32) ≤ u) → vp_in u 6 := fun z => vp_in_cmp (N := 6) z.1 z.2.2 (by decide)
  refine pCl_of (by decide +kernel) (Nat.le_of_ble_eq_true rfl) rfl (bX11_give_0 hW (fun _ z _ => vpy z) (fun z1 z2 z4 z3 => ?_) (fun z1 z2 z4 z3 => ?_) (fun z1 z2 z4 => ?_) (fun z1 z2 => ?_) (fun z => ?_))
  · have w1 := ia.mp z1
    have w2 := it.mp z2
    obtain ⟨q, hq, rfl, _⟩ := (atC p3 p4).mp z1.2.2.1
    obtain ⟨t, ht, rfl⟩ := (perC pT (K := 6) rfl p6 (by decide)).mp z2
    have eq : (nI q).toNatClampNeg = q := nI_clamp (by omega)
    have et : (nI t).toNatClampNeg = t := nI_clamp (by omega)
    have w4 := (hand_iff hv0 (by omega)).mp z4
    rw [et] at z3
    refine s_keep37 hW hf ef hM v9 (fun m1 kc => ?_)
    have hW1 := hW.sm kc.2.1
    refine bX11_give_65 hW1 sh37 (vp_in_nI (by omega) (by decide)) ?_
    rw [et]
    show Q (some (.int (nI (cnt (mI (uI m1 40 t (nI q)) 40) (nI q) 6)))) (uI m1 40 t (nI q))
    refine K _ _ (hW1.sm (fun _ _ => rfl)) (fun Q2 h2 => ?_)
    have fr : ∀ a k, 535 ≤ a → mI (uI m1 40 t (nI q)) a k = mI m a k := fun a k z => by rw [mI_uI, if_neg (by omega)]; exact kc.1 _ _ (by omega) (by omega)
    have hWu : Wf (uI m1 40 t (nI q)) := hW1.sm (fun _ _ => rfl)
    have r539 : mI (uI m1 40 t (nI q)) 539 = mI m 539 := funext fun k => fr _ _ (by omega)
    have r538 : mI (uI m1 40 t (nI q)) 538 = mI m 538 := funext fun k => fr _ _ (by omega)
    have r537 : mI (uI m1 40 t (nI q)) 537 = mI m 537 := funext fun k => fr _ _ (by omega)
    have w1' : (((¬ x < 0 ∧ ¬ (mI (uI m1 40 t (nI q)) 536 3 - (1 : Int32)) < x) ∧ mI (uI m1 40 t (nI q)) 538 x.toNatClampNeg = 0) ∧ ((¬ nI q < 0 ∧ ¬ (mI (uI m1 40 t (nI q)) 536 3 - (1 : Int32)) < nI q) ∧ mI (uI m1 40 t (nI q)) 538 (nI q).toNatClampNeg = 0) ∧ ¬ x = nI q ∧ mI (uI m1 40 t (nI q)) 537 x.toNatClampNeg = mI (uI m1 40 t (nI q)) 537 (nI q).toNatClampNeg) := by rw [r537, r538, fr _ _ (by omega)]; exact w1
    have w2' : (¬ nI t < 0 ∧ ¬ (mI (uI m1 40 t (nI q)) 536 4 - (1 : Int32)) < nI t) := by rw [fr _ _ (by omega)]; exact w2
    have w3' : mI (uI m1 40 t (nI q)) 539 (nI t).toNatClampNeg = x := by rw [fr _ _ (by omega), et]; exact (s3.1 t ht).symm.trans z3
    have w4' : ¬ mI (uI m1 40 t (nI q)) 536 1 ≤ nI (cnt (mI (uI m1 40 t (nI q)) 539) (nI q) (mI (uI m1 40 t (nI q)) 536 4).toNatClampNeg) := by rw [fr _ _ (by omega), fr _ _ (by omega), r539]; exact w4
    refine pCl_of (by decide +kernel) (Nat.le_of_ble_eq_true rfl) rfl (bX12_give_0 hWu ?_ (fun _ _ => vp_in_nI (by omega) (by decide)) (fun _ _ z => absurd w3' z) (fun _ _ _ => ?_) (fun _ _ _ _ => ?_) (fun _ _ _ z => absurd w4' z) (fun _ z => absurd w2' z) (fun z => absurd w1' z))
    · rw [fr _ _ (by omega)]; exact vP
    · rw [fr _ _ (by omega)]; exact vT
    · refine s_keepsAct (M := M) hWu ((fr _ _ (by omega)).trans v10) hM (fun mk km => ?_)
      obtain ⟨inv, ag⟩ := act_wh hW hC hT hr hi hf hw kc km ht
      have hWk : Wf mk := hWu.sm km.2.1
      have g4 : mI mk 536 4 = nI T := (km.1 _ _ (by omega) (by omega)).trans ((fr _ _ (by omega)).trans qT)
      refine bX12_give_41 hWk (vp_in_nI (by omega) (by decide)) (by rw [g4]; exact vp_in_nI (by omega) (by decide)) ?_ ?_
      · rw [g4, nI_clamp (show T < 2 ^ 31 by omega)]; exact tAt_sm _ _ T p6
      · rw [g4, nI_clamp (show T < 2 ^ 31 by omega), pcI_t _ _ T p6, et, ← cnt_ag ag (nI_neM (by omega)) p6]
        exact h2 _ inv
  · obtain ⟨t, ht, rfl⟩ := (perC pT (K := 6) rfl p6 (by decide)).mp z2
    have et : (nI t).toNatClampNeg = t := nI_clamp (by omega)
    have z3' : ¬ mI m 539 (nI t).toNatClampNeg = x := by
      rw [et] at z3 ⊢
      rw [← s3.1 t ht]; exact z3
    exact K _ m hW (fun Q2 h2 => pCl_of (by decide +kernel) (Nat.le_of_ble_eq_true rfl) rfl (bX12_give_0 hW vP (fun _ _ => vpy z2) (fun _ _ _ => h2 m h) (fun _ _ w => absurd w z3') (fun _ _ w => absurd w z3') (fun _ _ w => absurd w z3') (fun _ w => absurd (it.mp z2) w) (fun w => absurd (ia.mp z1) w)))
  · obtain ⟨q, hq, rfl, _⟩ := (atC p3 p4).mp z1.2.2.1
    have z4' : ¬ ¬ mI m 536 1 ≤ nI (cnt (mI m 539) (nI q) (mI m 536 4).toNatClampNeg) := fun w => z4 ((hand_iff hv0 (by omega)).mpr w)
    exact K _ m hW (fun Q2 h2 => pCl_of (by decide +kernel) (Nat.le_of_ble_eq_true rfl) rfl (bX12_give_0 hW vP (fun _ _ => vpy z2) (fun _ _ _ => h2 m h) (fun _ _ _ => vT) (fun _ _ _ w => absurd w z4') (fun _ _ _ _ => h2 m h) (fun _ w => absurd (it.mp z2) w) (fun w => absurd (ia.mp z1) w)))
  · exact K _ m hW (fun Q2 h2 => pCl_of (by decide +kernel) (Nat.le_of_ble_eq_true rfl) rfl (bX12_give_0 hW vP (fun _ w => absurd (it.mpr w) z2) (fun _ w => absurd (it.mpr w) z2) (fun _ w => absurd (it.mpr w) z2) (fun _ w => absurd (it.mpr w) z2) (fun _ w => absurd (it.mpr w) z2) (fun _ _ => h2 m h) (fun w => absurd (ia.mp z1) w)))
  · exact K _ m hW (fun Q2 h2 => pCl_of (by decide +kernel) (Nat.le_of_ble_eq_true rfl) rfl (bX12_give_0 hW vP (fun w => absurd (ia.mpr w) z) (fun w => absurd (ia.mpr w) z) (fun w => absurd (ia.mpr w) z) (fun w => absurd (ia.mpr w) z) (fun w => absurd (ia.mpr w) z) (fun w => absurd (ia.mpr w) z) (fun _ => h2 m h)))
theorem p_rob {y : Int32} : Pair X 3 4 mX11_rob mX12_rob [.int y] := by
  intro m h Q K
  obtain ⟨hW, hC, hT, nr, P, Sg, T, N, M, d, f, hr, hi, ⟨hf, ef⟩, hw, hv⟩ := Inv_open h
  have it := th_iff (x := y) hv
  obtain ⟨a1, a2, a3, a4, s1, s2, s3⟩ := rows_of hv
  obtain ⟨⟨⟨p3, p4, p2, p8, pT, p6⟩, ⟨q3, _, q2, _, qT, _⟩, _⟩, ⟨v1, v2, v3, v4, v5, v6, v7, v8, v9, v10⟩, ⟨hN, hM, hd⟩, _⟩ := hv
  have vpy : (¬ y < 0 ∧ ¬ mI m 31 4 ≤ y ∧ ¬ (6 : Int32) ≤ y) → vp_in y 6 := fun z => vp_in_cmp (N := 6) z.1 z.2.2 (by decide)
  refine pCl_of (by decide +kernel) (Nat.le_of_ble_eq_true rfl) rfl (bX11_rob_0 hW (fun z => vpy z) (fun z _ => vpy z) (fun z2 z3 => ?_) (fun z2 z3 => ?_) (fun z2 => ?_))
  · have w2 := it.mp z2
    obtain ⟨t, ht, rfl⟩ := (perC pT (K := 6) rfl p6 (by decide)).mp z2
    have et : (nI t).toNatClampNeg = t := nI_clamp (by omega)
    rw [et] at z3 ⊢
    refine s_keep37 hW hf ef hM v9 (fun m1 kc => ?_)
    have hW1 := hW.sm kc.2.1
    refine bX11_rob_53 hW1 sh37 (vp_in_nI (by omega) (by decide)) ?_
    rw [et]
    show Q (some (.int (mI m 40 t))) (uI m1 40 t (-1))
    refine K _ _ (hW1.sm (fun _ _ => rfl)) (fun Q2 h2 => ?_)
    have fr : ∀ a k, 535 ≤ a → mI (uI m1 40 t (-1)) a k = mI m a k := fun a k z => by rw [mI_uI, if_neg (by omega)]; exact kc.1 _ _ (by omega) (by omega)
    have hWu : Wf (uI m1 40 t (-1)) := hW1.sm (fun _ _ => rfl)
    have w2' : (¬ nI t < 0 ∧ ¬ (mI (uI m1 40 t (-1)) 536 4 - (1 : Int32)) < nI t) := by rw [fr _ _ (by omega)]; exact w2
    have w3' : ¬ mI (uI m1 40 t (-1)) 539 (nI t).toNatClampNeg = (-1 : Int32) := by rw [fr _ _ (by omega), et, ← s3.1 t ht]; exact z3
    refine pCl_of (by decide +kernel) (Nat.le_of_ble_eq_true rfl) rfl (bX12_rob_0 hWu (fun _ => vp_in_nI (by omega) (by decide)) (fun _ _ => ?_) (fun _ z => absurd z w3') (fun z => absurd w2' z))
    refine s_keepsAct (M := M) hWu ((fr _ _ (by omega)).trans v10) hM (fun mk km => ?_)
    obtain ⟨inv, ag⟩ := act_wh hW hC hT hr hi hf hw kc km ht
    have hWk : Wf mk := hWu.sm km.2.1
    have g9 : mI mk 539 t = mI m 40 t := (km.1 _ _ (by omega) (by omega)).trans ((fr _ _ (by omega)).trans (s3.1 t ht).symm)
    refine bX12_rob_25 hWk (vp_in_nI (by omega) (by decide)) ?_
    rw [et, g9]
    exact h2 _ inv
  · obtain ⟨t, ht, rfl⟩ := (perC pT (K := 6) rfl p6 (by decide)).mp z2
    have et : (nI t).toNatClampNeg = t := nI_clamp (by omega)
    have z3' : mI m 539 (nI t).toNatClampNeg = -1 := by
      rw [et] at z3 ⊢
      rw [← s3.1 t ht]; exact z3
    exact K _ m hW (fun Q2 h2 => pCl_of (by decide +kernel) (Nat.le_of_ble_eq_true rfl) rfl (bX12_rob_0 hW (fun _ => vpy z2) (fun _ w => absurd z3' w) (fun _ _ => h2 m h) (fun w => absurd (it.mp z2) w)))
  · exact K _ m hW (fun Q2 h2 => pCl_of (by decide +kernel) (Nat.le_of_ble_eq_true rfl) rfl (bX12_rob_0 hW (fun w => absurd (it.mpr w) z2) (fun w => absurd (it.mpr w) z2) (fun w => absurd (it.mpr w) z2) (fun _ => h2 m h)))
end A2
