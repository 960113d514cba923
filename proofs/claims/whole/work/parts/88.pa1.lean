/-! ===== pairs: acts ===== -/
theorem act_wh {m m1 mk : pMem} {nr P Sg T N M d f t : Nat} {v : Int32} (hW : Wf m) (hC : ConI m) (hT : TapeI m) (hr : RulesI m nr) (hi : ImgI m nr) (hf : f < 20) (hw : WeqN nr (fc m 30) (fm m) P Sg T N M d) (kc : KeptC m f M m1) (km : Kept (uI m1 40 t v) M mk) (ht : t < T) :
    Inv (uI mk 539 t v) ∧ AgW T (mI (uI m1 40 t v) 40) (mI (uI mk 539 t v) 539) := by
  have hv := vw_of hw
  obtain ⟨a1, a2, a3, a4, s1, s2, s3⟩ := rows_of hv
  obtain ⟨⟨⟨p3, p4, p2, p8, pT, p6⟩, _, _, _, hpl⟩, ⟨v1, v2, v3, v4, _⟩, ⟨_, _, hd⟩, _⟩ := hv
  have fc1 : ∀ x y, ¬ (43 ≤ x ∧ x ≤ 122) → ¬ (x = 41 ∧ (y = 1 ∨ y = 2)) → mI m1 x y = mI m x y := kc.1
  have fk1 : ∀ x y, x ≠ 564 → ¬ (x = 535 ∧ (y = 41 ∨ y = 42 ∨ y = 43)) → mI mk x y = mI (uI m1 40 t v) x y := km.1
  have c37 : ∀ a y, 37 ≤ a → a ≤ 39 → mI (uI mk 539 t v) a y = mI m a y := fun a y z1 z2 => by rw [mI_uI, if_neg (by omega), fk1 _ _ (by omega) (by omega), mI_uI, if_neg (by omega), fc1 _ _ (by omega) (by omega)]
  have m53 : ∀ a y, 536 ≤ a → a ≤ 538 → mI (uI mk 539 t v) a y = mI m a y := fun a y z1 z2 => by rw [mI_uI, if_neg (by omega), fk1 _ _ (by omega) (by omega), mI_uI, if_neg (by omega), fc1 _ _ (by omega) (by omega)]
  have r40 : mI (uI mk 539 t v) 40 = upd (mI m 40) t v := by
    funext y
    rw [mI_uI, if_neg (by omega), fk1 _ _ (by omega) (by omega), mI_uI]
    by_cases e : y = t
    · rw [if_pos ⟨rfl, e⟩, e, pk_us]
    · rw [if_neg (fun z => e z.2), fc1 _ _ (by omega) (by omega), pk_un e]
  have r40' : mI (uI m1 40 t v) 40 = upd (mI m 40) t v := by
    funext y
    rw [mI_uI]
    by_cases e : y = t
    · rw [if_pos ⟨rfl, e⟩, e, pk_us]
    · rw [if_neg (fun z => e z.2), fc1 _ _ (by omega) (by omega), pk_un e]
  have r539 : mI (uI mk 539 t v) 539 = upd (mI m 539) t v := by
    funext y
    rw [mI_uI]
    by_cases e : y = t
    · rw [if_pos ⟨rfl, e⟩, e, pk_us]
    · rw [if_neg (fun z => e z.2), fk1 _ _ (by omega) (by omega), mI_uI, if_neg (by omega), fc1 _ _ (by omega) (by omega), pk_un e]
  obtain ⟨M2, hM2, b1, b2, b3, b4⟩ := act_ps (m2 := uI mk 539 t v) hw hf kc km (fun x y z => by rw [mI_uI, if_neg (by omega)]; exact fc1 x y (by omega) (by omega)) (fun x y z => by rw [mI_uI, if_neg (by omega), fk1 _ _ (by omega) (by omega), mI_uI, if_neg (by omega)]) (fun y => by rw [mI_uI, if_neg (by omega)]) (by rw [mI_uI, if_neg (by omega)])
  have w : AgW T (upd (mI m 40) t v) (upd (mI m 539) t v) := s3.upd ht
  refine ⟨act_ok hC hT hr hi hW hw (fun x y => (km.2.1 x y).trans (kc.2.1 x y)) (fun a k z1 z2 z3 z4 z5 z6 => ?_) ⟨?_, fun q hq => ?_, fun q hq => ?_, ?_⟩ (fun q hq => ?_) hd (by rw [c37 37 0 (by omega) (by omega)]; exact v3) b3 hM2 b1 b2 b4, by rw [r40', r539]; exact w⟩
  · have z7 : ¬ (a = 535 ∧ (k = 41 ∨ k = 42 ∨ k = 43)) := fun y => by
      rcases y with ⟨rfl, y | y | y⟩
      · exact z3 ⟨rfl, y⟩
      · exact z1 (by unfold Scr; omega)
      · exact z1 (by unfold Scr; omega)
    rw [mI_uI, if_neg (by omega), fk1 _ _ z6 z7, mI_uI, if_neg (by omega), fc1 _ _ (by omega) (by omega)]
  · show mI (uI mk 539 t v) 37 0 = mI (uI mk 539 t v) 536 5
    rw [c37 37 0 (by omega) (by omega), m53 536 5 (by omega) (by omega), v3, v4]
  · show mI (uI mk 539 t v) 38 q = mI (uI mk 539 t v) 537 q
    rw [c37 38 q (by omega) (by omega), m53 537 q (by omega) (by omega)]; exact s1 q hq
  · show mI (uI mk 539 t v) 39 q = mI (uI mk 539 t v) 538 q
    rw [c37 39 q (by omega) (by omega), m53 538 q (by omega) (by omega)]; exact s2 q hq
  · show AgW T (mI (uI mk 539 t v) 40) (mI (uI mk 539 t v) 539)
    rw [r40, r539]; exact w
  · rw [c37 38 q (by omega) (by omega)]; exact hpl q hq
theorem atC {m : pMem} {x : Int32} {P : Nat} (hP : mI m 31 3 = nI P) (h4 : P ≤ 4) : ((¬ x < 0 ∧ ¬ mI m 31 3 ≤ x ∧ ¬ (4 : Int32) ≤ x) ∧ mI m 39 x.toNatClampNeg = 0) ↔ ∃ q, q < P ∧ x = nI q ∧ mI m 39 q = 0 := by
  rw [perC (z := 4) hP (K := 4) rfl h4 (by decide)]
  constructor
  · rintro ⟨⟨q, hq, rfl⟩, h⟩
    rw [nI_clamp (by omega)] at h
    exact ⟨q, hq, rfl, h⟩
  · rintro ⟨q, hq, rfl, h⟩
    exact ⟨⟨q, hq, rfl⟩, by rw [nI_clamp (by omega)]; exact h⟩
theorem atM {m : pMem} {x : Int32} {P : Nat} (hP : mI m 536 3 = nI P) (h4 : P ≤ 4) : ((¬ x < 0 ∧ ¬ (mI m 536 3 - (1 : Int32)) < x) ∧ mI m 538 x.toNatClampNeg = 0) ↔ ∃ q, q < P ∧ x = nI q ∧ mI m 538 q = 0 := by
  rw [perM hP (by omega)]
  constructor
  · rintro ⟨⟨q, hq, rfl⟩, h⟩
    rw [nI_clamp (by omega)] at h
    exact ⟨q, hq, rfl, h⟩
  · rintro ⟨q, hq, rfl, h⟩
    exact ⟨⟨q, hq, rfl⟩, by rw [nI_clamp (by omega)]; exact h⟩
/-- the two ask the same -/
theorem at_iff {m : pMem} {x : Int32} {nr P Sg T N M d : Nat} (hv : Vw m nr P Sg T N M d) : ((¬ x < 0 ∧ ¬ mI m 31 3 ≤ x ∧ ¬ (4 : Int32) ≤ x) ∧ mI m 39 x.toNatClampNeg = 0) ↔ ((¬ x < 0 ∧ ¬ (mI m 536 3 - (1 : Int32)) < x) ∧ mI m 538 x.toNatClampNeg = 0) := by
  obtain ⟨-, -, -, -, -, s2, -⟩ := rows_of hv
  obtain ⟨⟨⟨p3, p4, _⟩, ⟨q3, _⟩, _⟩, _⟩ := hv
  rw [atC p3 p4, atM q3 p4]
  constructor
  · rintro ⟨q, hq, e, h⟩; exact ⟨q, hq, e, by rw [← s2 q (by omega)]; exact h⟩
  · rintro ⟨q, hq, e, h⟩; exact ⟨q, hq, e, by rw [s2 q (by omega)]; exact h⟩
theorem th_iff {m : pMem} {x : Int32} {nr P Sg T N M d : Nat} (hv : Vw m nr P Sg T N M d) : (¬ x < 0 ∧ ¬ mI m 31 4 ≤ x ∧ ¬ (6 : Int32) ≤ x) ↔ (¬ x < 0 ∧ ¬ (mI m 536 4 - (1 : Int32)) < x) := by
  obtain ⟨⟨⟨_, _, _, _, pT, p6⟩, ⟨_, _, _, _, qT, _⟩, _⟩, _⟩ := hv
  exact Iff.trans (perC (z := 6) pT (K := 6) rfl p6 (by decide)) (perM qT (by omega)).symm
section A1
variable {X : pX}
theorem p_drop {x y : Int32} : Pair X 3 4 mX11_drop mX12_drop [.int x, .int y] := by
  intro m h Q K
  obtain ⟨hW, hC, hT, nr, P, Sg, T, N, M, d, f, hr, hi, ⟨hf, ef⟩, hw, hv⟩ := Inv_open h
  have ia := at_iff (x := x) hv
  have it := th_iff (x := y) hv
  have hv0 := hv
  obtain ⟨a1, a2, a3, a4, s1, s2, s3⟩ := rows_of hv
  obtain ⟨⟨⟨p3, p4, p2, p8, pT, p6⟩, ⟨q3, _, q2, _, qT, _⟩, _⟩, ⟨v1, v2, v3, v4, v5, v6, v7, v8, v9, v10⟩, ⟨hN, hM, hd⟩, _⟩ := hv
  have vP : vp_in (mI m 536 3) 5 := by rw [q3]; exact vp_in_nI (by omega) (by decide)
  refine pCl_of (by decide +kernel) (Nat.le_of_ble_eq_true rfl) rfl (bX11_drop_0 hW (fun _ z => vp_in_cmp (N := 6) z.1 z.2.2 (by decide)) (fun z1 z2 z3 => ?_) (fun z1 z2 z3 => ?_) (fun z1 z2 => ?_) (fun z => ?_))
  · have w1 := ia.mp z1
    have w2 := it.mp z2
    obtain ⟨q, hq, rfl, _⟩ := (atC p3 p4).mp z1
    obtain ⟨t, ht, rfl⟩ := (perC pT (K := 6) rfl p6 (by decide)).mp z2
    have eq : (nI q).toNatClampNeg = q := nI_clamp (by omega)
    have et : (nI t).toNatClampNeg = t := nI_clamp (by omega)
    rw [et] at z3
    refine s_keep37 hW hf ef hM v9 (fun m1 kc => ?_)
    have hW1 := hW.sm kc.2.1
    have e38 : mI m1 38 q = mI m 38 q := kc.1 _ _ (by omega) (by omega)
    refine bX11_drop_53 hW1 sh37 (vp_in_nI (by omega) (by decide)) (vp_in_nI (by omega) (by decide)) ?_
    rw [eq, et]
    show Q (some (.int (nI (cnt (mI (uI m1 40 t (10 + mI m1 38 q)) 40) (nI q) 6)))) (uI m1 40 t (10 + mI m1 38 q))
    rw [e38]
    refine K _ _ (hW1.sm (fun _ _ => rfl)) (fun Q2 h2 => ?_)
    have fr : ∀ a k, 535 ≤ a → mI (uI m1 40 t (10 + mI m 38 q)) a k = mI m a k := fun a k z => by rw [mI_uI, if_neg (by omega)]; exact kc.1 _ _ (by omega) (by omega)
    have hWu : Wf (uI m1 40 t (10 + mI m 38 q)) := hW1.sm (fun _ _ => rfl)
    have w1' : ((¬ nI q < 0 ∧ ¬ (mI (uI m1 40 t (10 + mI m 38 q)) 536 3 - (1 : Int32)) < nI q) ∧ mI (uI m1 40 t (10 + mI m 38 q)) 538 (nI q).toNatClampNeg = 0) := by rw [fr _ _ (by omega), fr _ _ (by omega)]; exact w1
    have w2' : (¬ nI t < 0 ∧ ¬ (mI (uI m1 40 t (10 + mI m 38 q)) 536 4 - (1 : Int32)) < nI t) := by rw [fr _ _ (by omega)]; exact w2
    have w3' : mI (uI m1 40 t (10 + mI m 38 q)) 539 (nI t).toNatClampNeg = nI q := by rw [fr _ _ (by omega), et]; exact (s3.1 t ht).symm.trans z3
    refine pCl_of (by decide +kernel) (Nat.le_of_ble_eq_true rfl) rfl (bX12_drop_0 hWu ?_ (fun _ _ => vp_in_nI (by omega) (by decide)) (fun _ _ _ => ?_) (fun _ _ z => absurd w3' z) (fun _ z => absurd w2' z) (fun z => absurd w1' z))
    · rw [fr _ _ (by omega)]; exact vP
    · refine s_keepsAct (M := M) hWu ((fr _ _ (by omega)).trans v10) hM (fun mk km => ?_)
      obtain ⟨inv, ag⟩ := act_wh hW hC hT hr hi hf hw kc km ht
      have hWk : Wf mk := hWu.sm km.2.1
      have g4 : mI mk 536 4 = nI T := (km.1 _ _ (by omega) (by omega)).trans ((fr _ _ (by omega)).trans qT)
      have g7 : mI mk 537 q = mI m 38 q := (km.1 _ _ (by omega) (by omega)).trans ((fr _ _ (by omega)).trans (s1 q (by omega)).symm)
      refine bX12_drop_32 hWk (vp_in_nI (by omega) (by decide)) (vp_in_nI (by omega) (by decide)) (by rw [g4]; exact vp_in_nI (by omega) (by decide)) ?_ ?_
      · rw [g4, nI_clamp (show T < 2 ^ 31 by omega)]; exact tAt_sm _ _ T p6
      · rw [g4, nI_clamp (show T < 2 ^ 31 by omega), pcI_t _ _ T p6, eq, et, g7, ← cnt_ag ag (nI_neM (by omega)) p6]
        exact h2 _ inv
  · obtain ⟨t, ht, rfl⟩ := (perC pT (K := 6) rfl p6 (by decide)).mp z2
    have et : (nI t).toNatClampNeg = t := nI_clamp (by omega)
    refine K _ m hW (fun Q2 h2 => pCl_of (by decide +kernel) (Nat.le_of_ble_eq_true rfl) rfl (bX12_drop_0 hW vP (fun _ _ => vp_in_nI (by omega) (by decide)) (fun _ _ w => absurd ?_ z3) (fun _ _ _ => h2 m h) (fun _ w => absurd (it.mp z2) w) (fun w => absurd (ia.mp z1) w)))
    rw [et, s3.1 t ht]; rw [et] at w; exact w
  · exact K _ m hW (fun Q2 h2 => pCl_of (by decide +kernel) (Nat.le_of_ble_eq_true rfl) rfl (bX12_drop_0 hW vP (fun _ w => absurd (it.mpr w) z2) (fun _ w => absurd (it.mpr w) z2) (fun _ w => absurd (it.mpr w) z2) (fun _ _ => h2 m h) (fun w => absurd (ia.mp z1) w)))
  · exact K _ m hW (fun Q2 h2 => pCl_of (by decide +kernel) (Nat.le_of_ble_eq_true rfl) rfl (bX12_drop_0 hW vP (fun w => absurd (ia.mpr w) z) (fun w => absurd (ia.mpr w) z) (fun w => absurd (ia.mpr w) z) (fun w => absurd (ia.mpr w) z) (fun _ => h2 m h)))
end A1
