/-! ===== pairs: tape, force, seed, and what is asked for ===== -/
theorem ite_c {c : Prop} [Decidable c] {a b a2 b2 : Int32} (h1 : c → a = a2) (h2 : ¬ c → b = b2) : (if c then a else b) = if c then a2 else b2 := by
  by_cases h : c
  · rw [if_pos h, if_pos h]; exact h1 h
  · rw [if_neg h, if_neg h]; exact h2 h
theorem WeqN_g {nr : Nat} {u v u2 v2 : Row} {P Sg T N M d N2 : Nat} (h : WeqN nr u v P Sg T N M d) (e : ∀ j, j < 384 → j ≠ 6 → j ≠ 7 → j ≠ 8 → (j < 48 ∨ 78 ≤ j) → u2 j = u j ∧ v2 j = v j) (hN : N2 ≤ 10) (e6 : u2 6 = nI N2) (e6' : v2 6 = nI N2) (e7 : u2 7 = v2 7) (e7' : ¬ u2 7 < 0) (e8 : u2 8 = v2 8) (e8' : u2 8 = -1 ∨ ∃ i, i < nr ∧ u2 8 = nI i)
    (en : ∀ j, j < N2 → (u2 (48 + j) = v2 (48 + j) ∧ ∃ w, w ≤ 60 ∧ u2 (48 + j) = nI w) ∧ (u2 (58 + j) = v2 (58 + j) ∧ ∃ q, q < P ∧ u2 (58 + j) = nI q) ∧ u2 (68 + j) = v2 (68 + j)) : WeqN nr u2 v2 P Sg T N2 M d := by
  obtain ⟨⟨b1, b2, b3, b4, b5, b6⟩, ⟨c1, c2, c3, c4, c5, c6⟩, ⟨d1, d2⟩, d3, d4, d5, d6, d7, d8, d9, a1, a2, a3, a4, a5⟩ := h
  have h1 : ∀ j, j < 384 → j ≠ 6 → j ≠ 7 → j ≠ 8 → (j < 48 ∨ 78 ≤ j) → u2 j = u j := fun j z1 z2 z3 z4 z5 => (e j z1 z2 z3 z4 z5).1
  have h2 : ∀ j, j < 384 → j ≠ 6 → j ≠ 7 → j ≠ 8 → (j < 48 ∨ 78 ≤ j) → v2 j = v j := fun j z1 z2 z3 z4 z5 => (e j z1 z2 z3 z4 z5).2
  refine ⟨⟨b1, b2, b3, hN, b5, b6⟩, ⟨by rw [h1 _ (by omega) (by omega) (by omega) (by omega) (by omega)]; exact c1, by rw [h1 _ (by omega) (by omega) (by omega) (by omega) (by omega)]; exact c2, by rw [h1 _ (by omega) (by omega) (by omega) (by omega) (by omega)]; exact c3, by rw [h1 _ (by omega) (by omega) (by omega) (by omega) (by omega)]; exact c4, e6, by rw [h1 _ (by omega) (by omega) (by omega) (by omega) (by omega)]; exact c6⟩, ⟨fun j hj => ?_, by rw [h1 _ (by omega) (by omega) (by omega) (by omega) (by omega), h2 _ (by omega) (by omega) (by omega) (by omega) (by omega)]; exact d2⟩, by rw [h1 _ (by omega) (by omega) (by omega) (by omega) (by omega)]; exact d3, e8', e7', fun q hq => ?_, AgW_c b3 (fun j hj => h1 _ (by omega) (by omega) (by omega) (by omega) (by omega)) (fun j hj => h2 _ (by omega) (by omega) (by omega) (by omega) (by omega)) d7, fun j hj => ?_, fun j hj => ?_, fun j hj => ?_, fun j hj => ?_, en, AgW_c b3 (fun j hj => h1 _ (by omega) (by omega) (by omega) (by omega) (by omega)) (fun j hj => h2 _ (by omega) (by omega) (by omega) (by omega) (by omega)) a4, fun i hi => ?_⟩
  · by_cases z6 : j = 6
    · rw [z6, e6, e6']
    · by_cases z7 : j = 7
      · rw [z7]; exact e7
      · by_cases z8 : j = 8
        · rw [z8]; exact e8
        · rw [h1 _ (by omega) z6 z7 z8 (by omega), h2 _ (by omega) z6 z7 z8 (by omega)]; exact d1 j hj
  · show ∃ p, p ≤ Sg ∧ u2 (9 + q) = nI p
    rw [h1 _ (by omega) (by omega) (by omega) (by omega) (by omega)]; exact d6 q hq
  · rw [h1 _ (by omega) (by omega) (by omega) (by omega) (by omega), h2 _ (by omega) (by omega) (by omega) (by omega) (by omega)]; exact d8 j hj
  · rw [h1 _ (by omega) (by omega) (by omega) (by omega) (by omega), h2 _ (by omega) (by omega) (by omega) (by omega) (by omega)]; exact d9 j hj
  · rw [h1 _ (by omega) (by omega) (by omega) (by omega) (by omega), h2 _ (by omega) (by omega) (by omega) (by omega) (by omega)]; exact a1 j hj
  · rw [h1 _ (by omega) (by omega) (by omega) (by omega) (by omega), h2 _ (by omega) (by omega) (by omega) (by omega) (by omega)]; exact a2 j hj
  · obtain ⟨k1, k2, k3, k4⟩ := a5 i hi
    refine ⟨AgR_c (fun j hj => h1 _ (by omega) (by omega) (by omega) (by omega) (by omega)) (fun j hj => h2 _ (by omega) (by omega) (by omega) (by omega) (by omega)) k1, AgW_c b3 (fun j hj => h1 _ (by omega) (by omega) (by omega) (by omega) (by omega)) (fun j hj => h2 _ (by omega) (by omega) (by omega) (by omega) (by omega)) k2, fun q hq => ?_, by rw [h1 _ (by omega) (by omega) (by omega) (by omega) (by omega)]; exact k4⟩
    show ∃ p, p ≤ Sg ∧ u2 (84 + 15 * i + 1 + q) = nI p
    rw [h1 _ (by omega) (by omega) (by omega) (by omega) (by omega)]; exact k3 q hq
/-- force, seed, notes -/
theorem Inv_g {m m2 : pMem} {nr P Sg T N M d N2 : Nat} (hW : Wf m) (hC : ConI m) (hT : TapeI m) (hr : RulesI m nr) (hi : ImgI m nr) (hf : FirstI m 30) (hw : WeqN nr (fc m 30) (fm m) P Sg T N M d) (hR : ∀ x y, mR m2 x y = mR m x y)
    (fr : ∀ a k, ¬ Scr a k → ¬ (a = 30 ∧ 3 ≤ k ∧ k ≤ 5) → ¬ (123 ≤ a ∧ a ≤ 125) → ¬ (a = 536 ∧ 6 ≤ k ∧ k ≤ 8) → ¬ (544 ≤ a ∧ a ≤ 546) → mI m2 a k = mI m a k)
    (hN : N2 ≤ 10) (e6 : mI m2 30 5 = nI N2) (e6' : mI m2 536 6 = nI N2) (e7 : mI m2 30 4 = mI m2 536 7) (e7' : ¬ mI m2 30 4 < 0) (e8 : mI m2 30 3 = mI m2 536 8) (e8' : mI m2 30 3 = -1 ∨ ∃ i, i < nr ∧ mI m2 30 3 = nI i)
    (en : ∀ j, j < N2 → (mI m2 123 j = mI m2 544 j ∧ ∃ w, w ≤ 60 ∧ mI m2 123 j = nI w) ∧ (mI m2 124 j = mI m2 545 j ∧ ∃ q, q < P ∧ mI m2 124 j = nI q) ∧ mI m2 125 j = mI m2 546 j) : Inv m2 := by
  have fr1 : ∀ a k, ¬ Scr a k → a ≠ 30 → ¬ (123 ≤ a ∧ a ≤ 125) → a ≠ 536 → ¬ (544 ≤ a ∧ a ≤ 546) → mI m2 a k = mI m a k := fun a k z1 z2 z3 z4 z5 => fr a k z1 (by omega) z3 (by omega) z5
  obtain ⟨f, hf1, hf2⟩ := hf
  refine ⟨hW.sm hR, ConI_c (fr1 _ _ (by unfold Scr; omega) (by omega) (by omega) (by omega) (by omega)) (fun k => fr1 _ _ (by unfold Scr; omega) (by omega) (by omega) (by omega) (by omega)) hC, TapeI_c (fr1 _ _ (by unfold Scr; omega) (by omega) (by omega) (by omega) (by omega)) (fr1 _ _ (by unfold Scr; omega) (by omega) (by omega) (by omega) (by omega)) (fun k => fr1 _ _ (by unfold Scr; omega) (by omega) (by omega) (by omega) (by omega)) (fun k => fr1 _ _ (by unfold Scr; omega) (by omega) (by omega) (by omega) (by omega)) hT, nr,
    RulesI_c (fr1 _ _ (by unfold Scr; omega) (by omega) (by omega) (by omega) (by omega)) (fr1 _ _ (by unfold Scr; omega) (by omega) (by omega) (by omega) (by omega)) (fun a k z1 z2 z3 => fr1 _ _ (by unfold Scr; omega) (by omega) (by omega) (by omega) (by omega)) (fun a k z1 z2 => fr1 _ _ (by unfold Scr; omega) (by omega) (by omega) (by omega) (by omega)) hr,
    ImgI_c (fun k => fr1 _ _ (by unfold Scr; omega) (by omega) (by omega) (by omega) (by omega)) (fun k => fr1 _ _ (by unfold Scr; omega) (by omega) (by omega) (by omega) (by omega)) (fun a k z1 z2 => fr1 _ _ (by unfold Scr; omega) (by omega) (by omega) (by omega) (by omega)) (fun k z => fr1 _ _ (by unfold Scr; omega) (by omega) (by omega) (by omega) (by omega)) hi, ⟨f, hf1, (fr1 _ _ (by unfold Scr; omega) (by omega) (by omega) (by omega) (by omega)).trans hf2⟩, P, Sg, T, N2, M, d, ?_⟩
  have P4 : P ≤ 4 := hw.1.1
  refine WeqN_g hw (fun j z1 z2 z3 z4 z5 => ⟨?_, ?_⟩) hN e6 e6' e7 e7' e8 e8' (fun j hj => ?_)
  · have cc : ∀ b k, 1 ≤ b → (b ≤ 92) → mI m2 (30 + b) k = mI m (30 + b) k := fun b k y1 y2 => fr1 _ _ (by unfold Scr; omega) (by omega) (by omega) (by omega) (by omega)
    unfold fc
    exact ite_c (fun k1 => cc 1 _ (by omega) (by omega)) (fun k2 => ite_c (fun k1 => cc 7 _ (by omega) (by omega)) (fun k2 => ite_c (fun k1 => by omega) (fun k2 => ite_c (fun k1 => by omega) (fun k2 => ite_c (fun k1 => by omega) (fun k2 => ite_c (fun k1 => cc 8 _ (by omega) (by omega)) (fun k2 => ite_c (fun k1 => cc 9 _ (by omega) (by omega)) (fun k2 => ite_c (fun k1 => cc 10 _ (by omega) (by omega)) (fun k2 => ite_c (fun k1 => cc 11 _ (by omega) (by omega)) (fun k2 => ite_c (fun k1 => cc 2 _ (by omega) (by omega)) (fun k2 => ite_c (fun k1 => cc 3 _ (by omega) (by omega)) (fun k2 => ite_c (fun k1 => cc 4 _ (by omega) (by omega)) (fun k2 => ite_c (fun k1 => cc 5 _ (by omega) (by omega)) (fun k2 => ite_c (fun k1 => by omega) (fun k2 => ite_c (fun k1 => by omega) (fun k2 => ite_c (fun k1 => by omega) (fun k2 => ite_c (fun k1 => cc 6 _ (by omega) (by omega)) (fun k2 => fcP_c (fun b k h1 h2 => cc b k (by omega) (by omega)))))))))))))))))))
  · unfold fm
    by_cases k : j = 23
    · rw [if_pos k, if_pos k]; exact fr1 _ _ (by unfold Scr; omega) (by omega) (by omega) (by omega) (by omega)
    · rw [if_neg k, if_neg k]
      have dec : ∀ j, j < 384 → (j = 23 ∨ j = 6 ∨ j = 7 ∨ j = 8 ∨ (48 ≤ j ∧ j < 78)) ∨ ((layR j).1 = 536 ∧ (layR j).2 < 6) ∨ ((layR j).1 = 537 ∧ (layR j).2 < 4) ∨ ((layR j).1 = 538 ∧ (layR j).2 < 4) ∨ ((layR j).1 = 539 ∧ (layR j).2 < 6) ∨ (540 ≤ (layR j).1 ∧ (layR j).1 ≤ 543) ∨ (layR j).1 = 547 ∨ (layR j).1 = 564 := by decide +kernel
      have := dec j z1
      exact fr _ _ (by unfold Scr; omega) (by omega) (by omega) (by omega) (by omega)
  · rw [fc_nd (by omega), fm_nd (by omega), fc_nw (by omega), fm_nw (by omega), fc_np (by omega), fm_np (by omega)]
    exact en j hj
theorem Inv_tape {m m2 : pMem} (h : Inv m) (hR : ∀ x y, mR m2 x y = mR m x y) (fr : ∀ a k, ¬ Scr a k → ¬ (a = 1 ∧ k = 1) → a ≠ 2 → ¬ (a = 535 ∧ k = 19) → a ≠ 554 → mI m2 a k = mI m a k) (ht : TapeI m2) : Inv m2 := by
  obtain ⟨h1, h2, h3, nr, h4, h5, ⟨f, hf, ef⟩, h7⟩ := h
  have hs : ∀ a k, ¬ Scr a k → a ≠ 1 → a ≠ 2 → ¬ (a = 535 ∧ k = 19) → a ≠ 554 → mI m2 a k = mI m a k := fun a k z1 z2 z3 z4 z5 => fr a k z1 (by omega) z3 z4 z5
  exact ⟨h1.sm hR, ConI_c (hs _ _ (by unfold Scr; omega) (by omega) (by omega) (by omega) (by omega)) (fun k => hs _ _ (by unfold Scr; omega) (by omega) (by omega) (by omega) (by omega)) h2, ht, nr, RulesI_c (hs _ _ (by unfold Scr; omega) (by omega) (by omega) (by omega) (by omega)) (hs _ _ (by unfold Scr; omega) (by omega) (by omega) (by omega) (by omega)) (fun a k z1 z2 z3 => hs _ _ (by unfold Scr; omega) (by omega) (by omega) (by omega) (by omega)) (fun a k z1 z2 => hs _ _ (by unfold Scr; omega) (by omega) (by omega) (by omega) (by omega)) h4,
    ImgI_c (fun k => hs _ _ (by unfold Scr; omega) (by omega) (by omega) (by omega) (by omega)) (fun k => hs _ _ (by unfold Scr; omega) (by omega) (by omega) (by omega) (by omega)) (fun a k z1 z2 => hs _ _ (by unfold Scr; omega) (by omega) (by omega) (by omega) (by omega)) (fun k z => hs _ _ (by unfold Scr; omega) (by omega) (by omega) (by omega) (by omega)) h5, ⟨f, hf, (hs _ _ (by unfold Scr; omega) (by omega) (by omega) (by omega) (by omega)).trans ef⟩, Weq_c (fun j hj => fc_c (fun b k hb => hs _ _ (by unfold Scr; omega) (by omega) (by omega) (by omega) (by omega))) (fun j hj => fm_c hj (fun a k z => hs _ _ (by unfold Scr; omega) (by omega) (by omega) (by omega) (by omega))) h7⟩
section Q1
variable {X : pX}
theorem p_end {x : Int32} : Pair X 0 0 mX11_end mX12_end [.int x] := by
  intro m h Q K
  obtain ⟨hW, -, ⟨L, hL, e1, e2, hb⟩, -⟩ := Inv_open h
  refine pCl_of (by decide +kernel) (Nat.le_of_ble_eq_true rfl) rfl (bX11_end_0 hW (fun z => ?_) (fun z1 z2 => ?_) (fun z1 z2 => ?_))
  · exact K _ m hW (fun Q2 h2 => pCl_of (by decide +kernel) (Nat.le_of_ble_eq_true rfl) rfl (bX12_end_0 hW (fun _ => h2 m h) (fun w => absurd z w) (fun w => absurd z w)))
  · refine K _ _ (hW.sm (fun _ _ => rfl)) (fun Q2 h2 => pCl_of (by decide +kernel) (Nat.le_of_ble_eq_true rfl) rfl (bX12_end_0 (m := uI m 1 1 x) (hW.sm (fun _ _ => rfl)) (fun w => absurd w z1) (fun _ _ => ?_) (fun _ w => ?_)))
    · obtain ⟨n, hn, rfl⟩ := nI_of z1
      have hnL : n ≤ L := nI_le' hn (by omega) (by rw [← e1]; exact z2)
      refine h2 _ (Inv_tape h (fun _ _ => rfl) (fun a k y1 y2 y3 y4 y5 => by rw [mI_uI, if_neg y4, mI_uI, if_neg y2]) ⟨n, by omega, by rw [mI_uI, if_neg (by omega), mI_uI, if_pos ⟨rfl, rfl⟩], by rw [mI_uI, if_pos ⟨rfl, rfl⟩], fun j hj => ?_⟩)
      obtain ⟨b, y1, y2, y3⟩ := hb j (by omega)
      exact ⟨b, y1, by rw [mI_uI, if_neg (by omega), mI_uI, if_neg (by omega)]; exact y2, by rw [mI_uI, if_neg (by omega), mI_uI, if_neg (by omega)]; exact y3⟩
    · refine absurd ?_ w
      rw [mI_uI, if_neg (by omega), e2, ← e1]; exact z2
  · refine K _ m hW (fun Q2 h2 => pCl_of (by decide +kernel) (Nat.le_of_ble_eq_true rfl) rfl (bX12_end_0 hW (fun w => absurd w z1) (fun _ w => absurd ?_ z2) (fun _ _ => h2 m h)))
    rw [e1, ← e2]; exact w
theorem p_seed {x : Int32} : Pair X 0 0 mX11_seed mX12_seed [.int x] := by
  intro m h Q K
  obtain ⟨hW, hC, hT, nr, P, Sg, T, N, M, d, f, hr, hi, hf, hw, hv⟩ := Inv_open h
  obtain ⟨-, ⟨v1, v2, v3, v4, v5, v6, v7, v8, v9, v10⟩, ⟨hN, hM, hd⟩, v11, v12, v13, v14, v15, v16, v17⟩ := hv
  refine pCl_of (by decide +kernel) (Nat.le_of_ble_eq_true rfl) rfl (bX11_seed_0 hW (fun z => ?_) (fun z => ?_))
  · refine K _ _ (hW.sm (fun _ _ => rfl)) (fun Q2 h2 => pCl_of (by decide +kernel) (Nat.le_of_ble_eq_true rfl) rfl (bX12_seed_0 (m := uI m 30 4 x) (hW.sm (fun _ _ => rfl)) (fun _ => ?_) (fun w => absurd z w)))
    rw [mI_uI, if_neg (by omega), ← v7]
    refine h2 _ (Inv_g hW hC hT hr hi ⟨f, hf⟩ hw (fun _ _ => rfl) (fun a k y1 y2 y3 y4 y5 => by rw [mI_uI, if_neg (by omega), mI_uI, if_neg (by omega)]) hN ?_ ?_ ?_ ?_ ?_ ?_ (fun j hj => ?_))
    · rw [mI_uI, if_neg (by omega), mI_uI, if_neg (by omega)]; exact v5
    · rw [mI_uI, if_neg (by omega), mI_uI, if_neg (by omega)]; exact v6
    · rw [mI_uI, if_neg (by omega), mI_uI, if_pos ⟨rfl, rfl⟩, mI_uI, if_pos ⟨rfl, rfl⟩]
    · rw [mI_uI, if_neg (by omega), mI_uI, if_pos ⟨rfl, rfl⟩]; exact Int32.not_lt.mpr z
    · rw [mI_uI, if_neg (by omega), mI_uI, if_neg (by omega), mI_uI, if_neg (by omega), mI_uI, if_neg (by omega)]; exact v8
    · rw [mI_uI, if_neg (by omega), mI_uI, if_neg (by omega)]; exact v12
    · obtain ⟨w, q, w1, q1, w2, w3, q2, q3, w4⟩ := v16 j hj
      have g : ∀ a, a ≠ 30 → a ≠ 536 → mI (uI (uI m 30 4 x) 536 7 x) a j = mI m a j := fun a y1 y2 => by rw [mI_uI, if_neg (by omega), mI_uI, if_neg (by omega)]
      rw [g 123 (by omega) (by omega), g 544 (by omega) (by omega), g 124 (by omega) (by omega), g 545 (by omega) (by omega), g 125 (by omega) (by omega), g 546 (by omega) (by omega)]
      exact ⟨⟨w2.trans w3.symm, w, w1, w2⟩, ⟨q2.trans q3.symm, q, q1, q2⟩, w4⟩
  · exact K _ m hW (fun Q2 h2 => pCl_of (by decide +kernel) (Nat.le_of_ble_eq_true rfl) rfl (bX12_seed_0 hW (fun w => absurd w z) (fun _ => h2 m h)))
theorem p_force {x : Int32} : Pair X 0 1 mX11_force mX12_force [.int x] := by
  intro m h Q K
  obtain ⟨hW, hC, hT, nr, P, Sg, T, N, M, d, f, hr, hi, hf, hw, hv⟩ := Inv_open h
  obtain ⟨-, ⟨v1, v2, v3, v4, v5, v6, v7, v8, v9, v10⟩, ⟨hN, hM, hd⟩, v11, v12, v13, v14, v15, v16, v17⟩ := hv
  obtain ⟨n6, rn1, rn2, rn3⟩ := hr
  -- which numbers are rules
  have cond : (¬ x < (-1 : Int32) ∧ x < nI nr) ↔ (x = -1 ∨ ∃ i, i < nr ∧ x = nI i) := by
    constructor
    · rintro ⟨z1, z2⟩
      by_cases z : x < 0
      · refine Or.inl ?_
        have a1 := (fa_lt _ _).mp z
        have a2 : ¬ x.toInt < (-1 : Int32).toInt := fun q => z1 ((fa_lt _ _).mpr q)
        have b1 : ((-1 : Int32)).toInt = -1 := rfl
        have b2 : ((0 : Int32)).toInt = 0 := rfl
        exact Int32.toInt_inj.mp (by omega)
      · obtain ⟨i, hi2, rfl⟩ := nI_of z
        exact Or.inr ⟨i, nI_lt' hi2 (by omega) z2, rfl⟩
    · rintro (rfl | ⟨i, hi2, rfl⟩)
      · refine ⟨by decide, ?_⟩
        have : ∀ n, n ≤ 6 → (-1 : Int32) < nI n := by decide +kernel
        exact this nr n6
      · refine ⟨?_, nI_lt hi2 (by omega)⟩
        have : ∀ n, n < 6 → ¬ nI n < (-1 : Int32) := by decide +kernel
        exact this i (by omega)
  have condM : ∀ y, y = nI nr → ((¬ x < (-1 : Int32) ∧ ¬ (y - (1 : Int32)) < x) ↔ (¬ x < (-1 : Int32) ∧ x < nI nr)) := by
    intro y hy
    subst hy
    refine and_congr_right (fun z1 => ?_)
    have hl : (nI nr - (1 : Int32)).toInt = nr - 1 := by
      have : ∀ n : Nat, n ≤ 6 → (nI n - (1 : Int32)).toInt = (n : Int) - 1 := by decide +kernel
      exact this nr n6
    rw [fa_lt, fa_lt, hl, nI_toInt (by omega)]
    omega
  refine pCl_of (by decide +kernel) (Nat.le_of_ble_eq_true rfl) rfl (bX11_force_0 hW (fun z => ?_) (fun z1 z2 => ?_) (fun z1 z2 => ?_))
  · exact K _ m hW (fun Q2 h2 => pCl_of (by decide +kernel) (Nat.le_of_ble_eq_true rfl) rfl (bX12_force_0 hW (fun w => absurd z w.1) (fun _ => h2 m h)))
  · rw [rn1] at z2
    have hx := cond.mp ⟨z1, z2⟩
    refine K _ _ (hW.sm (fun _ _ => rfl)) (fun Q2 h2 => pCl_of (by decide +kernel) (Nat.le_of_ble_eq_true rfl) rfl (bX12_force_0 (m := uI m 30 3 x) (hW.sm (fun _ _ => rfl)) (fun _ => ?_) (fun w => absurd ((condM _ (by rw [mI_uI, if_neg (by omega)]; exact rn2)).mpr ⟨z1, z2⟩) w)))
    rw [mI_uI, if_neg (by omega), ← v8]
    refine h2 _ (Inv_g hW hC hT ⟨n6, rn1, rn2, rn3⟩ hi ⟨f, hf⟩ hw (fun _ _ => rfl) (fun a k y1 y2 y3 y4 y5 => by rw [mI_uI, if_neg (by omega), mI_uI, if_neg (by omega)]) hN ?_ ?_ ?_ ?_ ?_ ?_ (fun j hj => ?_))
    · rw [mI_uI, if_neg (by omega), mI_uI, if_neg (by omega)]; exact v5
    · rw [mI_uI, if_neg (by omega), mI_uI, if_neg (by omega)]; exact v6
    · rw [mI_uI, if_neg (by omega), mI_uI, if_neg (by omega), mI_uI, if_neg (by omega), mI_uI, if_neg (by omega)]; exact v7
    · rw [mI_uI, if_neg (by omega), mI_uI, if_neg (by omega)]; exact v13
    · rw [mI_uI, if_neg (by omega), mI_uI, if_pos ⟨rfl, rfl⟩, mI_uI, if_pos ⟨rfl, rfl⟩]
    · rw [mI_uI, if_neg (by omega), mI_uI, if_pos ⟨rfl, rfl⟩]; exact hx
    · obtain ⟨w, q, w1, q1, w2, w3, q2, q3, w4⟩ := v16 j hj
      have g : ∀ a, a ≠ 30 → a ≠ 536 → mI (uI (uI m 30 3 x) 536 8 x) a j = mI m a j := fun a y1 y2 => by rw [mI_uI, if_neg (by omega), mI_uI, if_neg (by omega)]
      rw [g 123 (by omega) (by omega), g 544 (by omega) (by omega), g 124 (by omega) (by omega), g 545 (by omega) (by omega), g 125 (by omega) (by omega), g 546 (by omega) (by omega)]
      exact ⟨⟨w2.trans w3.symm, w, w1, w2⟩, ⟨q2.trans q3.symm, q, q1, q2⟩, w4⟩
  · rw [rn1] at z2
    exact K _ m hW (fun Q2 h2 => pCl_of (by decide +kernel) (Nat.le_of_ble_eq_true rfl) rfl (bX12_force_0 hW (fun w => absurd ((condM _ rn2).mp w).2 z2) (fun _ => h2 m h)))
theorem p_stage {x : Int32} : Pair X 1 1 mX11_stage mX12_stage [.int x] := by
  intro m h Q K
  obtain ⟨hW, hC, hT, nr, P, Sg, T, N, M, d, f, hr, hi, hf, hw, hv⟩ := Inv_open h
  obtain ⟨⟨⟨p3, p4, p2, p8, pT, p6⟩, ⟨q3, _, q2, _, qT, _⟩, ⟨_, _, _, a1, a2, a3, a4⟩, _, _⟩, _⟩ := hv
  refine pCl_of (by decide +kernel) (Nat.le_of_ble_eq_true rfl) rfl (bX11_stage_0 hW (fun z => vp_in_cmp (N := 8) z.1 z.2.2 (by decide)) (fun z => ?_) (fun z => ?_))
  · obtain ⟨s, hs, rfl⟩ := (perC p2 (K := 8) rfl p8 (by decide)).mp z
    refine K _ m hW (fun Q2 h2 => pCl_of (by decide +kernel) (Nat.le_of_ble_eq_true rfl) rfl (bX12_stage_0 hW (fun _ => vp_in_nI (by omega) (by decide)) (fun _ => ?_) (fun w => absurd ((perM q2 (by omega)).mpr ⟨s, hs, rfl⟩) w)))
    have e : mI m 32 s = mI m 540 s := a1 s hs
    rw [nI_clamp (by omega), ← e] at *
    exact h2 m h
  · refine K _ m hW (fun Q2 h2 => pCl_of (by decide +kernel) (Nat.le_of_ble_eq_true rfl) rfl (bX12_stage_0 hW (fun w => absurd ((perC p2 (K := 8) rfl p8 (by decide)).mpr ((perM q2 (by omega)).mp w)) z) (fun w => absurd ((perC p2 (K := 8) rfl p8 (by decide)).mpr ((perM q2 (by omega)).mp w)) z) (fun _ => h2 m h)))
end Q1
