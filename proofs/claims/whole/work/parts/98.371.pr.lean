/-! ===== pair: road ===== -/
theorem sh41x : SH[30 + 11]? = some (.inl 2) := by decide +kernel
section T44
variable {X : pX}
theorem p_road : Pair X 9 8 mX11_road mX12_road [] := by
  intro m h Q K
  have hI := h
  obtain ⟨hW, hC, hT, nr, P, Sg, T, N, M, d, f, hr, hi, hf, hw, hv⟩ := Inv_open h
  obtain ⟨B, L, tc, tm⟩ := tape_of hT
  refine pCl_of (by decide +kernel) (Nat.le_of_ble_eq_true rfl) rfl (bX11_road_0 hW (s_rRead hW tc (fun s2 e b m3 hW3 x3 n3 e0 t3 => ?_) (fun f e m3 h3 t3 => ?_)))
  · refine bX11_road_7 hW3 (fun _ => ?_) (fun z => absurd z (by decide))
    obtain ⟨m4, hm4⟩ : ∃ m4, m4 = uI m3 1 1 (0 : Int32) := ⟨_, rfl⟩
    have r4 : ∀ a k, ¬ (a = 1 ∧ k = 1) → mI m4 a k = mI m3 a k := fun a k z => by rw [hm4, mI_uI, if_neg z]
    have R4 : ∀ x y, mR m4 x y = mR m x y := fun x y => by rw [hm4]; exact t3.2 x y
    rw [← hm4]
    have hW4 := hW.sm R4
    refine pCl_of (by decide +kernel) (Nat.le_of_ble_eq_true rfl) rfl (bX10_begin_0 hW4 sh30 sh4x (Or.inr ((r4 _ _ (by omega)).trans e0)) ?_)
    have hW5 : Wf (beS (cpR m4 (30 + 1) 4) (30 + 1) (30 + 7)) := hW4.sm (fun _ _ => rfl)
    refine pCl_of (by decide +kernel) (Nat.le_of_ble_eq_true rfl) rfl (bX2_clear_0 hW5 sh41x ?_)
    refine bX10_begin_26 (hW5.sm (fun _ _ => rfl)) sh30 sh4x ?_
    obtain ⟨m6, hm6⟩ : ∃ m6, m6 = uI (uI (uI (beS (cpR m4 (30 + 1) 4) (30 + 1) (30 + 7)) (30 + 11) 1 (0 : Int32)) (30 + 11) 2 (0 : Int32)) 30 5 (0 : Int32) := ⟨_, rfl⟩
    rw [← hm6]
    have R6 : ∀ x y, mR m6 x y = mR m x y := fun x y => by rw [hm6]; exact R4 x y
    have hW6 := hW.sm R6
    have u6 : ∀ a k, ¬ (a = 30 ∧ k = 5) → ¬ (a = 41 ∧ (k = 1 ∨ k = 2)) → mI m6 a k = mI (beS (cpR m4 (30 + 1) 4) (30 + 1) (30 + 7)) a k := fun a k z1 z2 => by
      rw [hm6, mI_uI, if_neg (by omega), mI_uI, if_neg (by omega), mI_uI, if_neg (by omega)]
    have c30 : mI m6 30 5 = 0 := by rw [hm6, mI_uI, if_pos ⟨rfl, rfl⟩]
    have c41 : mI m6 41 1 = 0 := by rw [hm6, mI_uI, if_neg (by omega), mI_uI, if_neg (by omega), mI_uI, if_pos ⟨rfl, rfl⟩]
    have c412 : mI m6 41 2 = 0 := by rw [hm6, mI_uI, if_neg (by omega), mI_uI, if_pos ⟨rfl, rfl⟩]
    have c37 : mI m6 37 0 = 0 := by rw [u6 _ _ (by omega) (by omega), mI_beS (by omega), if_pos (by omega)]
    have c38 : ∀ q, q < 4 → mI m6 38 q = 0 := fun q hq => by rw [u6 _ _ (by omega) (by omega), mI_beS (by omega), if_neg (by omega), if_pos (by omega)]
    have c39 : ∀ q, q < 4 → mI m6 39 q = 0 := fun q hq => by rw [u6 _ _ (by omega) (by omega), mI_beS (by omega), if_neg (by omega), if_pos (by omega)]
    have cR : ∀ a k, 31 ≤ a → a ≤ 36 → mI m6 a k = mI (cpR m4 (30 + 1) 4) a k := fun a k z1 z2 => by rw [u6 _ _ (by omega) (by omega), mI_beS (by omega), if_neg (by omega), if_neg (by omega), if_neg (by omega)]
    have c31 : ∀ q, q < 5 → mI m6 31 q = mI m3 4 q := fun q hq => by rw [cR _ _ (by omega) (by omega), mI_cpR (by omega), if_pos (by omega), r4 _ _ (by omega)]
    have c32 : ∀ q, q < 8 → mI m6 32 q = mI m3 5 q := fun q hq => by rw [cR _ _ (by omega) (by omega), mI_cpR (by omega), if_neg (by omega), if_pos (by omega), r4 _ _ (by omega)]
    have c33 : ∀ q, q < 4 → mI m6 33 q = mI m3 6 q := fun q hq => by rw [cR _ _ (by omega) (by omega), mI_cpR (by omega), if_neg (by omega), if_neg (by omega), if_pos (by omega), r4 _ _ (by omega)]
    have c34 : ∀ q, q < 6 → mI m6 34 q = mI m3 7 q := fun q hq => by rw [cR _ _ (by omega) (by omega), mI_cpR (by omega), if_neg (by omega), if_neg (by omega), if_neg (by omega), if_pos (by omega), r4 _ _ (by omega)]
    have c35 : ∀ q, q < 6 → mI m6 35 q = mI m3 8 q := fun q hq => by rw [cR _ _ (by omega) (by omega), mI_cpR (by omega), if_neg (by omega), if_neg (by omega), if_neg (by omega), if_neg (by omega), if_pos (by omega), r4 _ _ (by omega)]
    have c36 : ∀ q, q < 6 → mI m6 36 q = mI m3 9 q := fun q hq => by rw [cR _ _ (by omega) (by omega), mI_cpR (by omega), if_neg (by omega), if_neg (by omega), if_neg (by omega), if_neg (by omega), if_neg (by omega), if_pos (by omega), r4 _ _ (by omega)]
    have c40 : ∀ q, q < 6 → mI m6 40 q = mI m3 9 q := fun q hq => by
      rw [u6 _ _ (by omega) (by omega), mI_beS (by omega), if_neg (by omega), if_neg (by omega), if_pos (by omega), mI_cpR (by omega), if_neg (by omega), if_neg (by omega), if_neg (by omega), if_neg (by omega), if_neg (by omega), if_pos (by omega), r4 _ _ (by omega)]
    have cO : ∀ a k, ¬ (31 ≤ a ∧ a ≤ 40) → ¬ (a = 30 ∧ k = 5) → ¬ (a = 41 ∧ (k = 1 ∨ k = 2)) → ¬ (a = 1 ∧ k = 1) → mI m6 a k = mI m3 a k := fun a k z1 z2 z3 z4 => by
      rw [u6 _ _ z2 z3, mI_beS (by omega), if_neg (by omega), if_neg (by omega), if_neg (by omega), mI_cpR (by omega), if_neg (by omega), if_neg (by omega), if_neg (by omega), if_neg (by omega), if_neg (by omega), if_neg (by omega), r4 _ _ (by omega)]
    have cM : ∀ a k, ¬ (31 ≤ a ∧ a ≤ 40) → ¬ (a = 30 ∧ k = 5) → ¬ (a = 41 ∧ (k = 1 ∨ k = 2)) → a ≠ 1 → ¬ (4 ≤ a ∧ a ≤ 9) → mI m6 a k = mI m a k := fun a k z1 z2 z3 z4 z5 => by
      rw [cO a k z1 z2 z3 (by omega)]; exact t3.1 a k (by omega)
    refine bX11_road_45 hW6 ?_
    obtain ⟨⟨x1, x2, xp, xt⟩, xf, xc, xd⟩ := x3
    rw [c31 3 (by decide), xp]
    refine K _ m6 hW6 (fun Q2 h2 => ?_)
    have tm6 : TpM m6 B L := ⟨tm.1, (cM _ _ (by omega) (by omega) (by omega) (by omega) (by omega)).trans tm.2.1, fun j hj => ⟨(tm.2.2 j hj).1, (cM _ _ (by omega) (by omega) (by omega) (by omega) (by omega)).trans (tm.2.2 j hj).2⟩⟩
    refine pCl_of (by decide +kernel) (Nat.le_of_ble_eq_true rfl) rfl (bX12_road_0 hW6 (s_readsAll hW6 tm6 (fun s3 e3 b3 m7 hW7 x7 e7 f7 l7 t7 => ?_) (fun f e3 => absurd (e.symm.trans e3) (fun z => by cases z))))
    have ess : s2 = s3 := by have := e.symm.trans e3; cases this; rfl
    subst ess
    refine bX12_road_4 hW7 (fun _ => ?_) (fun z => absurd (by rw [f7]; decide) z)
    have main : ∀ i, i ≤ 5 → ∀ m8, (∀ a k, mI m8 a k = if a = 536 ∧ k < i then mI m7 548 k else mI m7 a k) → (∀ x y, mR m8 x y = mR m x y) → Go X 8 mX12_road Q2 21 [(0, .ref 535), (1, .int (nI i))] [] m8 := by
      refine upTo (P := fun i => ∀ m8, (∀ a k, mI m8 a k = if a = 536 ∧ k < i then mI m7 548 k else mI m7 a k) → (∀ x y, mR m8 x y = mR m x y) → Go X 8 mX12_road Q2 21 [(0, .ref 535), (1, .int (nI i))] [] m8) 5 ?_ ?_
      · intro m8 e8 R8
        have hW8 := hW.sm R8
        refine bX12_road_21 hW8 (fun _ => ?_) (fun z => absurd (by decide) z) (fun z => absurd (by decide) z) (fun z => absurd (by decide) z)
        obtain ⟨m9, hm9⟩ : ∃ m9, m9 = uC (uC (uC (uC (uC (uI m8 536 6 (0 : Int32)) 549 0 540 0 8) 550 0 541 0 4) 551 0 542 0 6) 552 0 543 0 6) 553 0 547 0 6 := ⟨_, rfl⟩
        rw [← hm9]
        have hW9 : Wf m9 := by rw [hm9]; exact hW8.sm (fun _ _ => rfl)
        have R9 : ∀ x y, mR m9 x y = mR m x y := fun x y => by rw [hm9]; exact R8 x y
        have q9 : ∀ a k, ¬ (a = 536 ∧ k = 6) → ¬ (540 ≤ a ∧ a ≤ 543) → a ≠ 547 → mI m9 a k = mI m8 a k := fun a k z1 z2 z3 => by
          rw [hm9, mI_uC', if_neg (by omega), mI_uC', if_neg (by omega), mI_uC', if_neg (by omega), mI_uC', if_neg (by omega), mI_uC', if_neg (by omega), mI_uI, if_neg z1]
        have q6 : mI m9 536 6 = 0 := by rw [hm9, mI_uC', if_neg (by omega), mI_uC', if_neg (by omega), mI_uC', if_neg (by omega), mI_uC', if_neg (by omega), mI_uC', if_neg (by omega), mI_uI, if_pos ⟨rfl, rfl⟩]
        have e8o : ∀ a k, a ≠ 536 → mI m8 a k = mI m7 a k := fun a k z => by rw [e8, if_neg (fun w => z w.1)]
        have q540 : ∀ k, k < 8 → mI m9 540 k = mI m7 549 k := fun k hk => by
          rw [hm9, mI_uC', if_neg (by omega), mI_uC', if_neg (by omega), mI_uC', if_neg (by omega), mI_uC', if_neg (by omega), mI_uC', if_pos (by omega), mI_uI, if_neg (by omega), e8o _ _ (by omega)]
        have q541 : ∀ k, k < 4 → mI m9 541 k = mI m7 550 k := fun k hk => by
          rw [hm9, mI_uC', if_neg (by omega), mI_uC', if_neg (by omega), mI_uC', if_neg (by omega), mI_uC', if_pos (by omega), mI_uC', if_neg (by omega), mI_uI, if_neg (by omega), e8o _ _ (by omega)]
        have q542 : ∀ k, k < 6 → mI m9 542 k = mI m7 551 k := fun k hk => by
          rw [hm9, mI_uC', if_neg (by omega), mI_uC', if_neg (by omega), mI_uC', if_pos (by omega), mI_uC', if_neg (by omega), mI_uC', if_neg (by omega), mI_uI, if_neg (by omega), e8o _ _ (by omega)]
        have q543 : ∀ k, k < 6 → mI m9 543 k = mI m7 552 k := fun k hk => by
          rw [hm9, mI_uC', if_neg (by omega), mI_uC', if_pos (by omega), mI_uC', if_neg (by omega), mI_uC', if_neg (by omega), mI_uC', if_neg (by omega), mI_uI, if_neg (by omega), e8o _ _ (by omega)]
        have q547 : ∀ k, k < 6 → mI m9 547 k = mI m7 553 k := fun k hk => by
          rw [hm9, mI_uC', if_pos (by omega), mI_uC', if_neg (by omega), mI_uC', if_neg (by omega), mI_uC', if_neg (by omega), mI_uC', if_neg (by omega), mI_uI, if_neg (by omega), e8o _ _ (by omega)]
        have q536 : ∀ k, k < 5 → mI m9 536 k = mI m7 548 k := fun k hk => by rw [q9 _ _ (by omega) (by omega) (by omega), e8, if_pos (by omega)]
        refine s_begins hW9 (fun m10 b10 => ?_)
        obtain ⟨g1, g2, g3, g4, g5⟩ := b10
        have R10 : ∀ x y, mR m10 x y = mR m x y := fun x y => (g2 x y).trans (R9 x y)
        refine bX12_road_111 (hW.sm R10) ?_
        obtain ⟨⟨y1, y2, yp, yt⟩, yf, yc, yd⟩ := x7
        have g536 : ∀ k, k < 5 → mI m10 536 k = mI m7 548 k := fun k hk => (g1 _ _ (by omega) (by omega) (by omega) (by omega)).trans (q536 k hk)
        rw [g536 3 (by decide), yp]
        -- what it all is in the end
        obtain ⟨mz, hmz⟩ : ∃ mz, mz = uI m10 535 41 (0 : Int32) := ⟨_, rfl⟩
        rw [← hmz]
        have z41 : mI mz 535 41 = 0 := by rw [hmz, mI_uI, if_pos ⟨rfl, rfl⟩]
        have zo : ∀ a k, ¬ (a = 535 ∧ k = 41) → mI mz a k = mI m10 a k := fun a k z => by rw [hmz, mI_uI, if_neg z]
        -- the class's cells
        have zc : ∀ a k, a < 535 → mI mz a k = mI m6 a k := fun a k z => by
          rw [zo _ _ (by omega), g1 _ _ (by omega) (by omega) (by omega) (by omega), q9 _ _ (by omega) (by omega) (by omega), e8o _ _ (by omega)]
          exact t7.1 a k (by unfold Ea; omega)
        -- cells of nobody
        have zm : ∀ a k, a < 535 → ¬ (31 ≤ a ∧ a ≤ 40) → ¬ (a = 30 ∧ k = 5) → ¬ (a = 41 ∧ (k = 1 ∨ k = 2)) → a ≠ 1 → ¬ (4 ≤ a ∧ a ≤ 9) → mI mz a k = mI m a k := fun a k z0 z1 z2 z3 z4 z5 => (zc a k z0).trans (cM a k z1 z2 z3 z4 z5)
        have zn : ∀ a k, 535 ≤ a → ¬ (a = 535 ∧ (k = 41 ∨ k = 19 ∨ k = 20 ∨ k = 21 ∨ k = 24 ∨ k = 25 ∨ k = 26)) → ¬ (a = 536 ∧ k < 7) → ¬ (537 ≤ a ∧ a ≤ 543) → ¬ (547 ≤ a ∧ a ≤ 553) → mI mz a k = mI m a k := fun a k z0 z1 z2 z3 z4 => by
          rw [zo _ _ (by omega), g1 _ _ (by omega) (by omega) (by omega) (by omega), q9 _ _ (by omega) (by omega) (by omega), e8, if_neg (by omega), t7.1 a k (by unfold Ea; omega)]
          exact cM a k (by omega) (by omega) (by omega) (by omega) (by omega)
        have Rz : ∀ x y, mR mz x y = mR m x y := fun x y => by rw [hmz]; exact R10 x y
        obtain ⟨B1, B2, B3, B4, B5, B6⟩ := b
        have v31 : ∀ j, j < 5 → mI mz 31 j = mI mz 536 j := fun j hj => by
          have a1 : mI mz 31 j = mI m3 4 j := (zc 31 j (by omega)).trans (c31 j hj)
          have a2 : mI mz 536 j = mI m7 548 j := (zo _ _ (by omega)).trans (g536 j hj)
          rw [a1, a2]
          have hh : j = 0 ∨ j = 1 ∨ j = 2 ∨ j = 3 ∨ j = 4 := by omega
          rcases hh with rfl | rfl | rfl | rfl | rfl
          · exact e0.trans e7.symm
          · exact x1.trans y1.symm
          · exact x2.trans y2.symm
          · exact xp.trans yp.symm
          · exact xt.trans yt.symm
        obtain ⟨hw1, hw2, ⟨hw3, hw4⟩, hw5, hw6, hw7, _⟩ := hw
        have o8 : fc mz 30 8 = fc m 30 8 := by rw [fc_8, fc_8]; exact zm 30 3 (by omega) (by omega) (by omega) (by omega) (by omega) (by omega)
        have o7 : fc mz 30 7 = fc m 30 7 := by rw [fc_7, fc_7]; exact zm 30 4 (by omega) (by omega) (by omega) (by omega) (by omega) (by omega)
        refine h2 mz ⟨hW.sm Rz, ConI_c (zn _ _ (by omega) (by omega) (by omega) (by omega) (by omega)) (fun k => zn _ _ (by omega) (by omega) (by omega) (by omega) (by omega)) hC, ⟨0, by decide, ?_, ?_, fun j hj => absurd hj (Nat.not_lt_zero _)⟩, nr, RulesI_c (zm _ _ (by omega) (by omega) (by omega) (by omega) (by omega) (by omega)) (zn _ _ (by omega) (by omega) (by omega) (by omega) (by omega)) (fun a k z1 z2 z3 => zm _ _ (by omega) (by omega) (by omega) (by omega) (by omega) (by omega)) (fun a k z1 z2 => zn _ _ (by omega) (by omega) (by omega) (by omega) (by omega)) hr,
          ImgI_c (fun k => zn _ _ (by omega) (by omega) (by omega) (by omega) (by omega)) (fun k => zm _ _ (by omega) (by omega) (by omega) (by omega) (by omega) (by omega)) (fun a k z1 z2 => zm _ _ (by omega) (by omega) (by omega) (by omega) (by omega) (by omega)) (fun k z => zn _ _ (by omega) (by omega) (by omega) (by omega) (by omega)) hi, ⟨0, by decide, (zc 41 1 (by omega)).trans c41⟩,
          s2.2.2.1, s2.2.1, s2.2.2.2.1, 0, 0, 0, ⟨B3, B2, B4, by omega, by omega, by omega⟩, ⟨?_, ?_, ?_, ?_, ?_, ?_⟩, ⟨fun j hj => ?_, ?_⟩, ?_, ?_, ?_, fun q hq => ⟨0, by omega, ?_⟩, ⟨fun t ht => ?_, fun t h1 h2 => ?_⟩, fun j hj => ?_, fun j hj => ?_, fun j hj => ?_, fun j hj => ?_, fun j hj => absurd hj (Nat.not_lt_zero _), ⟨fun t ht => ?_, fun t h1 h2 => ?_⟩, fun i hi => absurd hi (Nat.not_lt_zero _)⟩
        · exact (zc 1 1 (by omega)).trans (by rw [u6 _ _ (by omega) (by omega), mI_beS (by omega), if_neg (by omega), if_neg (by omega), if_neg (by omega), mI_cpR (by omega), if_neg (by omega), if_neg (by omega), if_neg (by omega), if_neg (by omega), if_neg (by omega), if_neg (by omega), hm4, mI_uI, if_pos ⟨rfl, rfl⟩]; rfl)
        · rw [zo _ _ (by omega), g1 _ _ (by omega) (by omega) (by omega) (by omega), q9 _ _ (by omega) (by omega) (by omega), e8o _ _ (by omega)]; exact l7
        · rw [fc_sc (by decide)]; exact ((zc 31 2 (by omega)).trans (c31 2 (by decide))).trans x2
        · rw [fc_sc (by decide)]; exact ((zc 31 3 (by omega)).trans (c31 3 (by decide))).trans xp
        · rw [fc_sc (by decide)]; exact ((zc 31 4 (by omega)).trans (c31 4 (by decide))).trans xt
        · rw [fc_5]; exact (zc 37 0 (by omega)).trans c37
        · rw [fc_6]; exact (zc 30 5 (by omega)).trans c30
        · rw [fc_23]; exact (zc 41 2 (by omega)).trans c412
        · rcases Nat.lt_or_ge j 5 with c | c
          · rw [fc_sc c, fm_sc (by omega)]; exact v31 j c
          · rcases Nat.lt_or_ge j 9 with c9 | c9
            · have hh : j = 5 ∨ j = 6 ∨ j = 7 ∨ j = 8 := by omega
              rcases hh with rfl | rfl | rfl | rfl
              · rw [fc_5, fm_sc (by omega), zo 536 _ (by omega), g3]; exact (zc 37 0 (by omega)).trans c37
              · rw [fc_6, fm_sc (by omega), zo 536 _ (by omega), g1 536 _ (by omega) (by omega) (by omega) (by omega), q6]; exact (zc 30 5 (by omega)).trans c30
              · rw [o7, hw3 7 (by decide), fm_sc (by omega), fm_sc (by omega)]; exact (zn 536 7 (by omega) (by omega) (by omega) (by omega) (by omega)).symm
              · rw [o8, hw3 8 (by decide), fm_sc (by omega), fm_sc (by omega)]; exact (zn 536 8 (by omega) (by omega) (by omega) (by omega) (by omega)).symm
            · rcases Nat.lt_or_ge j 13 with c13 | c13
              · obtain ⟨q, rfl⟩ : ∃ q, j = 9 + q := ⟨j - 9, by omega⟩
                rw [fc_pl (by omega), fm_pl (by omega), zo 537 _ (by omega), (g4 q (by omega)).1]; exact (zc 38 q (by omega)).trans (c38 q (by omega))
              · obtain ⟨q, rfl⟩ : ∃ q, j = 13 + q := ⟨j - 13, by omega⟩
                rw [fc_go (by omega), fm_go (by omega), zo 538 _ (by omega), (g4 q (by omega)).2]; exact (zc 39 q (by omega)).trans (c39 q (by omega))
        · rw [fc_23, fm_23, z41]; exact (zc 41 2 (by omega)).trans c412
        · rw [fc_sc (by decide)]; exact Or.inr (((zc 31 0 (by omega)).trans (c31 0 (by decide))).trans e0)
        · rw [o8]; exact hw6
        · rw [o7]; exact hw7
        · show fc mz 30 (9 + q) = nI 0
          rw [fc_pl (by omega)]; exact (zc 38 q (by omega)).trans (c38 q (by omega))
        · show fc mz 30 (17 + t) = fm mz (17 + t)
          rw [fc_wh (by omega), fm_wh (by omega), zo 539 _ (by omega), g5 t (by omega), q547 t (by omega)]
          exact ((zc 40 t (by omega)).trans (c40 t (by omega))).trans ((xd t ht).2.2.trans (yd t ht).2.2.symm)
        · show fc mz 30 (17 + t) = -1
          rw [fc_wh h2]
          exact ((zc 40 t (by omega)).trans (c40 t h2)).trans (n3 t h1 h2)
        · rw [fc_fu (by omega), fm_fu (by omega), zo 540 _ (by omega), g1 _ _ (by omega) (by omega) (by omega) (by omega), q540 j (by omega)]
          exact ((zc 32 j (by omega)).trans (c32 j (by omega))).trans ((xf j hj).trans (yf j hj).symm)
        · have a1 : fc mz 30 (32 + j) = nI (s2.2.2.2.2 1 j) := by rw [fc_pa (by omega)]; exact ((zc 33 j (by omega)).trans (c33 j (by omega))).trans (xc j hj)
          refine ⟨a1.trans ?_, _, (B5 j hj).1, (B5 j hj).2, a1⟩
          rw [fm_pa (by omega), zo 541 _ (by omega), g1 _ _ (by omega) (by omega) (by omega) (by omega), q541 j (by omega)]
          exact (yc j hj).symm
        · rw [fc_we (by omega), fm_we (by omega), zo 542 _ (by omega), g1 _ _ (by omega) (by omega) (by omega) (by omega), q542 j (by omega)]
          exact ((zc 34 j (by omega)).trans (c34 j (by omega))).trans ((xd j hj).1.trans (yd j hj).1.symm)
        · have a1 : fc mz 30 (42 + j) = nI (s2.2.2.2.2 3 j) := by rw [fc_wo (by omega)]; exact ((zc 35 j (by omega)).trans (c35 j (by omega))).trans (xd j hj).2.1
          refine ⟨a1.trans ?_, _, (B6 j hj).1, a1⟩
          rw [fm_wo (by omega), zo 543 _ (by omega), g1 _ _ (by omega) (by omega) (by omega) (by omega), q543 j (by omega)]
          exact (yd j hj).2.1.symm
        · show fc mz 30 (78 + t) = fm mz (78 + t)
          rw [fc_tw (by omega), fm_tw (by omega), zo 547 _ (by omega), g1 _ _ (by omega) (by omega) (by omega) (by omega), q547 t (by omega)]
          exact ((zc 36 t (by omega)).trans (c36 t (by omega))).trans ((xd t ht).2.2.trans (yd t ht).2.2.symm)
        · show fc mz 30 (78 + t) = -1
          rw [fc_tw h2]
          exact ((zc 36 t (by omega)).trans (c36 t h2)).trans (n3 t h1 h2)
      · intro i hi ih m8 e8 R8
        have hlt : ¬ (5 : Int32) ≤ nI i := nI_ge (a := i) (b := 5) hi (by decide)
        refine bX12_road_21 (hW.sm R8) (fun z => absurd z hlt) (fun _ => vp_in_nI hi (by decide)) (fun _ => vp_in_nI (by omega) (by decide)) (fun _ => ?_)
        rw [nI_1, nI_clamp (by omega)]
        refine ih _ (fun a k => ?_) R8
        rw [mI_uI, e8, e8]
        by_cases c : a = 536 ∧ k = i
        · rw [if_pos c, if_neg (by omega), if_pos (by omega), c.2]
        · rw [if_neg c]
          by_cases d : a = 536 ∧ k < i
          · rw [if_pos d, if_pos (by omega)]
          · rw [if_neg d, if_neg (by omega)]
    exact main 0 (Nat.zero_le _) m7 (fun a k => by rw [if_neg (by omega)]) (fun x y => (t7.2 x y).trans (R6 x y))
  · refine bX11_road_7 h3.1 (fun z => absurd rfl z) (fun _ => ?_)
    rw [h3.2.1]
    have hW4 : Wf (uI m3 1 1 (0 : Int32)) := h3.1.sm (fun _ _ => rfl)
    have cM : ∀ a k, a ≠ 1 → ¬ (4 ≤ a ∧ a ≤ 9) → mI (uI m3 1 1 (0 : Int32)) a k = mI m a k := fun a k z1 z2 => by rw [mI_uI, if_neg (by omega)]; exact t3.1 a k (by omega)
    refine K _ _ hW4 (fun Q2 h2 => ?_)
    have tm4 : TpM (uI m3 1 1 (0 : Int32)) B L := ⟨tm.1, (cM _ _ (by omega) (by omega)).trans tm.2.1, fun j hj => ⟨(tm.2.2 j hj).1, (cM _ _ (by omega) (by omega)).trans (tm.2.2 j hj).2⟩⟩
    refine pCl_of (by decide +kernel) (Nat.le_of_ble_eq_true rfl) rfl (bX12_road_0 hW4 (s_readsAll hW4 tm4 (fun s3 e3 => absurd (e.symm.trans e3) (fun z => by cases z)) (fun f2 e3 hf0 hf1 m5 hW5 e21 e19 t5 => ?_)))
    have eff : f2 = f := by have := e.symm.trans e3; cases this; rfl
    subst eff
    refine bX12_road_4 hW5 (fun z => ?_) (fun _ => ?_)
    · rw [e21] at z
      exact absurd z (nI_nle hf0 (by omega))
    · rw [e21]
      refine h2 m5 (Inv_tape hI (fun x y => (t5.2 x y).trans (t3.2 x y)) (fun a k z1 z2 z3 z4 z5 => ?_) ⟨0, by decide, ?_, e19, fun j hj => absurd hj (Nat.not_lt_zero _)⟩)
      · have y1 := t5.1 a k (by unfold Scr at z1; unfold Ea; omega)
        rw [y1, mI_uI, if_neg (by omega)]
        exact t3.1 a k (by unfold Scr at z1; omega)
      · rw [t5.1 _ _ (by unfold Ea; omega), mI_uI, if_pos ⟨rfl, rfl⟩]; rfl
end T44
