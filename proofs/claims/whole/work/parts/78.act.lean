/-! ===== after an act ===== -/
def PsOk (m : pMem) (P Sg T M : Nat) : Prop := ∀ i, i < M → (∀ j, j < 9 → fcP m 30 i j = mI m 564 (15 * i + j)) ∧ AgW T (fun t => fcP m 30 i (9 + t)) (fun t => mI m 564 (15 * i + (9 + t))) ∧ plOk (fun q => fcP m 30 i (1 + q)) P Sg ∧ ∃ e, e ≤ 999 ∧ fcP m 30 i 0 = nI e
theorem ps_of {m : pMem} {nr P Sg T N M d : Nat} (h : WeqN nr (fc m 30) (fm m) P Sg T N M d) : PsOk m P Sg T M := by
  obtain ⟨⟨b1, b2, b3, b4, b5, b6⟩, -, -, -, -, -, -, -, -, -, -, -, -, -, e5⟩ := h
  intro i hi
  obtain ⟨k1, k2, k3, k4⟩ := e5 i hi
  have g : ∀ j, j < 15 → fc m 30 (84 + 15 * i + j) = fcP m 30 i j := fun j hj => fc_ps hj
  have gm : ∀ j, j < 15 → fm m (84 + 15 * i + j) = mI m 564 (15 * i + j) := fun j hj => fm_ps (by omega) hj
  refine ⟨fun j hj => ?_, ⟨fun t ht => ?_, fun t ht h6 => ?_⟩, fun q hq => ?_, ?_⟩
  · rw [← g j (by omega), ← gm j (by omega)]; exact k1 j hj
  · have := k2.1 t ht
    simp only [Nat.add_assoc (84 + 15 * i)] at this
    rw [g _ (by omega), gm _ (by omega)] at this
    exact this
  · have := k2.2 t ht h6
    simp only [Nat.add_assoc (84 + 15 * i)] at this
    rw [g _ (by omega)] at this
    exact this
  · obtain ⟨p, hp, ep⟩ := k3 q hq
    simp only [Nat.add_assoc (84 + 15 * i)] at ep
    rw [g _ (by omega)] at ep
    exact ⟨p, hp, ep⟩
  · have g0 := g 0 (by omega)
    rw [Nat.add_zero] at g0
    rw [← g0]; exact k4
theorem act_ok {m m2 : pMem} {nr P Sg T N M d d2 M2 : Nat} (h1 : ConI m) (h2 : TapeI m) (h3 : RulesI m nr) (h4 : ImgI m nr) (hW : Wf m) (hw : WeqN nr (fc m 30) (fm m) P Sg T N M d)
    (hR : ∀ x y, mR m2 x y = mR m x y)
    (fr : ∀ a k, ¬ Scr a k → ¬ (37 ≤ a ∧ a ≤ 122) → ¬ (a = 535 ∧ k = 41) → ¬ (a = 536 ∧ k = 5) → ¬ (537 ≤ a ∧ a ≤ 539) → a ≠ 564 → mI m2 a k = mI m a k)
    (hst : AgT T (cSt m2 37) (mSt m2)) (hpl : plOk (mI m2 38) P Sg) (hd : d2 ≤ 999) (ed : mI m2 37 0 = nI d2)
    (hf : FirstI m2 30) (hM2 : M2 ≤ 20) (e1 : mI m2 41 2 = nI M2) (e2 : mI m2 535 41 = nI M2) (hps : PsOk m2 P Sg T M2) : Inv m2 := by
  have fr1 : ∀ a k, ¬ Scr a k → (a ≤ 36 ∨ 123 ≤ a) → (a ≤ 534 ∨ (a = 535 ∧ k ≠ 41) ∨ (540 ≤ a ∧ a ≠ 564)) → mI m2 a k = mI m a k := fun a k z1 z2 z3 => fr a k z1 (by omega) (by omega) (by omega) (by omega) (by omega)
  refine ⟨hW.sm hR, ConI_c (fr1 _ _ (by unfold Scr; omega) (by omega) (by omega)) (fun k => fr1 _ _ (by unfold Scr; omega) (by omega) (by omega)) h1, TapeI_c (fr1 _ _ (by unfold Scr; omega) (by omega) (by omega)) (fr1 _ _ (by unfold Scr; omega) (by omega) (by omega)) (fun k => fr1 _ _ (by unfold Scr; omega) (by omega) (by omega)) (fun k => fr1 _ _ (by unfold Scr; omega) (by omega) (by omega)) h2, nr,
    RulesI_c (fr1 _ _ (by unfold Scr; omega) (by omega) (by omega)) (fr1 _ _ (by unfold Scr; omega) (by omega) (by omega)) (fun a k z1 z2 z3 => fr1 _ _ (by unfold Scr; omega) (by omega) (by omega)) (fun a k z1 z2 => fr1 _ _ (by unfold Scr; omega) (by omega) (by omega)) h3,
    ImgI_c (fun k => fr1 _ _ (by unfold Scr; omega) (by omega) (by omega)) (fun k => fr1 _ _ (by unfold Scr; omega) (by omega) (by omega)) (fun a k z1 z2 => fr1 _ _ (by unfold Scr; omega) (by omega) (by omega)) (fun k z => fr1 _ _ (by unfold Scr; omega) (by omega) (by omega)) h4, hf, P, Sg, T, N, M2, d2, ?_⟩
  obtain ⟨⟨b1, b2, b3, b4, b5, b6⟩, ⟨c1, c2, c3, c4, c5, c6⟩, ⟨d1, d2'⟩, d3, d4, d5, d6, d7, d8, d9, a1, a2, a3, a4, a5⟩ := hw
  have cc : ∀ b k, (b ≤ 6 ∨ 93 ≤ b) → b ≤ 95 → mI m2 (30 + b) k = mI m (30 + b) k := fun b k z1 z2 => fr1 _ _ (by unfold Scr; omega) (by omega) (by omega)
  have c0 : ∀ k, mI m2 30 k = mI m 30 k := fun k => cc 0 k (by omega) (by omega)
  have mm : ∀ r k, 540 ≤ r → r ≤ 547 → mI m2 r k = mI m r k := fun r k z1 z2 => fr1 _ _ (by unfold Scr; omega) (by omega) (by omega)
  have ms : ∀ j, j < 9 → j ≠ 5 → mI m2 536 j = mI m 536 j := fun j hj h5 => fr _ _ (by unfold Scr; omega) (by omega) (by omega) (by omega) (by omega) (by omega)
  obtain ⟨s1, s2, s3, s4⟩ := hst
  refine ⟨⟨b1, b2, b3, b4, hM2, hd⟩, ⟨(cc 1 2 (by omega) (by omega)).trans c1, (cc 1 3 (by omega) (by omega)).trans c2, (cc 1 4 (by omega) (by omega)).trans c3, ed, (c0 5).trans c5, e1⟩, ⟨fun j hj => ?_, e1.trans e2.symm⟩, ?_, ?_, ?_, fun q hq => ?_, ⟨fun t ht => ?_, fun t ht h6 => ?_⟩, fun j hj => ?_, fun j hj => ?_, fun j hj => ?_, fun j hj => ?_, fun j hj => ?_, ⟨fun t ht => ?_, fun t ht h6 => ?_⟩, fun i hi => ?_⟩
  · by_cases e : j < 9
    · by_cases e5 : j = 5
      · subst e5; exact s1
      · have := d1 j hj
        rw [fm_sc e, ms j e e5, ← fm_sc (m := m) e, ← this]
        by_cases e6 : j < 5
        · rw [fc_sc e6, fc_sc e6]; exact cc 1 j (by omega) (by omega)
        · have : j = 6 ∨ j = 7 ∨ j = 8 := by omega
          rcases this with rfl | rfl | rfl
          · exact c0 5
          · exact c0 4
          · exact c0 3
    · by_cases e2 : j < 13
      · obtain ⟨q, rfl⟩ : ∃ q, j = 9 + q := ⟨j - 9, by omega⟩
        rw [fc_pl (by omega), fm_pl (by omega)]; exact s2 q (by omega)
      · obtain ⟨q, rfl⟩ : ∃ q, j = 13 + q := ⟨j - 13, by omega⟩
        rw [fc_go (by omega), fm_go (by omega)]; exact s3 q (by omega)
  · have e : fc m2 30 0 = fc m 30 0 := cc 1 0 (by omega) (by omega)
    rw [e]; exact d3
  · have e : fc m2 30 8 = fc m 30 8 := c0 3
    rw [e]; exact d4
  · have e : fc m2 30 7 = fc m 30 7 := c0 4
    rw [e]; exact d5
  · show ∃ p, p ≤ Sg ∧ fc m2 30 (9 + q) = nI p
    rw [fc_pl (by omega)]; exact hpl q hq
  · show fc m2 30 (17 + t) = fm m2 (17 + t)
    rw [fc_wh (by omega), fm_wh (by omega)]; exact s4.1 t ht
  · show fc m2 30 (17 + t) = -1
    rw [fc_wh (by omega)]; exact s4.2 t ht h6
  · have := d8 j hj
    rw [fc_fu (by omega), fm_fu (by omega)] at this ⊢
    rw [cc 2 j (by omega) (by omega), mm 540 j (by omega) (by omega)]; exact this
  · have := d9 j hj
    rw [fc_pa (by omega), fm_pa (by omega)] at this ⊢
    rw [cc 3 j (by omega) (by omega), mm 541 j (by omega) (by omega)]; exact this
  · have := a1 j hj
    rw [fc_we (by omega), fm_we (by omega)] at this ⊢
    rw [cc 4 j (by omega) (by omega), mm 542 j (by omega) (by omega)]; exact this
  · have := a2 j hj
    rw [fc_wo (by omega), fm_wo (by omega)] at this ⊢
    rw [cc 5 j (by omega) (by omega), mm 543 j (by omega) (by omega)]; exact this
  · have := a3 j hj
    rw [fc_nd (by omega), fm_nd (by omega), fc_nw (by omega), fm_nw (by omega), fc_np (by omega), fm_np (by omega)] at this ⊢
    rw [cc 93 j (by omega) (by omega), mm 544 j (by omega) (by omega), cc 94 j (by omega) (by omega), mm 545 j (by omega) (by omega), cc 95 j (by omega) (by omega), mm 546 j (by omega) (by omega)]; exact this
  · have : fc m 30 (78 + t) = fm m (78 + t) := a4.1 t ht
    show fc m2 30 (78 + t) = fm m2 (78 + t)
    rw [fc_tw (by omega), fm_tw (by omega)] at this ⊢
    rw [cc 6 t (by omega) (by omega), mm 547 t (by omega) (by omega)]; exact this
  · have : fc m 30 (78 + t) = -1 := a4.2 t ht h6
    show fc m2 30 (78 + t) = -1
    rw [fc_tw (by omega)] at this ⊢
    rw [cc 6 t (by omega) (by omega)]; exact this
  · obtain ⟨k1, k2, k3, k4⟩ := hps i hi
    have g : ∀ j, j < 15 → fc m2 30 (84 + 15 * i + j) = fcP m2 30 i j := fun j hj => fc_ps hj
    have gm : ∀ j, j < 15 → fm m2 (84 + 15 * i + j) = mI m2 564 (15 * i + j) := fun j hj => fm_ps (by omega) hj
    refine ⟨fun j hj => ?_, ⟨fun t ht => ?_, fun t ht h6 => ?_⟩, fun q hq => ?_, ?_⟩
    · show fc m2 30 (84 + 15 * i + j) = fm m2 (84 + 15 * i + j)
      rw [g j (by omega), gm j (by omega)]; exact k1 j hj
    · show fc m2 30 (84 + 15 * i + 9 + t) = fm m2 (84 + 15 * i + 9 + t)
      rw [Nat.add_assoc (84 + 15 * i), g _ (by omega), gm _ (by omega)]; exact k2.1 t ht
    · show fc m2 30 (84 + 15 * i + 9 + t) = -1
      rw [Nat.add_assoc (84 + 15 * i), g _ (by omega)]; exact k2.2 t ht h6
    · obtain ⟨p, hp, ep⟩ := k3 q hq
      refine ⟨p, hp, ?_⟩
      show fc m2 30 (84 + 15 * i + 1 + q) = nI p
      rw [Nat.add_assoc (84 + 15 * i), g _ (by omega)]; exact ep
    · have g0 := g 0 (by omega)
      rw [Nat.add_zero] at g0
      rw [g0]; exact k4
/-- the states now, as rows of the past -/
theorem now_ps {m : pMem} {nr P Sg T N M d : Nat} (hv : Vw m nr P Sg T N M d) : (∀ j, j < 9 → cst m 37 j = pst m j) ∧ AgW T (fun t => cst m 37 (9 + t)) (fun t => pst m (9 + t)) ∧ plOk (fun q => cst m 37 (1 + q)) P Sg ∧ ∃ e, e ≤ 999 ∧ cst m 37 0 = nI e := by
  obtain ⟨⟨⟨_, h4, _, _, _, h6⟩, _, _, ⟨s1, s2, s3, s4⟩, hpl⟩, ⟨_, _, ed, _⟩, ⟨_, _, hd⟩, _⟩ := hv
  refine ⟨fun j hj => ?_, ⟨fun t ht => ?_, fun t ht h6' => ?_⟩, fun q hq => ?_, d, hd, ed⟩
  · rcases lt9 hj with rfl | ⟨q, hq, rfl⟩ | ⟨q, hq, rfl⟩
    · exact s1
    · rw [cst_pl hq, pst_pl hq]; exact s2 q hq
    · rw [cst_go hq, pst_go hq]; exact s3 q hq
  · show cst m 37 (9 + t) = pst m (9 + t)
    rw [cst_wh, pst_wh (by omega)]; exact s4.1 t ht
  · show cst m 37 (9 + t) = -1
    rw [cst_wh]; exact s4.2 t ht h6'
  · show ∃ p, p ≤ Sg ∧ cst m 37 (1 + q) = nI p
    rw [cst_pl (by omega)]; exact hpl q hq
theorem act_ps {m mc mk m1 m2 : pMem} {nr P Sg T N M d f : Nat} (hw : WeqN nr (fc m 30) (fm m) P Sg T N M d) (hf : f < 20) (kc : KeptC m f M mc) (km : Kept m1 M mk) (hm1 : ∀ x y, (536 ≤ x ∧ x ≤ 539) ∨ x = 564 → mI m1 x y = mI m x y)
    (e1 : ∀ x y, (41 ≤ x ∧ x ≤ 122) → mI m2 x y = mI mc x y) (e2 : ∀ y, mI m2 564 y = mI mk 564 y) (e3 : mI m2 535 41 = mI mk 535 41) :
    ∃ M2, M2 ≤ 20 ∧ mI m2 41 2 = nI M2 ∧ mI m2 535 41 = nI M2 ∧ FirstI m2 30 ∧ PsOk m2 P Sg T M2 := by
  have hp := ps_of hw
  obtain ⟨n1, n2, n3, n4⟩ := now_ps (vw_of hw)
  have T6 : T ≤ 6 := hw.1.2.2.1
  have P4 : P ≤ 4 := hw.1.1
  have fe : ∀ i j, fcP m2 30 i j = fcP mc 30 i j := fun i j => fcP_c (fun b k z1 z2 => e1 _ _ (by omega))
  have pe : ∀ j, j < 15 → pst m1 j = pst m j := by
    intro j hj
    unfold pst
    refine hm1 _ _ ?_
    have : ∀ j, j < 15 → (536 ≤ (layP j).1 ∧ (layP j).1 ≤ 539) ∨ (layP j).1 = 564 := by decide +kernel
    exact this j hj
  obtain ⟨-, -, kc⟩ := kc
  obtain ⟨-, -, km⟩ := km
  rcases kc with ⟨hM, c2, c1, cp⟩ | ⟨hM, c2, c1, cp⟩
  · rcases km with ⟨_, k2, kp⟩ | ⟨hM2, _⟩
    · refine ⟨M + 1, by omega, (e1 41 2 (by omega)).trans c2, e3.trans k2, ⟨f, hf, (e1 41 1 (by omega)).trans c1⟩, fun i hi => ?_⟩
      by_cases e : i = M
      · have a : ∀ j, j < 15 → fcP m2 30 i j = cst m 37 j := fun j hj => by rw [fe, cp i j (by omega) hj, if_pos e]
        have b : ∀ j, j < 15 → mI m2 564 (15 * i + j) = pst m j := fun j hj => by rw [e2, kp i j (by omega) hj, if_pos e, pe j hj]
        refine ⟨fun j hj => by rw [a j (by omega), b j (by omega)]; exact n1 j hj, ⟨fun t ht => ?_, fun t ht h6 => ?_⟩, fun q hq => ?_, by rw [a 0 (by omega)]; exact n4⟩
        · show fcP m2 30 i (9 + t) = mI m2 564 (15 * i + (9 + t))
          rw [a _ (by omega), b _ (by omega)]; exact n2.1 t ht
        · show fcP m2 30 i (9 + t) = -1
          rw [a _ (by omega)]; exact n2.2 t ht h6
        · show ∃ p, p ≤ Sg ∧ fcP m2 30 i (1 + q) = nI p
          rw [a _ (by omega)]; exact n3 q hq
      · have a : ∀ j, j < 15 → fcP m2 30 i j = fcP m 30 i j := fun j hj => by rw [fe, cp i j (by omega) hj, if_neg e]
        have b : ∀ j, j < 15 → mI m2 564 (15 * i + j) = mI m 564 (15 * i + j) := fun j hj => by rw [e2, kp i j (by omega) hj, if_neg e, hm1 _ _ (Or.inr rfl)]
        obtain ⟨p1, p2, p3, p4⟩ := hp i (by omega)
        refine ⟨fun j hj => by rw [a j (by omega), b j (by omega)]; exact p1 j hj, ⟨fun t ht => ?_, fun t ht h6 => ?_⟩, fun q hq => ?_, by rw [a 0 (by omega)]; exact p4⟩
        · show fcP m2 30 i (9 + t) = mI m2 564 (15 * i + (9 + t))
          rw [a _ (by omega), b _ (by omega)]; exact p2.1 t ht
        · show fcP m2 30 i (9 + t) = -1
          rw [a _ (by omega)]; exact p2.2 t ht h6
        · show ∃ p, p ≤ Sg ∧ fcP m2 30 i (1 + q) = nI p
          rw [a _ (by omega)]; exact p3 q hq
    · omega
  · rcases km with ⟨hM2, _⟩ | ⟨_, k2, kp⟩
    · omega
    · refine ⟨20, by omega, (e1 41 2 (by omega)).trans c2, e3.trans k2, ⟨(f + 1) % 20, Nat.mod_lt _ (by decide), (e1 41 1 (by omega)).trans c1⟩, fun i hi => ?_⟩
      by_cases e : i = 19
      · have a : ∀ j, j < 15 → fcP m2 30 i j = cst m 37 j := fun j hj => by rw [fe, cp i j (by omega) hj, if_pos e]
        have b : ∀ j, j < 15 → mI m2 564 (15 * i + j) = pst m j := fun j hj => by rw [e2, kp i j (by omega) hj, if_pos e, pe j hj]
        refine ⟨fun j hj => by rw [a j (by omega), b j (by omega)]; exact n1 j hj, ⟨fun t ht => ?_, fun t ht h6 => ?_⟩, fun q hq => ?_, by rw [a 0 (by omega)]; exact n4⟩
        · show fcP m2 30 i (9 + t) = mI m2 564 (15 * i + (9 + t))
          rw [a _ (by omega), b _ (by omega)]; exact n2.1 t ht
        · show fcP m2 30 i (9 + t) = -1
          rw [a _ (by omega)]; exact n2.2 t ht h6
        · show ∃ p, p ≤ Sg ∧ fcP m2 30 i (1 + q) = nI p
          rw [a _ (by omega)]; exact n3 q hq
      · have a : ∀ j, j < 15 → fcP m2 30 i j = fcP m 30 (i + 1) j := fun j hj => by rw [fe, cp i j (by omega) hj, if_neg e]
        have b : ∀ j, j < 15 → mI m2 564 (15 * i + j) = mI m 564 (15 * (i + 1) + j) := fun j hj => by rw [e2, kp i j (by omega) hj, if_neg e, hm1 _ _ (Or.inr rfl)]
        obtain ⟨p1, p2, p3, p4⟩ := hp (i + 1) (by omega)
        refine ⟨fun j hj => by rw [a j (by omega), b j (by omega)]; exact p1 j hj, ⟨fun t ht => ?_, fun t ht h6 => ?_⟩, fun q hq => ?_, by rw [a 0 (by omega)]; exact p4⟩
        · show fcP m2 30 i (9 + t) = mI m2 564 (15 * i + (9 + t))
          rw [a _ (by omega), b _ (by omega)]; exact p2.1 t ht
        · show fcP m2 30 i (9 + t) = -1
          rw [a _ (by omega)]; exact p2.2 t ht h6
        · show ∃ p, p ≤ Sg ∧ fcP m2 30 i (1 + q) = nI p
          rw [a _ (by omega)]; exact p3 q hq
