/-! ===== images made and gone back to ===== -/
theorem lay384 : ∀ j, j < 384 → (536 ≤ (layR j).1 ∧ (layR j).1 ≤ 547) ∨ (layR j).1 = 564 ∨ (layR j).1 = 565 := by decide +kernel
section T28
variable {X : pX} {Q : Option Value → pMem → Prop} {m : pMem}
theorem s_wCopy {a b : Nat} (hW : Wf m) (c0 : SH[a]? = some (.inl 10)) (c1 : SH[b]? = some (.inl 10)) (hab : a + 95 < b ∨ b + 95 < a) (h01 : mI m (b + 1) 0 = 0 ∨ mI m (b + 1) 0 = 1)
    (h : ∀ m2, (∀ x y, ¬ (a ≤ x ∧ x ≤ a + 95) → mI m2 x y = mI m x y) → (∀ x y, mR m2 x y = mR m x y) → mI m2 (a + 11) 1 = mI m (b + 11) 1 → (∀ j, j < 384 → fc m2 a j = fc m b j) → Q none m2) : Cl X 3 mX10_copy [.ref a, .ref b] m Q := by
  refine pCl_of (by decide +kernel) (Nat.le_of_ble_eq_true rfl) rfl (bX10_copy_0 hW c0 c1 h01 ?_)
  obtain ⟨m1, hm1⟩ : ∃ m1, m1 = cpS (cpR m (a + 1) (b + 1)) (a + 7) (b + 7) := ⟨_, rfl⟩
  have R1 : ∀ x y, mR m1 x y = mR m x y := fun x y => by rw [hm1]; rfl
  rw [← hm1]
  -- what m1 holds
  have o1 : ∀ x y, ¬ (a + 1 ≤ x ∧ x ≤ a + 10) → mI m1 x y = mI m x y := fun x y hx => by
    rw [hm1, mI_cpS (by omega), if_neg (by omega), if_neg (by omega), if_neg (by omega), if_neg (by omega), mI_cpR (by omega), if_neg (by omega), if_neg (by omega), if_neg (by omega), if_neg (by omega), if_neg (by omega), if_neg (by omega)]
  have cR : ∀ x y, a + 1 ≤ x → x ≤ a + 6 → mI m1 x y = mI (cpR m (a + 1) (b + 1)) x y := fun x y h1 h2 => by
    rw [hm1, mI_cpS (by omega), if_neg (by omega), if_neg (by omega), if_neg (by omega), if_neg (by omega)]
  have r0 : ∀ y, y < 5 → mI m1 (a + 1) y = mI m (b + 1) y := fun y hy => by rw [cR _ _ (by omega) (by omega), mI_cpR (by omega), if_pos (by omega)]
  have r1 : ∀ y, y < 8 → mI m1 (a + 1 + 1) y = mI m (b + 1 + 1) y := fun y hy => by rw [cR _ _ (by omega) (by omega), mI_cpR (by omega), if_neg (by omega), if_pos (by omega)]
  have r2 : ∀ y, y < 4 → mI m1 (a + 1 + 2) y = mI m (b + 1 + 2) y := fun y hy => by rw [cR _ _ (by omega) (by omega), mI_cpR (by omega), if_neg (by omega), if_neg (by omega), if_pos (by omega)]
  have r3 : ∀ y, y < 6 → mI m1 (a + 1 + 3) y = mI m (b + 1 + 3) y := fun y hy => by rw [cR _ _ (by omega) (by omega), mI_cpR (by omega), if_neg (by omega), if_neg (by omega), if_neg (by omega), if_pos (by omega)]
  have r4 : ∀ y, y < 6 → mI m1 (a + 1 + 4) y = mI m (b + 1 + 4) y := fun y hy => by rw [cR _ _ (by omega) (by omega), mI_cpR (by omega), if_neg (by omega), if_neg (by omega), if_neg (by omega), if_neg (by omega), if_pos (by omega)]
  have r5 : ∀ y, y < 6 → mI m1 (a + 1 + 5) y = mI m (b + 1 + 5) y := fun y hy => by rw [cR _ _ (by omega) (by omega), mI_cpR (by omega), if_neg (by omega), if_neg (by omega), if_neg (by omega), if_neg (by omega), if_neg (by omega), if_pos (by omega)]
  have oR : ∀ x y, ¬ (a + 1 ≤ x ∧ x ≤ a + 6) → mI (cpR m (a + 1) (b + 1)) x y = mI m x y := fun x y hx => by
    rw [mI_cpR (by omega), if_neg (by omega), if_neg (by omega), if_neg (by omega), if_neg (by omega), if_neg (by omega), if_neg (by omega)]
  have t0 : mI m1 (a + 7) 0 = mI m (b + 7) 0 := by rw [hm1, mI_cpS (by omega), if_pos (by omega), oR _ _ (by omega)]
  have t1 : ∀ y, y < 4 → mI m1 (a + 7 + 1) y = mI m (b + 7 + 1) y := fun y hy => by rw [hm1, mI_cpS (by omega), if_neg (by omega), if_pos (by omega), oR _ _ (by omega)]
  have t2 : ∀ y, y < 4 → mI m1 (a + 7 + 2) y = mI m (b + 7 + 2) y := fun y hy => by rw [hm1, mI_cpS (by omega), if_neg (by omega), if_neg (by omega), if_pos (by omega), oR _ _ (by omega)]
  have t3 : ∀ y, y < 6 → mI m1 (a + 7 + 3) y = mI m (b + 7 + 3) y := fun y hy => by rw [hm1, mI_cpS (by omega), if_neg (by omega), if_neg (by omega), if_neg (by omega), if_pos (by omega), oR _ _ (by omega)]
  refine s_pastCopy (a := a + 11) (b := b + 11) (hW.sm R1) (s10_2 c0) (s10_2 c1) (by omega) (fun m2 k1 k2 k3 k4 k5 => ?_)
  refine bX10_copy_33 (hW.sm (fun x y => (k2 x y).trans (R1 x y))) c0 c1 ?_
  obtain ⟨m3, hm3⟩ : ∃ m3, m3 = uC (uC (uC (uI (uI (uI m2 a 3 (mI m2 b 3)) a 4 (mI (uI m2 a 3 (mI m2 b 3)) b 4)) a 5 (mI (uI (uI m2 a 3 (mI m2 b 3)) a 4 (mI (uI m2 a 3 (mI m2 b 3)) b 4)) b 5)) (b + 93) 0 (a + 93) 0 10) (b + 94) 0 (a + 94) 0 10) (b + 95) 0 (a + 95) 0 10 := ⟨_, rfl⟩
  rw [← hm3]
  have o2 : ∀ x y, ¬ (a + 11 ≤ x ∧ x ≤ a + 92) → mI m2 x y = mI m1 x y := fun x y hx => k1 x y (by omega)
  have o3 : ∀ x y, x ≠ a → x ≠ a + 93 → x ≠ a + 94 → x ≠ a + 95 → mI m3 x y = mI m2 x y := fun x y z1 z2 z3 z4 => by
    rw [hm3, mI_uC', if_neg (by omega), mI_uC', if_neg (by omega), mI_uC', if_neg (by omega), mI_uI, if_neg (by omega), mI_uI, if_neg (by omega), mI_uI, if_neg (by omega)]
  have e3 : mI m3 a 3 = mI m b 3 := by
    rw [hm3, mI_uC', if_neg (by omega), mI_uC', if_neg (by omega), mI_uC', if_neg (by omega), mI_uI, if_neg (by omega), mI_uI, if_neg (by omega), mI_uI, if_pos (by omega), o2 _ _ (by omega), o1 _ _ (by omega)]
  have e4 : mI m3 a 4 = mI m b 4 := by
    rw [hm3, mI_uC', if_neg (by omega), mI_uC', if_neg (by omega), mI_uC', if_neg (by omega), mI_uI, if_neg (by omega), mI_uI, if_pos (by omega), mI_uI, if_neg (by omega), o2 _ _ (by omega), o1 _ _ (by omega)]
  have e5 : mI m3 a 5 = mI m b 5 := by
    rw [hm3, mI_uC', if_neg (by omega), mI_uC', if_neg (by omega), mI_uC', if_neg (by omega), mI_uI, if_pos (by omega), mI_uI, if_neg (by omega), mI_uI, if_neg (by omega), o2 _ _ (by omega), o1 _ _ (by omega)]
  have e93 : ∀ y, y < 10 → mI m3 (a + 93) y = mI m (b + 93) y := fun y hy => by
    rw [hm3, mI_uC', if_neg (by omega), mI_uC', if_neg (by omega), mI_uC', if_pos (by omega), mI_uI, if_neg (by omega), mI_uI, if_neg (by omega), mI_uI, if_neg (by omega), o2 _ _ (by omega), o1 _ _ (by omega)]
  have e94 : ∀ y, y < 10 → mI m3 (a + 94) y = mI m (b + 94) y := fun y hy => by
    rw [hm3, mI_uC', if_neg (by omega), mI_uC', if_pos (by omega), mI_uC', if_neg (by omega), mI_uI, if_neg (by omega), mI_uI, if_neg (by omega), mI_uI, if_neg (by omega), o2 _ _ (by omega), o1 _ _ (by omega)]
  have e95 : ∀ y, y < 10 → mI m3 (a + 95) y = mI m (b + 95) y := fun y hy => by
    rw [hm3, mI_uC', if_pos (by omega), mI_uC', if_neg (by omega), mI_uC', if_neg (by omega), mI_uI, if_neg (by omega), mI_uI, if_neg (by omega), mI_uI, if_neg (by omega), o2 _ _ (by omega), o1 _ _ (by omega)]
  have lo : ∀ x y, a + 1 ≤ x → x ≤ a + 10 → mI m3 x y = mI m1 x y := fun x y z1 z2 => by rw [o3 _ _ (by omega) (by omega) (by omega) (by omega), o2 _ _ (by omega)]
  have f1 : mI m3 (a + 11) 1 = mI m (b + 11) 1 := by rw [o3 _ _ (by omega) (by omega) (by omega) (by omega), k3, o1 _ _ (by omega)]
  have f2 : mI m3 (a + 11) 2 = mI m (b + 11) 2 := by rw [o3 _ _ (by omega) (by omega) (by omega) (by omega), k4, o1 _ _ (by omega)]
  have ps : ∀ i j, j < 15 → fcP m3 a i j = fcP m b i j := fun i j hj => by
    rw [fcP_cst, fcP_cst, f1]
    obtain ⟨t, ht, et⟩ : ∃ t, t < 20 ∧ ((mI m (b + 11) 1).toNatClampNeg + i) % 20 = t := ⟨_, Nat.mod_lt _ (by decide), rfl⟩
    rw [et]
    have h1 : cst m3 (a + 13 + 4 * t) j = cst m2 (a + 13 + 4 * t) j := cst_c (fun u k hu => o3 _ _ (by omega) (by omega) (by omega) (by omega))
    have h2 : cst m2 (a + 11 + 2 + 4 * t) j = cst m1 (b + 11 + 2 + 4 * t) j := k5 t j ht hj
    have h3 : cst m1 (b + 13 + 4 * t) j = cst m (b + 13 + 4 * t) j := cst_c (fun u k hu => o1 _ _ (by omega))
    rw [h1, show a + 13 + 4 * t = a + 11 + 2 + 4 * t by omega, h2, show b + 11 + 2 + 4 * t = b + 13 + 4 * t by omega, h3]
  refine h m3 (fun x y hx => ?_) (fun x y => by rw [hm3]; exact (k2 x y).trans (R1 x y)) f1 (fun j hj => ?_)
  · rw [o3 _ _ (by omega) (by omega) (by omega) (by omega), o2 _ _ (by omega), o1 _ _ (by omega)]
  · unfold fc
    exact ite_c (fun z => (lo _ _ (by omega) (by omega)).trans (r0 _ (by omega))) (fun _ => ite_c (fun z => (lo _ _ (by omega) (by omega)).trans t0) (fun _ => ite_c (fun z => e5) (fun _ => ite_c (fun z => e4) (fun _ => ite_c (fun z => e3)
      (fun _ => ite_c (fun z => (lo _ _ (by omega) (by omega)).trans (t1 _ (by omega))) (fun _ => ite_c (fun z => (lo _ _ (by omega) (by omega)).trans (t2 _ (by omega))) (fun _ => ite_c (fun z => (lo _ _ (by omega) (by omega)).trans (t3 _ (by omega))) (fun _ => ite_c (fun z => f2)
      (fun _ => ite_c (fun z => (lo _ _ (by omega) (by omega)).trans (r1 _ (by omega))) (fun _ => ite_c (fun z => (lo _ _ (by omega) (by omega)).trans (r2 _ (by omega))) (fun _ => ite_c (fun z => (lo _ _ (by omega) (by omega)).trans (r3 _ (by omega))) (fun _ => ite_c (fun z => (lo _ _ (by omega) (by omega)).trans (r4 _ (by omega)))
      (fun _ => ite_c (fun z => e93 _ (by omega)) (fun _ => ite_c (fun z => e94 _ (by omega)) (fun _ => ite_c (fun z => e95 _ (by omega)) (fun _ => ite_c (fun z => (lo _ _ (by omega) (by omega)).trans (r5 _ (by omega))) (fun _ => ps _ _ (Nat.mod_lt _ (by decide)))))))))))))))))))
end T28
section T29
variable {X : pX}
theorem p_image {x : Int32} : Pair X 4 2 mX11_image mX12_image [.int x] := by
  intro m h Q K
  have hI := h
  obtain ⟨hW, hC, hT, nr, P, Sg, T, N, M, d, f, hr, hi, hf, hw, hv⟩ := Inv_open h
  obtain ⟨_, ⟨_, _, v3, v4, _⟩, _, v11, _⟩ := hv
  by_cases c : ∃ k, k ≤ 3 ∧ x = nI k
  · have x2 := (inI (a := 3) (by decide)).mpr c
    obtain ⟨k, hk, rfl⟩ := c
    have ek : (nI k).toNatClampNeg = k := nI_clamp (by omega)
    have vk : vp_in (nI k) 4 := vp_in_nI (by omega) (by decide)
    refine pCl_of (by decide +kernel) (Nat.le_of_ble_eq_true rfl) rfl (bX11_image_0 hW (fun z => absurd z x2.1) (fun _ _ => vk) (fun _ _ => ?_) (fun _ z => absurd (nI_lt (a := k) (b := 4) (by omega) (by decide)) z))
    rw [ek]
    refine s_wCopy (a := 127 + 96 * k) (b := 30) hW (shImages k (by omega)) sh30 (by omega) v11 (fun m1 w1 w2 w3 w4 => ?_)
    refine bX11_image_24 (hW.sm w2) vk ?_
    rw [ek]
    have d37 : mI m1 37 0 = nI d := (w1 _ _ (by omega)).trans v3
    rw [d37]
    have hW1 : Wf (uI m1 511 k 1) := hW.sm (fun x y => w2 x y)
    refine K _ _ hW1 (fun Q2 h2 => ?_)
    refine pCl_of (by decide +kernel) (Nat.le_of_ble_eq_true rfl) rfl (bX12_image_0 hW1 (fun _ => vk) (fun _ => ?_) (fun z => absurd x2 z))
    rw [ek]
    refine s_imageAll (k := k) (m := uI (uI m1 511 k 1) 571 k 1) (hW1.sm (fun _ _ => rfl)) (by omega) (fun m2 sv => ?_)
    obtain ⟨_, _, u3, u4, u5⟩ := sv
    have g : ∀ a y, a ≠ 570 → a ≠ 565 → ¬ (a = 535 ∧ (y = 54 ∨ y = 55)) → ¬ (a = 511 ∧ y = k) → ¬ (a = 571 ∧ y = k) → ¬ (127 + 96 * k ≤ a ∧ a ≤ 127 + 96 * k + 95) → mI m2 a y = mI m a y := fun a y z1 z2 z3 z4 z5 z6 => by
      rw [u3 a y z1 z2 z3, mI_uI, if_neg z5, mI_uI, if_neg z4]; exact w1 a y z6
    have gi : ∀ a y, a ≤ 510 → mI m2 a y = mI m1 a y := fun a y z1 => by rw [u3 a y (by omega) (by omega) (by omega), mI_uI, if_neg (by omega), mI_uI, if_neg (by omega)]
    have hR2 : ∀ x y, mR m2 x y = mR m x y := fun x y => (u5 x y).trans (w2 x y)
    refine bX12_image_27 (hW.sm hR2) ?_
    rw [g _ _ (by omega) (by omega) (by omega) (by omega) (by omega) (by omega), v4]
    refine h2 m2 ⟨hW.sm hR2, ConI_c (g _ _ (by omega) (by omega) (by omega) (by omega) (by omega) (by omega)) (fun y => g _ _ (by omega) (by omega) (by omega) (by omega) (by omega) (by omega)) hC, TapeI_c (g _ _ (by omega) (by omega) (by omega) (by omega) (by omega) (by omega)) (g _ _ (by omega) (by omega) (by omega) (by omega) (by omega) (by omega)) (fun y => g _ _ (by omega) (by omega) (by omega) (by omega) (by omega) (by omega)) (fun y => g _ _ (by omega) (by omega) (by omega) (by omega) (by omega) (by omega)) hT, nr, RulesI_c (g _ _ (by omega) (by omega) (by omega) (by omega) (by omega) (by omega)) (g _ _ (by omega) (by omega) (by omega) (by omega) (by omega) (by omega)) (fun a y z1 z2 z3 => g _ _ (by omega) (by omega) (by omega) (by omega) (by omega) (by omega)) (fun a y z1 z2 => g _ _ (by omega) (by omega) (by omega) (by omega) (by omega) (by omega)) hr, fun j hj => ?_, ⟨f, hf.1, (g _ _ (by omega) (by omega) (by omega) (by omega) (by omega) (by omega)).trans hf.2⟩, ?_⟩
    · have fm1 : ∀ i, i < 384 → fm (uI (uI m1 511 k 1) 571 k 1) i = fm m i := fun i hi2 => fm_c hi2 (fun a y z => by rw [mI_uI, if_neg (by omega), mI_uI, if_neg (by omega)]; exact w1 a y (by omega))
      by_cases e : j = k
      · subst e
        have y1 : mI m2 571 j = 1 := by rw [u3 _ _ (by omega) (by omega) (by omega), mI_uI, if_pos ⟨rfl, rfl⟩]
        have y2 : mI m2 511 j = 1 := by rw [u3 _ _ (by omega) (by omega) (by omega), mI_uI, if_neg (by omega), mI_uI, if_pos ⟨rfl, rfl⟩]
        refine ⟨y1.trans y2.symm, ⟨f, hf.1, ?_⟩, Or.inr ⟨y2, ?_⟩⟩
        · rw [gi _ _ (by omega), w3]; exact hf.2
        · refine Weq_c (u := fc m 30) (v := fm m) (fun i hi2 => ?_) (fun i hi2 => ?_) ⟨P, Sg, T, N, M, d, hw⟩
          · rw [fc_c (m := m1) (fun b y hb => gi _ _ (by omega))]; exact w4 i hi2
          · unfold fi
            rw [u4, if_pos (by omega), Nat.add_sub_cancel_left]; exact fm1 i hi2
      · obtain ⟨y1, ⟨f2, hf2, ef2⟩, y3⟩ := hi j hj
        have q1 : mI m2 571 j = mI m 571 j := g _ _ (by omega) (by omega) (by omega) (by omega) (by omega) (by omega)
        have q2 : mI m2 511 j = mI m 511 j := g _ _ (by omega) (by omega) (by omega) (by omega) (by omega) (by omega)
        refine ⟨by rw [q1, q2]; exact y1, ⟨f2, hf2, (g _ _ (by omega) (by omega) (by omega) (by omega) (by omega) (by omega)).trans ef2⟩, ?_⟩
        rw [q2]
        refine y3.imp id (fun z => ⟨z.1, Weq_c (fun i hi2 => fc_c (fun b y hb => g _ _ (by omega) (by omega) (by omega) (by omega) (by omega) (by omega))) (fun i hi2 => ?_) z.2⟩)
        unfold fi
        rw [u4, if_neg (by omega), mI_uI, if_neg (by omega), mI_uI, if_neg (by omega)]
        exact w1 _ _ (by omega)
    · refine Weq_c (fun i hi2 => fc_c (fun b y hb => g _ _ (by omega) (by omega) (by omega) (by omega) (by omega) (by omega))) (fun i hi2 => fm_c hi2 (fun a y z => g _ _ (by omega) (by omega) (by omega) (by omega) (by omega) (by omega))) ⟨P, Sg, T, N, M, d, hw⟩
  · have bad : Q (some (.int (-1))) m := K _ m hW (fun Q2 h2 => pCl_of (by decide +kernel) (Nat.le_of_ble_eq_true rfl) rfl (bX12_image_0 hW (fun z => absurd ((inI (a := 3) (by decide)).mp z) c) (fun z => absurd ((inI (a := 3) (by decide)).mp z) c) (fun _ => h2 m hI)))
    have lt4 : ¬ x < 0 → x < (4 : Int32) → ∃ k, k ≤ 3 ∧ x = nI k := fun z1 z2 => by
      obtain ⟨k, hk, rfl⟩ := nI_of z1
      have := nI_lt' (a := k) (b := 4) hk (by decide) z2
      exact ⟨k, by omega, rfl⟩
    exact pCl_of (by decide +kernel) (Nat.le_of_ble_eq_true rfl) rfl (bX11_image_0 hW (fun _ => bad) (fun z1 z2 => absurd (lt4 z1 z2) c) (fun z1 z2 => absurd (lt4 z1 z2) c) (fun _ _ => bad))
theorem p_back {x : Int32} : Pair X 4 2 mX11_back mX12_back [.int x] := by
  intro m h Q K
  have hI := h
  obtain ⟨hW, hC, hT, nr, P, Sg, T, N, M, d, f, hr, hi, hf, hw, hv⟩ := Inv_open h
  by_cases c : ∃ k, k ≤ 3 ∧ x = nI k
  · have x2 := (inI (a := 3) (by decide)).mpr c
    obtain ⟨k, hk, rfl⟩ := c
    have ek : (nI k).toNatClampNeg = k := nI_clamp (by omega)
    have vk : vp_in (nI k) 4 := vp_in_nI (by omega) (by decide)
    have nk : ¬ (4 : Int32) ≤ nI k := nI_ge (a := k) (b := 4) (by omega) (by decide)
    obtain ⟨y1, ⟨f2, hf2, ef2⟩, y3⟩ := hi k (by omega)
    by_cases made : mI m 511 k = 0
    · have bad : Q (some (.int (-1))) m := K _ m hW (fun Q2 h2 => pCl_of (by decide +kernel) (Nat.le_of_ble_eq_true rfl) rfl (bX12_back_0 hW (fun _ => vk) (fun _ z => absurd (by rw [ek, y1]; exact made) z) (fun _ _ => h2 m hI) (fun z => absurd x2 z)))
      exact pCl_of (by decide +kernel) (Nat.le_of_ble_eq_true rfl) rfl (bX11_back_0 hW (fun _ => bad) (fun _ _ => bad) (fun _ _ => vk) (fun _ _ _ => vk) (fun _ _ z => absurd (by rw [ek]; exact made) z) (fun _ _ _ => bad))
    · have wq : Weq nr (fc m (127 + 96 * k)) (fi m k) := (y3.resolve_left made).2
      obtain ⟨P2, Sg2, T2, N2, M2, d2, hw2⟩ := wq
      have b01 : mI m (127 + 96 * k + 1) 0 = 0 ∨ mI m (127 + 96 * k + 1) 0 = 1 := hw2.2.2.2.1
      have day : mI m (127 + 96 * k + 7) 0 = nI d2 := hw2.2.1.2.2.2.1
      have dayM : fi m k 5 = nI d2 := (hw2.2.2.1.1 5 (by omega)).symm.trans day
      refine pCl_of (by decide +kernel) (Nat.le_of_ble_eq_true rfl) rfl (bX11_back_0 hW (fun z => absurd z x2.1) (fun _ z => absurd z nk) (fun _ _ => vk) (fun _ _ _ => vk) (fun _ _ _ => ?_) (fun _ _ z => absurd (by rw [ek] at z; exact z) made))
      rw [ek]
      refine s_wCopy (a := 30) (b := 127 + 96 * k) hW sh30 (shImages k (by omega)) (by omega) b01 (fun m1 w1 w2 w3 w4 => ?_)
      have hW1 := hW.sm w2
      have e37 : mI m1 37 0 = nI d2 := (w4 5 (by omega)).trans day
      refine bX11_back_33 hW1 ?_
      rw [e37]
      refine K _ _ hW1 (fun Q2 h2 => ?_)
      refine pCl_of (by decide +kernel) (Nat.le_of_ble_eq_true rfl) rfl (bX12_back_0 hW1 (fun _ => vk) (fun _ _ => ?_) (fun _ z => absurd (by rw [ek, w1 _ _ (by omega), y1] at z; exact z) made) (fun z => absurd x2 z))
      refine s_backAll (k := k) hW1 (by omega) (fun m2 bk => ?_)
      obtain ⟨_, _, u3, u4, u5, u6, u7⟩ := bk
      have hR2 : ∀ x y, mR m2 x y = mR m x y := fun x y => (u7 x y).trans (w2 x y)
      have g : ∀ a y, ¬ (536 ≤ a ∧ a ≤ 547) → a ≠ 564 → a ≠ 565 → ¬ (a = 535 ∧ (y = 41 ∨ y = 54 ∨ y = 55)) → mI m2 a y = mI m1 a y := fun a y z1 z2 z3 z4 => u5 a y (fun j hj => by have := lay384 j hj; omega) z3 (by omega)
      have g2 : ∀ a y, ¬ (536 ≤ a ∧ a ≤ 547) → a ≠ 564 → a ≠ 565 → ¬ (a = 535 ∧ (y = 41 ∨ y = 54 ∨ y = 55)) → ¬ (30 ≤ a ∧ a ≤ 125) → mI m2 a y = mI m a y := fun a y z1 z2 z3 z4 z5 => (g a y z1 z2 z3 z4).trans (w1 a y (by omega))
      have m570 : ∀ j, mI m1 570 (450 * k + j) = fi m k j := fun j => w1 _ _ (by omega)
      have fm2 : ∀ j, j < 384 → fm m2 j = fi m k j := fun j hj => by
        unfold fm
        by_cases e : j = 23
        · rw [if_pos e, e]; exact (u6 (by omega)).trans (m570 23)
        · rw [if_neg e]; exact (u4 j hj).trans (m570 j)
      refine bX12_back_29 (hW.sm hR2) ?_
      have e5 : mI m2 536 5 = nI d2 := by
        have := fm2 5 (by omega)
        rw [fm_sc (by omega)] at this
        exact this.trans dayM
      rw [e5]
      refine h2 m2 ⟨hW.sm hR2, ConI_c (g2 _ _ (by omega) (by omega) (by omega) (by omega) (by omega)) (fun y => g2 _ _ (by omega) (by omega) (by omega) (by omega) (by omega)) hC, TapeI_c (g2 _ _ (by omega) (by omega) (by omega) (by omega) (by omega)) (g2 _ _ (by omega) (by omega) (by omega) (by omega) (by omega)) (fun y => g2 _ _ (by omega) (by omega) (by omega) (by omega) (by omega)) (fun y => g2 _ _ (by omega) (by omega) (by omega) (by omega) (by omega)) hT, nr, RulesI_c (g2 _ _ (by omega) (by omega) (by omega) (by omega) (by omega)) (g2 _ _ (by omega) (by omega) (by omega) (by omega) (by omega)) (fun a y z1 z2 z3 => g2 _ _ (by omega) (by omega) (by omega) (by omega) (by omega)) (fun a y z1 z2 => g2 _ _ (by omega) (by omega) (by omega) (by omega) (by omega)) hr, ImgI_c (fun y => g2 _ _ (by omega) (by omega) (by omega) (by omega) (by omega)) (fun y => g2 _ _ (by omega) (by omega) (by omega) (by omega) (by omega)) (fun a y z1 z2 => g2 _ _ (by omega) (by omega) (by omega) (by omega) (by omega)) (fun y z => g2 _ _ (by omega) (by omega) (by omega) (by omega) (by omega)) hi, ⟨f2, hf2, (g _ _ (by omega) (by omega) (by omega) (by omega)).trans (w3.trans ef2)⟩, ?_⟩
      refine Weq_c (u := fc m (127 + 96 * k)) (v := fi m k) (fun i hi2 => ?_) fm2 ⟨P2, Sg2, T2, N2, M2, d2, hw2⟩
      rw [fc_c (m := m1) (fun b y hb => g _ _ (by omega) (by omega) (by omega) (by omega))]; exact w4 i hi2
  · have bad : Q (some (.int (-1))) m := K _ m hW (fun Q2 h2 => pCl_of (by decide +kernel) (Nat.le_of_ble_eq_true rfl) rfl (bX12_back_0 hW (fun z => absurd ((inI (a := 3) (by decide)).mp z) c) (fun z => absurd ((inI (a := 3) (by decide)).mp z) c) (fun _ _ => h2 m hI) (fun _ => h2 m hI)))
    have lt4 : ¬ x < 0 → ¬ (4 : Int32) ≤ x → ∃ k, k ≤ 3 ∧ x = nI k := fun z1 z2 => by
      obtain ⟨k, hk, rfl⟩ := nI_of z1
      have := nI_lt' (a := k) (b := 4) hk (by decide) (fa_of_nle z2)
      exact ⟨k, by omega, rfl⟩
    exact pCl_of (by decide +kernel) (Nat.le_of_ble_eq_true rfl) rfl (bX11_back_0 hW (fun _ => bad) (fun _ _ => bad) (fun z1 z2 => absurd (lt4 z1 z2) c) (fun z1 z2 _ => absurd (lt4 z1 z2) c) (fun z1 z2 _ => absurd (lt4 z1 z2) c) (fun _ _ _ => bad))
end T29
