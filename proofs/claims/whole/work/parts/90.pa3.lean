section A3
variable {X : pX}
theorem p_undo : Pair X 3 3 mX11_undo mX12_undo [] := by
  intro m h Q K
  obtain ⟨hW, hC, hT, nr, P, Sg, T, N, M, d, f, hr, hi, ⟨hf, ef⟩, hw, hv⟩ := Inv_open h
  have hps := ps_of hw
  obtain ⟨⟨⟨p3, p4, p2, p8, pT, p6⟩, _⟩, ⟨v1, v2, v3, v4, v5, v6, v7, v8, v9, v10⟩, ⟨hN, hM, hd⟩, _⟩ := hv
  refine pCl_of (by decide +kernel) (Nat.le_of_ble_eq_true rfl) rfl (bX11_undo_0 hW (fun z => ?_) (fun z => ?_))
  · rw [v9] at z
    obtain ⟨k, rfl⟩ : ∃ k, M = k + 1 := by
      cases M with
      | zero => exact absurd rfl z
      | succ k => exact ⟨k, rfl⟩
    refine s_bring37 hW hf ef (by omega) v9 (fun m1 b1 => ?_)
    obtain ⟨c1, c2, c3, c4⟩ := b1
    have hW1 := hW.sm c2
    refine bX11_undo_33 hW1 ?_
    rw [c3]
    refine K _ _ hW1 (fun Q2 h2 => ?_)
    have e41 : mI m1 535 41 = nI (k + 1) := (c1 _ _ (by omega) (by omega)).trans v10
    refine pCl_of (by decide +kernel) (Nat.le_of_ble_eq_true rfl) rfl (bX12_undo_0 hW1 (fun _ => ?_) (fun w => ?_))
    · rw [e41, nI_pred]
      refine s_moveBack (m := uI m1 535 41 (nI k)) hW1 (k := k) (by omega) (fun m2 b2 => ?_)
      obtain ⟨g1, g2, g3, g4, g5, g6⟩ := b2
      have hW2 : Wf m2 := hW1.sm g6
      have em : mI m2 535 41 = nI k := by rw [g5 _ _ (by omega) (by omega) (by omega) (by omega) (by omega), mI_uI, if_pos ⟨rfl, rfl⟩]
      refine bX12_undo_29 hW2 ?_
      rw [em]
      have past : ∀ y, mI m2 564 y = mI m 564 y := fun y => by rw [g3, mI_uI, if_neg (by omega)]; exact c1 _ _ (by omega) (by omega)
      have lay : ∀ j, j < 15 → mI m2 (layP j).1 (layP j).2 = mI m 564 (15 * k + j) := fun j hj => by rw [g4 j hj, ← g3, past]
      have cls : ∀ a y, a ≤ 534 → mI m2 a y = mI m1 a y := fun a y z => by rw [g5 _ _ (by omega) (by omega) (by omega) (by omega) (by omega), mI_uI, if_neg (by omega)]
      obtain ⟨k1, k2, k3, e, he, ee⟩ := hps k (by omega)
      have cs37 : ∀ j, j < 15 → cst m2 37 j = fcP m 30 k j := fun j hj => by rw [← c4 j hj]; exact cst_c (fun t y ht => cls _ _ (by omega))
      have m0 : mI m2 536 5 = mI m 564 (15 * k + 0) := lay 0 (by omega)
      have m1' : ∀ q, q < 4 → mI m2 537 q = mI m 564 (15 * k + (1 + q)) := fun q hq => by have := lay (1 + q) (by omega); rw [pR_537 q hq] at this; exact this
      have m2' : ∀ q, q < 4 → mI m2 538 q = mI m 564 (15 * k + (5 + q)) := fun q hq => by have := lay (5 + q) (by omega); rw [pR_538 q hq] at this; exact this
      have m3' : ∀ q, q < 6 → mI m2 539 q = mI m 564 (15 * k + (9 + q)) := fun q hq => by have := lay (9 + q) (by omega); rw [pR_539 q hq] at this; exact this
      refine h2 _ (act_ok (d2 := e) (M2 := k) hC hT hr hi hW hw (fun x y => (g6 x y).trans (c2 x y)) (fun a y z1 z2 z3 z4 z5 z6 => ?_) ⟨?_, fun q hq => ?_, fun q hq => ?_, fun t ht => ?_, fun t ht h6 => ?_⟩ (fun q hq => ?_) he ?_ ?_ (by omega) ?_ em (fun i hi2 => ?_))
      · have z7 : ¬ (a = 535 ∧ (y = 42 ∨ y = 43)) := fun w => z1 (by unfold Scr; omega)
        rw [g5 _ _ (by omega) (by omega) (by omega) z4 z7, mI_uI, if_neg z3]
        exact c1 _ _ (by omega) (by omega)
      · show mI m2 37 0 = mI m2 536 5
        rw [m0, ← k1 0 (by omega)]; exact cs37 0 (by omega)
      · show mI m2 38 q = mI m2 537 q
        rw [m1' q hq, ← k1 (1 + q) (by omega), ← cs37 (1 + q) (by omega), cst_pl hq]
      · show mI m2 39 q = mI m2 538 q
        rw [m2' q hq, ← k1 (5 + q) (by omega), ← cs37 (5 + q) (by omega), cst_go hq]
      · show mI m2 40 t = mI m2 539 t
        have : fcP m 30 k (9 + t) = mI m 564 (15 * k + (9 + t)) := k2.1 t ht
        rw [m3' t (by omega), ← this, ← cs37 (9 + t) (by omega), cst_wh]
      · show mI m2 40 t = -1
        have : fcP m 30 k (9 + t) = -1 := k2.2 t ht h6
        rw [← cs37 (9 + t) (by omega), cst_wh] at this
        exact this
      · obtain ⟨p, hp, ep⟩ := k3 q hq
        have ep : fcP m 30 k (1 + q) = nI p := ep
        refine ⟨p, hp, ?_⟩
        rw [← ep, ← cs37 (1 + q) (by omega), cst_pl (by omega)]
      · rw [← ee]; exact cs37 0 (by omega)
      · exact ⟨f, hf, (cls _ _ (by omega)).trans ((c1 _ _ (by omega) (by omega)).trans ef)⟩
      · rw [cls _ _ (by omega)]; exact c3
      · obtain ⟨r1, r2, r3, r4⟩ := hps i (by omega)
        have ff : ∀ j, fcP m2 30 i j = fcP m 30 i j := by
          intro j
          rw [fcP_cst, fcP_cst]
          have e1 : mI m2 (30 + 11) 1 = mI m (30 + 11) 1 := (cls _ _ (by omega)).trans (c1 _ _ (by omega) (by omega))
          rw [e1]
          exact cst_c (fun t y ht => (cls _ _ (by omega)).trans (c1 _ _ (by omega) (by omega)))
        refine ⟨fun j hj => by rw [ff, past]; exact r1 j hj, ⟨fun t ht => ?_, fun t ht h6 => ?_⟩, fun q hq => ?_, by rw [ff]; exact r4⟩
        · show fcP m2 30 i (9 + t) = mI m2 564 (15 * i + (9 + t))
          rw [ff, past]; exact r2.1 t ht
        · show fcP m2 30 i (9 + t) = -1
          rw [ff]; exact r2.2 t ht h6
        · show ∃ p, p ≤ Sg ∧ fcP m2 30 i (1 + q) = nI p
          rw [ff]; exact r3 q hq
    · rw [e41] at w
      exact absurd w (nI_ne0 (by omega) (by omega))
  · refine K _ m hW (fun Q2 h2 => pCl_of (by decide +kernel) (Nat.le_of_ble_eq_true rfl) rfl (bX12_undo_0 hW (fun w => absurd ?_ w) (fun _ => h2 m h)))
    rw [v10, ← v9]; exact z
theorem p_day : Pair X 5 7 mX11_day mX12_day [] := by
  intro m h Q K
  obtain ⟨hW, hC, hT, nr, P, Sg, T, N, M, d, f, hr, hi, ⟨hf, ef⟩, hw, hv⟩ := Inv_open h
  have hv0 := hv
  obtain ⟨⟨okd, okm, agd, agt, hpl⟩, ⟨v1, v2, v3, v4, v5, v6, v7, v8, v9, v10⟩, ⟨hN, hM, hd⟩, v11, v12, v13, _⟩ := hv
  obtain ⟨rok, E, age, re⟩ := rule_ev hr v12
  have t1 : mI m 31 0 = 0 → ¬ mI m 536 0 = 1 := fun z => by rw [← v1, z]; decide
  refine pCl_of (by decide +kernel) (Nat.le_of_ble_eq_true rfl) rfl (bX11_day_0 hW (fun z => ?_) (fun z1 z2 => ?_) (fun z1 z2 => ?_))
  · exact K _ m hW (fun Q2 h2 => pCl_of (by decide +kernel) (Nat.le_of_ble_eq_true rfl) rfl (bX12_day_0 hW (fun w => absurd w (t1 z)) (fun w => absurd w (t1 z)) (fun _ => h2 m h)))
  · have told : mI m 536 0 = 1 := by rw [← v1]; exact v11.resolve_left z1
    rw [v3] at z2
    have hd2 : d < 999 := nI_lt' (b := 999) (by omega) (by decide) z2
    refine s_keep37 hW hf ef hM v9 (fun m1 kc => ?_)
    obtain ⟨c1, c2, c3⟩ := kc
    have hW1 := hW.sm c2
    have cl : ∀ a k, a ≤ 40 ∨ 123 ≤ a → mI m1 a k = mI m a k := fun a k z => c1 _ _ (by omega) (by omega)
    have sm1 : Same (fun a _ => 41 ≤ a ∧ a ≤ 122) m m1 := ⟨fun a k z => cl a k (by omega), c2⟩
    have okd1 : okD m1 P Sg T := sm1.kD (fun k => by omega) okd
    have okr1 : okR m1 (roOf (mI m 30 3)) := sm1.kR (fun a k z1 z2 z3 => by omega) rok
    have eE : cEv m1 (roOf (mI m 30 3)) = cEv m (roOf (mI m 30 3)) := sm1.kEv (fun a k z1 z2 z3 => by omega) rok
    have eR : cRd m1 31 = cRd m 31 := sm1.kRd (fun a k z1 z2 => by omega)
    have eS : cSt m1 37 = cSt m 37 := sm1.kSt (fun a k z1 z2 => by omega)
    have pl1 : plOk (mI m1 38) P Sg := by rw [show mI m1 38 = mI m 38 from funext fun k => cl _ _ (by omega)]; exact hpl
    refine bX11_day_48 hW1 ?_
    have e30 : mI m1 30 3 = mI m 30 3 := cl _ _ (by omega)
    refine s_inForce hW1 hr.1 ((cl _ _ (by omega)).trans hr.2.1) (by rw [e30]; exact v12) ?_
    rw [e30]
    -- the day itself
    have dy : Cl X 4 mX0_oneDay [.ref 512, .ref 37, rvO (roOf (mI m 30 3))] m1 (fun v m2 => Go X 5 mX11_day Q 66 [(0, .ref 0)] (v.toList ++ []) m2) := by
      refine s_day37 hW1 okr1 okd1 pl1 (fun m2 hm2 e2 => ?_)
      rw [eE, eR, eS] at e2 ⊢
      have hW2 := hW1.sm hm2.2
      refine bX11_day_66 hW2 (K _ m2 hW2 (fun Q2 h2 => ?_))
      have fr : ∀ a k, 535 ≤ a → mI m2 a k = mI m a k := fun a k z => (hm2.1 a k (by unfold ScD; omega)).trans (cl a k (by omega))
      have sm2 : Same (fun a _ => a < 535) m m2 := ⟨fun a k z => fr a k (by omega), fun x y => (hm2.2 x y).trans (c2 x y)⟩
      refine pCl_of (by decide +kernel) (Nat.le_of_ble_eq_true rfl) rfl (bX12_day_0 hW2 (fun _ _ => ?_) (fun _ w => ?_) (fun w => ?_))
      · refine s_keepsAct (M := M) hW2 ((fr _ _ (by omega)).trans v10) hM (fun mk km => ?_)
        obtain ⟨g1, g2, g3⟩ := km
        have hWk := hW2.sm g2
        have frk : ∀ a k, 535 ≤ a → a ≠ 564 → ¬ (a = 535 ∧ (k = 41 ∨ k = 42 ∨ k = 43)) → mI mk a k = mI m a k := fun a k z1 z2 z3 => (g1 a k z2 z3).trans (fr a k z1)
        have smk : Same (fun a k => a < 535 ∨ a = 564 ∨ (a = 535 ∧ (k = 41 ∨ k = 42 ∨ k = 43))) m mk := ⟨fun a k z => frk a k (by omega) (by omega) (by omega), fun x y => (g2 x y).trans (sm2.2 x y)⟩
        have okE0 : okE m E := by
          rcases re with ⟨a, b⟩ | ⟨i, cs, a, b, c⟩
          · exact Or.inl ⟨v8.symm.trans a, b⟩
          · exact Or.inr ⟨i, cs, a, v8.symm.trans b, c⟩
        have okEk : okE mk E := smk.mE (fun a k z1 z2 => by omega) (by omega) okE0
        have okMk : okM mk P Sg T := smk.mD (fun k z1 z2 => by omega) okm
        have eRk : mRd mk = mRd m := smk.mR' (fun k z1 z2 => by omega) (fun a k z1 z2 => by omega)
        have eSk : mSt mk = mSt m := by
          unfold mSt
          rw [show mI mk 537 = mI m 537 from funext fun k => frk _ _ (by omega) (by omega) (by omega), show mI mk 538 = mI m 538 from funext fun k => frk _ _ (by omega) (by omega) (by omega), show mI mk 539 = mI m 539 from funext fun k => frk _ _ (by omega) (by omega) (by omega), frk 536 5 (by omega) (by omega) (by omega)]
        have plk : plOk (mI mk 537) P Sg := by
          intro q hq
          obtain ⟨p, hp, ep⟩ := hpl q hq
          exact ⟨p, hp, by rw [frk _ _ (by omega) (by omega) (by omega), ← (rows_of hv0).2.2.2.2.1 q (by have := okd.2.1; omega)]; exact ep⟩
        refine bX12_day_25 hWk ?_
        refine s_goes hWk okEk okMk plk (fun m3 hm3 e3 => ?_)
        rw [eRk, eSk] at e3 ⊢
        obtain ⟨r1, r2⟩ := dayF_ag age agd okd.2.2.2.1 okd.2.1 okd.2.2.2.2.2 agt hpl
        have hW3 := hWk.sm hm3.2
        refine bX12_day_29 hW3 ?_
        rw [← r1]
        have f3 : ∀ a k, ¬ ScM a k → mI m3 a k = mI mk a k := hm3.1
        have cls : ∀ a k, a ≤ 534 → mI m3 a k = mI m2 a k := fun a k z => (f3 a k (by unfold ScM; omega)).trans (g1 _ _ (by omega) (by omega))
        have cs3 : cSt m3 37 = cSt m2 37 := by
          unfold cSt
          rw [show mI m3 (37 + 1) = mI m2 (37 + 1) from funext fun k => cls _ _ (by omega), show mI m3 (37 + 2) = mI m2 (37 + 2) from funext fun k => cls _ _ (by omega), show mI m3 (37 + 3) = mI m2 (37 + 3) from funext fun k => cls _ _ (by omega), cls 37 0 (by omega)]
        obtain ⟨M2, hM2, b1, b2, b3, b4⟩ := act_ps (m2 := m3) (m1 := m2) (mk := mk) (mc := m1) hw hf ⟨c1, c2, c3⟩ ⟨g1, g2, g3⟩ (fun x y z => fr x y (by omega)) (fun x y z => (cls _ _ (by omega)).trans (hm2.1 _ _ (by unfold ScD; omega))) (fun y => f3 _ _ (by unfold ScM; omega)) (f3 _ _ (by unfold ScM; omega))
        refine h2 _ (act_ok (d2 := d + 1) (M2 := M2) hC hT hr hi hW hw (fun x y => (hm3.2 x y).trans ((g2 x y).trans (sm2.2 x y))) (fun a k z1 z2 z3 z4 z5 z6 => ?_) ?_ ?_ (by omega) ?_ b3 hM2 b1 b2 b4)
        · by_cases ha : a ≤ 534
          · rw [cls a k ha, hm2.1 a k ?_, cl a k (by omega)]
            unfold ScD
            unfold Scr at z1
            omega
          · rw [f3 a k (by unfold ScM; omega)]
            refine frk a k (by omega) z6 (fun w => ?_)
            rcases w with ⟨rfl, y | y | y⟩
            · exact z3 ⟨rfl, y⟩
            · exact z1 (by unfold Scr; omega)
            · exact z1 (by unfold Scr; omega)
        · rw [cs3, e2, e3]; exact r2
        · have e : mI m3 38 = (cSt m3 37).2.1 := rfl
          rw [e, cs3, e2]
          exact dayF_pl (rd := cRd m 31) okd.2.2.1 okd.2.2.2.1 hpl
        · have e : mI m3 37 0 = (cSt m3 37).1 := rfl
          rw [e, cs3, e2]
          show mI m 37 0 + 1 = nI (d + 1)
          rw [v3, nI_1]
      · rw [fr _ _ (by omega), v4] at w
        have := (nI_eq (a := d) (b := 999) (by omega) (by decide)).mp w
        omega
      · rw [fr _ _ (by omega)] at w
        exact absurd told w
    cases hro : roOf (mI m 30 3) with
    | none => rw [hro] at dy; exact bX11_day_63v1 hW1 sh37 dy
    | some r => rw [hro] at dy okr1; exact bX11_day_63 hW1 (okr1 r rfl).1 sh37 dy
  · rw [v3] at z2
    have hd2 : d = 999 := by
      have : ¬ d < 999 := fun q => z2 (nI_lt (a := d) (b := 999) q (by decide))
      omega
    refine K _ m hW (fun Q2 h2 => pCl_of (by decide +kernel) (Nat.le_of_ble_eq_true rfl) rfl (bX12_day_0 hW (fun _ w => absurd ?_ w) (fun _ _ => h2 m h) (fun _ => h2 m h)))
    rw [v4, hd2]; rfl
end A3
