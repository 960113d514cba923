/-! ===== pair: rule ===== -/
theorem ImgI_mo {m : pMem} {nr nr2 : Nat} (hn : nr ≤ nr2) (h : ImgI m nr) : ImgI m nr2 := fun k hk => ⟨(h k hk).1, (h k hk).2.1, (h k hk).2.2.imp id (fun z => ⟨z.1, Weq_mo hn z.2⟩)⟩
section T56
variable {X : pX}
theorem p_rule : Pair X 41 13 mX11_rule mX12_rule [] := by
  intro m h Q K
  have hI := h
  obtain ⟨hW, hC, hT, nr, P, Sg, T, N, M, d, f, hr, hi, hf, hw, hv⟩ := Inv_open h
  obtain ⟨B, L, tc, tm⟩ := tape_of hT
  obtain ⟨hr6, hr4, hr23, hrr⟩ := hr
  have hr : RulesI m nr := ⟨hr6, hr4, hr23, hrr⟩
  by_cases c6 : nr = 6
  · refine pCl_of (by decide +kernel) (Nat.le_of_ble_eq_true rfl) rfl (bX11_rule_0 hW (fun z => ?_) (fun z => ?_) (fun _ => K _ m hW (fun Q2 h2 => pCl_of (by decide +kernel) (Nat.le_of_ble_eq_true rfl) rfl (bX12_rule_0 hW (fun z => absurd (by rw [hr23, c6]; rfl) z) (fun _ => h2 m hI)))))
    · rw [hr4, c6] at z; exact absurd z (by decide)
    · rw [hr4, c6] at z; exact absurd z (by decide)
  · have n6 : nr < 6 := by omega
    have hru : isRu (12 + 3 * nr) := ⟨nr, n6, rfl⟩
    refine pCl_of (by decide +kernel) (Nat.le_of_ble_eq_true rfl) rfl (bX11_rule_0 hW (fun _ => by rw [hr4]; exact vp_in_nI n6 (by decide)) (fun _ => ?_) (fun z => absurd (by rw [hr4]; exact nI_lt (b := 6) n6 (by decide)) z))
    rw [hr4, nI_clamp (by omega)]
    -- the model from a memory m1 on
    have model : ∀ (m1 : pMem) (r : Int32), Wf m1 → (∀ a k, ¬ (a = 1 ∧ (k = 1 ∨ k = 2 ∨ k = 3)) → ¬ (a = 10 ∧ k = 2) → ¬ (a = 12 + 3 * nr ∧ k = 2) → a ≠ 12 + 3 * nr + 1 → ¬ (a = 0 ∧ k = 4) → mI m1 a k = mI m a k) → mI m1 1 1 = 0 →
        ((∃ cs, rlF B L 13 0 0 0 = .inr cs ∧ r = nI nr ∧ mI m1 0 4 = nI (nr + 1) ∧ RuleC m1 (12 + 3 * nr) cs) ∨ (∃ f, rlF B L 13 0 0 0 = .inl f ∧ r = -2 - nI f ∧ mI m1 0 4 = nI nr)) →
        ∀ Q2 : Option Value → pMem → Prop, (∀ m2, Inv m2 → Q2 (some (.int r)) m2) → Cl X 13 mX12_rule [.ref 535] m1 Q2 := by
      intro m1 r hW1 fr e11 hh Q2 h2
      have e23 : mI m1 535 23 = nI nr := (fr _ _ (by omega) (by omega) (by omega) (by omega) (by omega)).trans hr23
      refine pCl_of (by decide +kernel) (Nat.le_of_ble_eq_true rfl) rfl (bX12_rule_0 hW1 (fun _ => ?_) (fun z => ?_))
      · rw [e23]
        have hW2 : Wf (uI m1 535 22 (nI nr)) := hW1.sm (fun _ _ => rfl)
        refine pCl_of (by decide +kernel) (Nat.le_of_ble_eq_true rfl) rfl (bX12_starts_0 hW2 ?_)
        obtain ⟨m3, hm3⟩ : ∃ m3, m3 = uI (uI (uI (uI (uI (uI m1 535 22 (nI nr)) 535 20 (0 : Int32)) 535 21 (0 : Int32)) 535 24 (0 : Int32)) 535 25 (0 : Int32)) 535 26 (0 : Int32) := ⟨_, rfl⟩
        rw [← hm3]
        have R3 : ∀ x y, mR m3 x y = mR m1 x y := fun x y => by rw [hm3]; rfl
        have hW3 := hW1.sm R3
        have r3 : ∀ a k, ¬ (a = 535 ∧ (k = 20 ∨ k = 21 ∨ k = 22 ∨ k = 24 ∨ k = 25 ∨ k = 26)) → mI m3 a k = mI m1 a k := fun a k z => by
          rw [hm3, mI_uI, if_neg (by omega), mI_uI, if_neg (by omega), mI_uI, if_neg (by omega), mI_uI, if_neg (by omega), mI_uI, if_neg (by omega), mI_uI, if_neg (by omega)]
        have v22 : mI m3 535 22 = nI nr := by rw [hm3, mI_uI, if_neg (by omega), mI_uI, if_neg (by omega), mI_uI, if_neg (by omega), mI_uI, if_neg (by omega), mI_uI, if_neg (by omega), mI_uI, if_pos ⟨rfl, rfl⟩]
        have v20 : mI m3 535 20 = 0 := by rw [hm3, mI_uI, if_neg (by omega), mI_uI, if_neg (by omega), mI_uI, if_neg (by omega), mI_uI, if_neg (by omega), mI_uI, if_pos ⟨rfl, rfl⟩]
        have v21 : mI m3 535 21 = 0 := by rw [hm3, mI_uI, if_neg (by omega), mI_uI, if_neg (by omega), mI_uI, if_neg (by omega), mI_uI, if_pos ⟨rfl, rfl⟩]
        have v24 : mI m3 535 24 = 0 := by rw [hm3, mI_uI, if_neg (by omega), mI_uI, if_neg (by omega), mI_uI, if_pos ⟨rfl, rfl⟩]
        have v25 : mI m3 535 25 = 0 := by rw [hm3, mI_uI, if_neg (by omega), mI_uI, if_pos ⟨rfl, rfl⟩]
        have v26 : mI m3 535 26 = 0 := by rw [hm3, mI_uI, if_pos ⟨rfl, rfl⟩]
        have f3 : ∀ a k, 535 ≤ a → ¬ (a = 535 ∧ (k = 20 ∨ k = 21 ∨ k = 22 ∨ k = 24 ∨ k = 25 ∨ k = 26)) → mI m3 a k = mI m a k := fun a k z0 z => (r3 a k z).trans (fr a k (by omega) (by omega) (by omega) (by omega) (by omega))
        -- what stays
        have keep : ∀ (mz : pMem) (x23 : Int32), Wf mz → (∀ a k, ¬ (a = 535 ∧ (k = 19 ∨ k = 20 ∨ k = 21 ∨ k = 22 ∨ k = 23 ∨ k = 24 ∨ k = 25 ∨ k = 26 ∨ k = 27)) → ¬ ((a = 555 ∨ a = 556) ∧ 300 * nr ≤ k) → a ≠ 561 → ¬ (a = 557 ∧ k = nr) → ¬ (558 ≤ a ∧ a ≤ 560 ∧ 12 * nr ≤ k) → mI mz a k = mI m1 a k) → mI mz 535 19 = 0 → ∀ nr2, nr ≤ nr2 → RulesI mz nr2 → Inv mz := by
          intro mz x23 hWz fz e19 nr2 hn hR
          have g : ∀ a k, ¬ (a = 1 ∧ (k = 1 ∨ k = 2 ∨ k = 3)) → ¬ (a = 10 ∧ k = 2) → ¬ (a = 12 + 3 * nr ∧ k = 2) → a ≠ 12 + 3 * nr + 1 → ¬ (a = 0 ∧ k = 4) → ¬ (a = 535 ∧ (k = 19 ∨ k = 20 ∨ k = 21 ∨ k = 22 ∨ k = 23 ∨ k = 24 ∨ k = 25 ∨ k = 26 ∨ k = 27)) → ¬ (555 ≤ a ∧ a ≤ 561) → mI mz a k = mI m a k := fun a k z1 z2 z3 z4 z5 z6 z7 => (fz a k z6 (by omega) (by omega) (by omega) (by omega)).trans (fr a k z1 z2 z3 z4 z5)
          refine ⟨hWz, ConI_c (g _ _ (by omega) (by omega) (by omega) (by omega) (by omega) (by omega) (by omega)) (fun k => g _ _ (by omega) (by omega) (by omega) (by omega) (by omega) (by omega) (by omega)) hC, ⟨0, by decide, (fz _ _ (by omega) (by omega) (by omega) (by omega) (by omega)).trans e11, e19, fun j hj => absurd hj (Nat.not_lt_zero _)⟩, nr2, hR, ImgI_mo hn (ImgI_c (fun k => g _ _ (by omega) (by omega) (by omega) (by omega) (by omega) (by omega) (by omega)) (fun k => g _ _ (by omega) (by omega) (by omega) (by omega) (by omega) (by omega) (by omega)) (fun a k z1 z2 => g _ _ (by omega) (by omega) (by omega) (by omega) (by omega) (by omega) (by omega)) (fun k z => g _ _ (by omega) (by omega) (by omega) (by omega) (by omega) (by omega) (by omega)) hi), ⟨f, hf.1, (g _ _ (by omega) (by omega) (by omega) (by omega) (by omega) (by omega) (by omega)).trans hf.2⟩, Weq_mo hn (Weq_c (fun j hj => fc_c (fun b k hb => g _ _ (by omega) (by omega) (by omega) (by omega) (by omega) (by omega) (by omega))) (fun j hj => fm_c hj (fun a k z => g _ _ (by omega) (by omega) (by omega) (by omega) (by omega) (by omega) (by omega))) ⟨P, Sg, T, N, M, d, hw⟩)⟩
        have old : ∀ (mz : pMem), (∀ a k, ¬ (a = 535 ∧ (k = 19 ∨ k = 20 ∨ k = 21 ∨ k = 22 ∨ k = 23 ∨ k = 24 ∨ k = 25 ∨ k = 26 ∨ k = 27)) → ¬ ((a = 555 ∨ a = 556) ∧ 300 * nr ≤ k) → a ≠ 561 → ¬ (a = 557 ∧ k = nr) → ¬ (558 ≤ a ∧ a ≤ 560 ∧ 12 * nr ≤ k) → mI mz a k = mI m1 a k) → ∀ j, j < nr → ∃ cs, RuleM mz j cs ∧ RuleC mz (12 + 3 * j) cs ∧ ∀ c ∈ cs, ClsOk c := by
          intro mz fz j hj
          obtain ⟨cs, y1, y2, y3⟩ := hrr j hj
          have g : ∀ a k, ¬ (a = 1 ∧ (k = 1 ∨ k = 2 ∨ k = 3)) → ¬ (a = 10 ∧ k = 2) → ¬ (a = 12 + 3 * nr ∧ k = 2) → a ≠ 12 + 3 * nr + 1 → ¬ (a = 0 ∧ k = 4) → ¬ (a = 535 ∧ (k = 19 ∨ k = 20 ∨ k = 21 ∨ k = 22 ∨ k = 23 ∨ k = 24 ∨ k = 25 ∨ k = 26 ∨ k = 27)) → ¬ ((a = 555 ∨ a = 556) ∧ 300 * nr ≤ k) → a ≠ 561 → ¬ (a = 557 ∧ k = nr) → ¬ (558 ≤ a ∧ a ≤ 560 ∧ 12 * nr ≤ k) → mI mz a k = mI m a k := fun a k z1 z2 z3 z4 z5 z6 z7 z8 z9 z10 => (fz a k z6 z7 z8 z9 z10).trans (fr a k z1 z2 z3 z4 z5)
          refine ⟨cs, RuleM_c2 (g _ _ (by omega) (by omega) (by omega) (by omega) (by omega) (by omega) (by omega) (by omega) (by omega) (by omega)) (fun a q w1 w2 w3 => g _ _ (by omega) (by omega) (by omega) (by omega) (by omega) (by omega) (by omega) (by omega) (by omega) (by omega)) (fun k hk => ⟨g _ _ (by omega) (by omega) (by omega) (by omega) (by omega) (by omega) (by omega) (by omega) (by omega) (by omega), g _ _ (by omega) (by omega) (by omega) (by omega) (by omega) (by omega) (by omega) (by omega) (by omega) (by omega)⟩) y1, RuleC_congr (fun k => g _ _ (by omega) (by omega) (by omega) (by omega) (by omega) (by omega) (by omega) (by omega) (by omega) (by omega)) (g _ _ (by omega) (by omega) (by omega) (by omega) (by omega) (by omega) (by omega) (by omega) (by omega) (by omega)) y2, y3⟩
        refine bX12_rule_23 hW3 (g_mRule (i := nr) (m0 := m3) (B := B) (L := L) 12 0 0 0 [] [] m3 rfl ⟨⟨hW3, ⟨tm.1, (f3 _ _ (by omega) (by omega)).trans tm.2.1, fun j hj => ⟨(tm.2.2 j hj).1, (f3 _ _ (by omega) (by omega)).trans (tm.2.2 j hj).2⟩⟩, v20, v21, by decide, by decide⟩, v26, ⟨v24, fun j hj => absurd hj (Nat.not_lt_zero _)⟩, v22, (f3 _ _ (by omega) (by omega)).trans hC.1, n6⟩ v25 (Nat.zero_le _) (by decide) (by decide) rfl (fun q hq => absurd hq (Nat.not_lt_zero _)) Same.rf (fun ds ed m4 es4 hW4 f4 s4 en4 l4 c4 T4 => ?_) (fun g eg hg hg2 m4 x hW4 f4 T4 => ?_))
        · -- a rule more
          obtain ⟨ok, ol⟩ := rl_ok (B := B) (L := L) 12 0 0 0 ds (Nat.zero_le _) (by decide) rfl ed
          rcases hh with ⟨cs, ec, er, e4, hRC⟩ | ⟨g, ec, _, _⟩
          · have ecs : ds = cs := by have := ed.symm.trans ec; cases this; rfl
            subst ecs
            rw [List.nil_append] at c4 ⊢
            refine bX12_rule_27 hW4 (fun _ => by rw [s4]; exact vp_in_nI n6 (by decide)) (fun _ z => absurd f4 z) (fun _ _ => ?_) (fun z => absurd rfl z)
            have e23' : mI m4 535 23 = nI nr := ((T4.1 _ _ (by omega)).trans (r3 _ _ (by omega))).trans e23
            rw [s4, nI_clamp (by omega), e23']
            have hW5 : Wf (uI (uI m4 535 19 (0 : Int32)) 557 nr (nI ds.length)) := hW4.sm (fun _ _ => rfl)
            refine bX12_rule_79v1 hW5 (fun _ => ?_) (fun z => absurd (by rw [mI_uI, if_neg (by omega), mI_uI, if_neg (by omega), f4]; decide) z)
            rw [nI_1, nI_pred, ← er]
            obtain ⟨mz, hmz⟩ : ∃ mz, mz = uI (uI (uI m4 535 19 (0 : Int32)) 557 nr (nI ds.length)) 535 23 (nI (nr + 1)) := ⟨_, rfl⟩
            rw [← hmz]
            have z4 : ∀ a k, ¬ (a = 535 ∧ (k = 19 ∨ k = 23)) → ¬ (a = 557 ∧ k = nr) → mI mz a k = mI m4 a k := fun a k y1 y2 => by rw [hmz, mI_uI, if_neg (by omega), mI_uI, if_neg y2, mI_uI, if_neg (by omega)]
            have z23 : mI mz 535 23 = nI (nr + 1) := by rw [hmz, mI_uI, if_pos ⟨rfl, rfl⟩]
            have z557 : mI mz 557 nr = nI ds.length := by rw [hmz, mI_uI, if_neg (by omega), mI_uI, if_pos ⟨rfl, rfl⟩]
            have z19 : mI mz 535 19 = 0 := by rw [hmz, mI_uI, if_neg (by omega), mI_uI, if_neg (by omega), mI_uI, if_pos ⟨rfl, rfl⟩]
            have fz : ∀ a k, ¬ (a = 535 ∧ (k = 19 ∨ k = 20 ∨ k = 21 ∨ k = 22 ∨ k = 23 ∨ k = 24 ∨ k = 25 ∨ k = 26 ∨ k = 27)) → ¬ ((a = 555 ∨ a = 556) ∧ 300 * nr ≤ k) → a ≠ 561 → ¬ (a = 557 ∧ k = nr) → ¬ (558 ≤ a ∧ a ≤ 560 ∧ 12 * nr ≤ k) → mI mz a k = mI m1 a k := fun a k y1 y2 y3 y4 y5 => (z4 a k (by omega) y4).trans ((T4.1 a k (by omega)).trans (r3 a k (by omega)))
            refine h2 mz (keep mz 0 (by rw [hmz]; exact hW4.sm (fun _ _ => rfl)) fz z19 (nr + 1) (by omega) ⟨by omega, (fz _ _ (by omega) (by omega) (by omega) (by omega) (by omega)).trans e4, z23, fun j hj => ?_⟩)
            by_cases ej : j = nr
            · subst ej
              refine ⟨ds, RuleM_of z557 (by omega) (es := es4) ⟨(z4 _ _ (by omega) (by omega)).trans en4.1, fun q hq => ⟨(z4 _ _ (by omega) (by omega)).trans (en4.2 q hq).1, (z4 _ _ (by omega) (by omega)).trans (en4.2 q hq).2⟩⟩ l4 ?_, RuleC_congr (fun k => fz _ _ (by omega) (by omega) (by omega) (by omega) (by omega)) (fz _ _ (by omega) (by omega) (by omega) (by omega) (by omega)) hRC, ok⟩
              intro q hq
              obtain ⟨a, b, e, g1, g2, g3, g4, g5, g6, g7⟩ := c4 q hq
              exact ⟨a, b, e, g1, g2, g3, (z4 _ _ (by omega) (by omega)).trans g4, (z4 _ _ (by omega) (by omega)).trans g5, (z4 _ _ (by omega) (by omega)).trans g6, g7⟩
            · exact old mz fz j (by omega)
          · exact absurd (ed.symm.trans ec) (fun z => by cases z)
        · -- a fault
          rcases hh with ⟨cs, ec, _, _, _⟩ | ⟨g2, ec, er, e4⟩
          · exact absurd (eg.symm.trans ec) (fun z => by cases z)
          · have egg : g = g2 := by have := eg.symm.trans ec; cases this; rfl
            subst egg
            have s4 : mI m4 535 22 = nI nr := (T4.1 _ _ (by omega)).trans v22
            have e23' : mI m4 535 23 = nI nr := ((T4.1 _ _ (by omega)).trans (r3 _ _ (by omega))).trans e23
            refine bX12_rule_27 hW4 (fun _ => by rw [s4]; exact vp_in_nI n6 (by decide)) (fun _ _ => ?_) (fun _ z => ?_) (fun z => absurd rfl z)
            · rw [s4, nI_clamp (by omega), e23']
              have hW5 : Wf (uI (uI m4 535 19 (0 : Int32)) 557 nr x) := hW4.sm (fun _ _ => rfl)
              have e21 : mI (uI (uI m4 535 19 (0 : Int32)) 557 nr x) 535 21 = nI g := by rw [mI_uI, if_neg (by omega), mI_uI, if_neg (by omega)]; exact f4
              refine bX12_rule_79 hW5 (fun z => ?_) (fun _ => ?_)
              · rw [e21] at z
                exact absurd z (nI_nle hg (by omega))
              · rw [e21, show nI nr + (0 : Int32) = nI nr from Int32.add_zero _, ← er]
                obtain ⟨mz, hmz⟩ : ∃ mz, mz = uI (uI (uI m4 535 19 (0 : Int32)) 557 nr x) 535 23 (nI nr) := ⟨_, rfl⟩
                rw [← hmz]
                have z4 : ∀ a k, ¬ (a = 535 ∧ (k = 19 ∨ k = 23)) → ¬ (a = 557 ∧ k = nr) → mI mz a k = mI m4 a k := fun a k y1 y2 => by rw [hmz, mI_uI, if_neg (by omega), mI_uI, if_neg y2, mI_uI, if_neg (by omega)]
                have z23 : mI mz 535 23 = nI nr := by rw [hmz, mI_uI, if_pos ⟨rfl, rfl⟩]
                have z19 : mI mz 535 19 = 0 := by rw [hmz, mI_uI, if_neg (by omega), mI_uI, if_neg (by omega), mI_uI, if_pos ⟨rfl, rfl⟩]
                have fz : ∀ a k, ¬ (a = 535 ∧ (k = 19 ∨ k = 20 ∨ k = 21 ∨ k = 22 ∨ k = 23 ∨ k = 24 ∨ k = 25 ∨ k = 26 ∨ k = 27)) → ¬ ((a = 555 ∨ a = 556) ∧ 300 * nr ≤ k) → a ≠ 561 → ¬ (a = 557 ∧ k = nr) → ¬ (558 ≤ a ∧ a ≤ 560 ∧ 12 * nr ≤ k) → mI mz a k = mI m1 a k := fun a k y1 y2 y3 y4 y5 => (z4 a k (by omega) y4).trans ((T4.1 a k (by omega)).trans (r3 a k (by omega)))
                exact h2 mz (keep mz 0 (by rw [hmz]; exact hW4.sm (fun _ _ => rfl)) fz z19 nr (Nat.le_refl _) ⟨hr6, (fz _ _ (by omega) (by omega) (by omega) (by omega) (by omega)).trans e4, z23, old mz fz⟩)
            · rw [f4] at z
              exact absurd z (nI_ne0 hg (by omega))
      · rw [e23] at z
        exact absurd ((nI_eq (b := 6) (by omega) (by decide)).mp z) c6
    refine s_cRead hru hW tc (fun cs ec m3 hW3 h3 l3 T3 => ?_) (fun f ef m3 h3 T3 => ?_)
    · refine bX11_rule_27 hW3 (fun _ => ?_) (fun z => absurd z (by decide))
      have e04 : mI m3 0 4 = nI nr := (T3.1 _ _ (by omega)).trans hr4
      rw [e04, nI_1, nI_pred]
      have hW4 : Wf (uI (uI m3 1 1 (0 : Int32)) 0 4 (nI (nr + 1))) := hW3.sm (fun _ _ => rfl)
      refine K _ _ hW4 (model _ _ hW4 (fun a k z1 z2 z3 z4 z5 => ?_) ?_ (Or.inl ⟨cs, ec, rfl, ?_, ?_⟩))
      · rw [mI_uI, if_neg z5, mI_uI, if_neg (by omega)]; exact T3.1 a k (by omega)
      · rw [mI_uI, if_neg (by omega), mI_uI, if_pos ⟨rfl, rfl⟩]
      · rw [mI_uI, if_pos ⟨rfl, rfl⟩]
      · refine ⟨?_, l3, fun j hj => ?_⟩
        · rw [mI_uI, if_neg (by omega), mI_uI, if_neg (by omega)]; exact h3.1
        · rw [mI_uI, if_neg (by omega), mI_uI, if_neg (by omega)]; exact h3.2 j hj
    · refine bX11_rule_27 h3.1 (fun z => absurd rfl z) (fun _ => ?_)
      rw [h3.2.1]
      have hW4 : Wf (uI m3 1 1 (0 : Int32)) := h3.1.sm (fun _ _ => rfl)
      refine K _ _ hW4 (model _ _ hW4 (fun a k z1 z2 z3 z4 z5 => ?_) ?_ (Or.inr ⟨f, ef, rfl, ?_⟩))
      · rw [mI_uI, if_neg (by omega)]; exact T3.1 a k (by omega)
      · rw [mI_uI, if_pos ⟨rfl, rfl⟩]
      · rw [mI_uI, if_neg (by omega)]; exact (T3.1 _ _ (by omega)).trans hr4
end T56
