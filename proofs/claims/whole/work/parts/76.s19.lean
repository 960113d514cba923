/-! ===== the class: acts kept, rules ===== -/
theorem rem20 : ∀ n, n < 64 → nI n - nI n / (20 : Int32) * (20 : Int32) = nI (n % 20) := by decide +kernel
def KeptC (m : pMem) (f M : Nat) (m2 : pMem) : Prop :=
  (∀ x y, ¬ (43 ≤ x ∧ x ≤ 122) → ¬ (x = 41 ∧ (y = 1 ∨ y = 2)) → mI m2 x y = mI m x y) ∧ (∀ x y, mR m2 x y = mR m x y)
  ∧ ((M < 20 ∧ mI m2 41 2 = nI (M + 1) ∧ mI m2 41 1 = nI f ∧ ∀ i j, i ≤ M → j < 15 → fcP m2 30 i j = if i = M then cst m 37 j else fcP m 30 i j)
    ∨ (M = 20 ∧ mI m2 41 2 = nI 20 ∧ mI m2 41 1 = nI ((f + 1) % 20) ∧ ∀ i j, i < 20 → j < 15 → fcP m2 30 i j = if i = 19 then cst m 37 j else fcP m 30 (i + 1) j))
theorem cst_far {m : pMem} {t u j : Nat} (ht : t < 20) (hu : u < 20) (hj : j < 15) : cst (cpS m (41 + 2 + 4 * t) 37) (30 + 13 + 4 * u) j = if u = t then cst m 37 j else cst m (30 + 13 + 4 * u) j := by
  by_cases e : u = t
  · subst e
    rw [if_pos rfl]
    exact cst_cpS (m := m) (a := 41 + 2 + 4 * u) (b := 37) (by omega) hj
  · rw [if_neg e]
    refine cst_c (fun t2 k h2 => ?_)
    rw [mI_cpS (by omega), if_neg (by omega), if_neg (by omega), if_neg (by omega), if_neg (by omega)]
section S20
variable {X : pX} {Q : Option Value → pMem → Prop} {m : pMem}
theorem s_keep37 {f M : Nat} (hW : Wf m) (hf : f < 20) (ef : mI m 41 1 = nI f) (hM : M ≤ 20) (eM : mI m 41 2 = nI M) (h : ∀ m2, KeptC m f M m2 → Q none m2) : Cl X 2 mX2_keep [.ref 41, .ref 37] m Q := by
  have c41 : SH[41]? = some (.inl 2) := s10_2 sh30
  have ei : (mI m 41 1 + mI m 41 2) - (mI m 41 1 + mI m 41 2) / (20 : Int32) * (20 : Int32) = nI ((f + M) % 20) := by rw [ef, eM, nI_add, rem20 _ (by omega)]
  have hlt : (f + M) % 20 < 20 := Nat.mod_lt _ (by decide)
  have ec : (nI ((f + M) % 20)).toNatClampNeg = (f + M) % 20 := nI_clamp (by omega)
  have g1 : ∀ y, mI (cpS m (41 + 2 + 4 * ((f + M) % 20)) 37) 41 y = mI m 41 y := fun y => by rw [mI_cpS (by omega), if_neg (by omega), if_neg (by omega), if_neg (by omega), if_neg (by omega)]
  have fr : ∀ x y, ¬ (43 ≤ x ∧ x ≤ 122) → mI (cpS m (41 + 2 + 4 * ((f + M) % 20)) 37) x y = mI m x y := fun x y z => by rw [mI_cpS (by omega), if_neg (by omega), if_neg (by omega), if_neg (by omega), if_neg (by omega)]
  refine pCl_of (by decide +kernel) (Nat.le_of_ble_eq_true rfl) rfl (bX2_keep_0 hW c41 sh37 (by rw [ei]; exact vp_in_nI hlt (by decide)) ?_ ?_)
  · rw [ei, ec, g1, g1, eM, ef]
    intro z
    have h20 : M = 20 := by have := nI_le' (a := 20) (by decide) (by omega) z; omega
    subst h20
    rw [nI_1, rem20 _ (by omega)]
    refine h _ ⟨fun x y z1 z2 => ?_, fun _ _ => rfl, Or.inr ⟨rfl, ?_, ?_, fun i j hi hj => ?_⟩⟩
    · rw [mI_uI, if_neg (fun q => z2 ⟨q.1, Or.inl q.2⟩)]; exact fr x y z1
    · rw [mI_uI, if_neg (by omega), g1]; exact eM
    · rw [mI_uI, if_pos ⟨rfl, rfl⟩]
    · rw [fcP_cst, fcP_cst]
      have e1 : mI (uI (cpS m (41 + 2 + 4 * ((f + 20) % 20)) 37) 41 1 (nI ((f + 1) % 20))) (30 + 11) 1 = nI ((f + 1) % 20) := by rw [mI_uI, if_pos ⟨rfl, rfl⟩]
      have e2 : mI m (30 + 11) 1 = nI f := ef
      rw [e1, e2, nI_clamp (by omega), nI_clamp (by omega)]
      have hc : cst (uI (cpS m (41 + 2 + 4 * ((f + 20) % 20)) 37) 41 1 (nI ((f + 1) % 20))) (30 + 13 + 4 * (((f + 1) % 20 + i) % 20)) j = cst (cpS m (41 + 2 + 4 * ((f + 20) % 20)) 37) (30 + 13 + 4 * (((f + 1) % 20 + i) % 20)) j := cst_c (fun t k ht => by rw [mI_uI, if_neg (by omega)])
      rw [hc, cst_far hlt (Nat.mod_lt _ (by decide)) hj]
      by_cases e : i = 19
      · rw [if_pos e, if_pos (by omega)]
      · rw [if_neg e, if_neg (by omega), show ((f + 1) % 20 + i) % 20 = (f + (i + 1)) % 20 by omega]
  · rw [ei, ec, g1, eM]
    intro z
    have h20 : M < 20 := Nat.not_le.mp fun q => z (nI_le (a := 20) q (by omega))
    rw [nI_1]
    refine h _ ⟨fun x y z1 z2 => ?_, fun _ _ => rfl, Or.inl ⟨h20, ?_, ?_, fun i j hi hj => ?_⟩⟩
    · rw [mI_uI, if_neg (fun q => z2 ⟨q.1, Or.inr q.2⟩)]; exact fr x y z1
    · rw [mI_uI, if_pos ⟨rfl, rfl⟩]
    · rw [mI_uI, if_neg (by omega), g1]; exact ef
    · rw [fcP_cst, fcP_cst]
      have e1 : mI (uI (cpS m (41 + 2 + 4 * ((f + M) % 20)) 37) 41 2 (nI (M + 1))) (30 + 11) 1 = nI f := by rw [mI_uI, if_neg (by omega)]; exact (g1 1).trans ef
      have e2 : mI m (30 + 11) 1 = nI f := ef
      rw [e1, e2, nI_clamp (by omega)]
      have hc : cst (uI (cpS m (41 + 2 + 4 * ((f + M) % 20)) 37) 41 2 (nI (M + 1))) (30 + 13 + 4 * ((f + i) % 20)) j = cst (cpS m (41 + 2 + 4 * ((f + M) % 20)) 37) (30 + 13 + 4 * ((f + i) % 20)) j := cst_c (fun t k ht => by rw [mI_uI, if_neg (by omega)])
      rw [hc, cst_far hlt (Nat.mod_lt _ (by decide)) hj]
      by_cases e : i = M
      · rw [if_pos e, if_pos (by omega)]
      · rw [if_neg e, if_neg (by omega)]
/-- a state brought back -/
def Brought (m : pMem) (M : Nat) (m2 : pMem) : Prop :=
  (∀ x y, ¬ (37 ≤ x ∧ x ≤ 40) → ¬ (x = 41 ∧ y = 2) → mI m2 x y = mI m x y) ∧ (∀ x y, mR m2 x y = mR m x y) ∧ mI m2 41 2 = nI M ∧ ∀ j, j < 15 → cst m2 37 j = fcP m 30 M j
theorem s_bring37 {f M : Nat} (hW : Wf m) (hf : f < 20) (ef : mI m 41 1 = nI f) (hM : M < 20) (eM : mI m 41 2 = nI (M + 1)) (h : ∀ m2, Brought m M m2 → Q none m2) : Cl X 2 mX2_bringBack [.ref 41, .ref 37] m Q := by
  have c41 : SH[41]? = some (.inl 2) := s10_2 sh30
  have e1 : mI m 41 2 - (1 : Int32) = nI M := by rw [eM, nI_pred]
  have hn : ¬ mI m 41 2 ≤ 0 := by rw [eM]; exact fun z => by have := nI_le' (a := M + 1) (b := 0) (by omega) (by decide) z; omega
  have g1 : mI (uI m 41 2 (nI M)) 41 1 = nI f := by rw [mI_uI, if_neg (by omega)]; exact ef
  have g2 : mI (uI m 41 2 (nI M)) 41 2 = nI M := by rw [mI_uI, if_pos ⟨rfl, rfl⟩]
  have hlt : (f + M) % 20 < 20 := Nat.mod_lt _ (by decide)
  have ec : (nI ((f + M) % 20)).toNatClampNeg = (f + M) % 20 := nI_clamp (by omega)
  refine pCl_of (by decide +kernel) (Nat.le_of_ble_eq_true rfl) rfl (bX2_bringBack_0 hW c41 sh37 (fun z => absurd z hn) ?_ ?_)
  · intro _
    rw [e1, g1, g2, nI_add, rem20 _ (by omega)]
    exact vp_in_nI hlt (by decide)
  · intro _
    rw [e1, g1, g2, nI_add, rem20 _ (by omega), ec]
    refine h _ ⟨fun x y z1 z2 => ?_, fun _ _ => rfl, ?_, fun j hj => ?_⟩
    · rw [mI_cpS (by omega), if_neg (by omega), if_neg (by omega), if_neg (by omega), if_neg (by omega), mI_uI, if_neg z2]
    · rw [mI_cpS (by omega), if_neg (by omega), if_neg (by omega), if_neg (by omega), if_neg (by omega), mI_uI, if_pos ⟨rfl, rfl⟩]
    · rw [cst_cpS (by omega) hj, fcP_cst]
      have e2 : mI m (30 + 11) 1 = nI f := ef
      rw [e2, nI_clamp (by omega)]
      exact cst_c (fun t k ht => by rw [mI_uI, if_neg (by omega)])
/-- a past copied -/
theorem s_pastCopy {a b : Nat} (hW : Wf m) (c0 : SH[a]? = some (.inl 2)) (c1 : SH[b]? = some (.inl 2)) (hab : a + 81 < b ∨ b + 81 < a) (h : ∀ m2, (∀ x y, ¬ (a ≤ x ∧ x ≤ a + 81) → mI m2 x y = mI m x y) → (∀ x y, mR m2 x y = mR m x y) → mI m2 a 1 = mI m b 1 → mI m2 a 2 = mI m b 2 → (∀ i j, i < 20 → j < 15 → cst m2 (a + 2 + 4 * i) j = cst m (b + 2 + 4 * i) j) → Q none m2) : Cl X 2 mX2_copy [.ref a, .ref b] m Q := by
  refine pCl_of (by decide +kernel) (Nat.le_of_ble_eq_true rfl) rfl (bX2_copy_0 hW c0 c1 ?_)
  rw [mI_uI, if_neg (by omega)]
  have key := upTo (P := fun t => ∀ m1, (∀ x y, ¬ (a ≤ x ∧ x ≤ a + 81) → mI m1 x y = mI m x y) → (∀ x y, mR m1 x y = mR m x y) → mI m1 a 1 = mI m b 1 → mI m1 a 2 = mI m b 2 → (∀ i j, i < t → j < 15 → cst m1 (a + 2 + 4 * i) j = cst m (b + 2 + 4 * i) j) → Go X 2 mX2_copy Q 18 [(0, .ref a), (1, .ref b), (2, .int (nI t))] [] m1) 20 ?_ ?_ 0 (by decide)
  · refine key _ (fun x y z => by rw [mI_uI, if_neg (by omega), mI_uI, if_neg (by omega)]) (fun _ _ => rfl) (by rw [mI_uI, if_neg (by omega), mI_uI, if_pos ⟨rfl, rfl⟩]) (by rw [mI_uI, if_pos ⟨rfl, rfl⟩]) (fun i j hi => absurd hi (by omega))
  · intro m1 k1 k2 k3 k4 k5
    exact bX2_copy_18 (hW.sm k2) c0 c1 (fun _ => h m1 k1 k2 k3 k4 k5) (fun z => absurd (by decide) z) (fun z => absurd (by decide) z)
  · intro t ht ih m1 k1 k2 k3 k4 k5
    have et : (nI t).toNatClampNeg = t := nI_clamp (by omega)
    refine bX2_copy_18 (hW.sm k2) c0 c1 (fun z => absurd z (nI_ge (a := t) (b := 20) ht (by decide))) (fun _ => vp_in_nI ht (by decide)) (fun _ => ?_)
    rw [et, nI_1]
    have hd : a + 2 + 4 * t + 3 < b + 2 + 4 * t ∨ b + 2 + 4 * t + 3 < a + 2 + 4 * t := by omega
    refine ih _ (fun x y z => ?_) (fun x y => k2 x y) ?_ ?_ (fun i j hi hj => ?_)
    · rw [mI_cpS hd, if_neg (by omega), if_neg (by omega), if_neg (by omega), if_neg (by omega)]; exact k1 x y z
    · rw [mI_cpS hd, if_neg (by omega), if_neg (by omega), if_neg (by omega), if_neg (by omega)]; exact k3
    · rw [mI_cpS hd, if_neg (by omega), if_neg (by omega), if_neg (by omega), if_neg (by omega)]; exact k4
    · by_cases e : i = t
      · subst e
        rw [cst_cpS hd hj]
        exact cst_c (fun u k hu => k1 _ _ (by omega))
      · refine Eq.trans ?_ (k5 i j (by omega) hj)
        refine cst_c (fun u k hu => ?_)
        rw [mI_cpS hd, if_neg (by omega), if_neg (by omega), if_neg (by omega), if_neg (by omega)]
/-- which rule -/
def roOf (x : Int32) : Option Nat := if x = -1 then none else some (12 + 3 * x.toNatClampNeg)
theorem roOf_n {i : Nat} (h : i < 6) : roOf (nI i) = some (12 + 3 * i) := by
  unfold roOf
  rw [if_neg (nI_neM (by omega)), nI_clamp (by omega)]
theorem s_ruleOf {x : Int32} {nr : Nat} (hW : Wf m) (hn : nr ≤ 6) (en : mI m 0 4 = nI nr) (hx : x = -1 ∨ ∃ i, i < nr ∧ x = nI i) (h : Q (some (rvO (roOf x))) m) : Cl X 0 mX11_ruleOf [.ref 0, .int x] m Q := by
  rcases hx with rfl | ⟨i, hi, rfl⟩
  · exact pCl_of (by decide +kernel) (Nat.le_of_ble_eq_true rfl) rfl (bX11_ruleOf_0 hW (fun _ => h) (fun z => absurd (by decide) z) (fun z => absurd (by decide) z) (fun z => absurd (by decide) z) (fun z => absurd (by decide) z))
  · rw [roOf_n (by omega)] at h
    have z1 : ¬ nI i < 0 := nI_pos (by omega)
    have z2 : ¬ mI m 0 4 ≤ nI i := by rw [en]; exact nI_ge hi (by omega)
    have z3 : ¬ (6 : Int32) ≤ nI i := nI_ge (a := i) (b := 6) (by omega) (by decide)
    refine pCl_of (by decide +kernel) (Nat.le_of_ble_eq_true rfl) rfl (bX11_ruleOf_0 hW (fun z => absurd z z1) (fun _ z => absurd z z2) (fun _ _ z => absurd z z3) (fun _ _ _ => vp_in_nI (by omega) (by decide)) (fun _ _ _ => ?_))
    rw [nI_clamp (by omega)]
    exact h
theorem shRule {i : Nat} (h : i < 6) : SH[12 + 3 * i]? = some (.inl 6) := shRules i h
theorem s_inForce {nr : Nat} (hW : Wf m) (hn : nr ≤ 6) (en : mI m 0 4 = nI nr) (hx : mI m 30 3 = -1 ∨ ∃ i, i < nr ∧ mI m 30 3 = nI i) (h : Q (some (rvO (roOf (mI m 30 3)))) m) : Cl X 1 mX11_inForce [.ref 0] m Q := by
  refine pCl_of (by decide +kernel) (Nat.le_of_ble_eq_true rfl) rfl (bX11_inForce_0 hW ?_)
  refine s_ruleOf hW hn en hx ?_
  rcases hx with e | ⟨i, hi, e⟩
  · rw [e] at h ⊢
    exact bX11_inForce_11v1 hW h
  · rw [e, roOf_n (by omega)] at h ⊢
    exact bX11_inForce_11 hW (shRule (by omega)) h
end S20
/-- what a rule says hangs on twelve words -/
theorem evT_w {w w2 : Row} (hw : AgR 12 w w2) : ∀ {ts : List Tok} {a b : List Bool} {s : List Int64}, TyL ts a b → evT w ts s = evT w2 ts s
  | [], _, _, _, _ => rfl
  | t :: ts, a, b, s, ⟨c, h1, h2⟩ => by
    have e : stepM w t s = stepM w2 t s := by
      by_cases e1 : t.1 = 1
      · rw [stepM_1 _ e1, stepM_1 _ e1]
        rcases h1 with ⟨h1, _⟩ | ⟨_, h1, _⟩ | ⟨h1, _⟩ | ⟨h1, _⟩ | ⟨h1, _⟩ | ⟨h1, _⟩
        · rw [e1] at h1; exact absurd h1 (by decide)
        · rw [hw _ (inN h1)]
        · rw [e1] at h1; exact absurd h1 (by decide)
        · rw [e1] at h1; exact absurd h1 (by decide)
        · exact absurd e1 (Tok_ne (Or.inr (Or.inl h1))).2.1
        · exact absurd e1 (Tok_ne (Or.inr (Or.inr h1))).2.1
      · unfold stepM
        rw [if_neg e1, if_neg e1]
    show evT w ts (stepM w t s) = evT w2 ts (stepM w2 t s)
    rw [e]
    exact evT_w hw h2
theorem evR_w {w w2 : Row} (hw : AgR 12 w w2) : ∀ {cs : List Cls}, (∀ c ∈ cs, ClsOk c) → evR w cs = evR w2 cs
  | [], _ => rfl
  | c :: cs, h => by
    obtain ⟨h1, h2, -⟩ := h c (List.mem_cons_self ..)
    have e1 : evT w c.1 [] = evT w2 c.1 [] := evT_w hw h1
    have e2 : evT w c.2 [] = evT w2 c.2 [] := by
      rcases h2 with h2 | h2
      · rw [h2]; rfl
      · exact evT_w hw h2
    unfold evR
    rw [e1, e2, evR_w hw (cs := cs) (fun d hd => h d (List.mem_cons_of_mem _ hd))]
/-- a rule as both have it -/
theorem rule_ev {m : pMem} {nr : Nat} {x : Int32} (h : RulesI m nr) (hx : x = -1 ∨ ∃ i, i < nr ∧ x = nI i) : okR m (roOf x) ∧ ∃ E, AgE (cEv m (roOf x)) E ∧ ((x = -1 ∧ E = none) ∨ ∃ i cs, i < 6 ∧ x = nI i ∧ RuleM m i cs ∧ (∀ c ∈ cs, ClsOk c) ∧ E = some (fun w => evR w cs)) := by
  obtain ⟨h6, _, _, hr⟩ := h
  rcases hx with rfl | ⟨i, hi, rfl⟩
  · refine ⟨fun r hr => ?_, none, ⟨rfl, fun f f2 e => ?_⟩, Or.inl ⟨rfl, rfl⟩⟩
    · have hr : (none : Option Nat) = some r := hr
      cases hr
    · have e : (none : EV) = some f := e
      cases e
  · obtain ⟨cs, a, b, c⟩ := hr i hi
    rw [roOf_n (by omega)]
    refine ⟨fun r hr => ?_, some (fun w => evR w cs), ⟨rfl, fun f f2 e e2 w w2 hw => ?_⟩, Or.inr ⟨i, cs, by omega, rfl, a, c, rfl⟩⟩
    · cases hr
      exact ⟨shRule (by omega), _, b.2.1, b.1⟩
    · have e : some (cEvF (mI m (12 + 3 * i + 1)) (mI m (12 + 3 * i) 2)) = some f := e
      cases e; cases e2
      rw [RuleC_ev b c w]
      exact evR_w hw c
