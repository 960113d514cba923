/-! ===== pairs: ahead, wealth, comes ===== -/
/-- numbers from a least to a greatest -/
theorem inI {x : Int32} {a : Nat} (ha : a < 2 ^ 31) : (¬ x < (0 : Int32) ∧ ¬ nI a < x) ↔ ∃ k, k ≤ a ∧ x = nI k := by
  constructor
  · rintro ⟨h1, h2⟩
    obtain ⟨k, hk, rfl⟩ := nI_of h1
    exact ⟨k, Nat.not_lt.mp fun z => h2 (nI_lt z hk), rfl⟩
  · rintro ⟨k, hk, rfl⟩
    exact ⟨nI_pos (by omega), nI_nlt hk ha⟩
section T3
variable {X : pX} {Q : Option Value → pMem → Prop} {m : pMem}
theorem s_goNow {nr P Sg T N M d K : Nat} (hW : Wf m) (hr : RulesI m nr) (hv : Vw m nr P Sg T N M d) (hK : K < 2 ^ 31) (h : ∀ m2, Tr m m2 P Sg (dayN (cEv m (roOf (mI m 30 3))) (cRd m 31) 6 T P (cSt (cpS m 523 37) 523) K) → Q none m2) : Cl X 6 mX11_goOnFromNow [.ref 0, .int (nI K)] m Q := by
  have hc := (tr_copy hv Same.rf).1
  obtain ⟨⟨okd, _⟩, _, _, _, v12, _⟩ := hv
  have rok := (rule_ev hr v12).1
  have hW1 := hW.sm hc.1.2
  have e30 : mI (cpS m 523 37) 30 3 = mI m 30 3 := hc.1.1 _ _ (fun w => by unfold Scr at w; omega)
  have e04 : mI (cpS m 523 37) 0 4 = mI m 0 4 := hc.1.1 _ _ (fun w => by unfold Scr at w; omega)
  refine pCl_of (by decide +kernel) (Nat.le_of_ble_eq_true rfl) rfl (bX11_goOnFromNow_0 hW ?_)
  refine s_inForce hW1 hr.1 (e04.trans hr.2.1) (by rw [e30]; exact v12) ?_
  rw [e30]
  have dy : Cl X 5 mX0_goOn [.ref 512, .ref 523, rvO (roOf (mI m 30 3)), .int (nI K)] (cpS m 523 37) (fun v m2 => Go X 6 mX11_goOnFromNow Q 30 [(0, .ref 0), (1, .int (nI K))] (v.toList ++ []) m2) :=
    tr_goOn hW rok okd hK hc (fun m2 h2 => bX11_goOnFromNow_30 (hW.sm h2.1.2) (h m2 h2))
  cases hro : roOf (mI m 30 3) with
  | none => rw [hro] at dy; exact bX11_goOnFromNow_26v1 hW1 sh523 dy
  | some r => rw [hro] at dy rok; exact bX11_goOnFromNow_26 hW1 (rok r rfl).1 sh523 dy
end T3
/-- days by the rule in force, as both go them -/
theorem both_days {m : pMem} {nr P Sg T N M d : Nat} (hr : RulesI m nr) (hv : Vw m nr P Sg T N M d) : ∃ E, okE m E ∧ okR m (roOf (mI m 30 3)) ∧ AgE (cEv m (roOf (mI m 30 3))) E ∧ ∀ (s s2 : ST), AgT T s s2 → plOk s.2.1 P Sg → ∀ k, AgT T (dayN (cEv m (roOf (mI m 30 3))) (cRd m 31) 6 T P s k) (dayN E (mRd m) T T P s2 k) := by
  obtain ⟨⟨okd, okm, agd, agt, hpl⟩, ⟨_, _, _, _, _, _, _, v8, _⟩, _, _, v12, _⟩ := hv
  obtain ⟨rok, E, age, re⟩ := rule_ev hr v12
  refine ⟨E, ?_, rok, age, fun s s2 h1 h2 k => dayN_ag age agd okd.2.2.2.1 okd.2.1 okd.2.2.2.2.2 h1 h2 k⟩
  rcases re with ⟨a, b⟩ | ⟨i, cs, a, b, c⟩
  · exact Or.inl ⟨v8.symm.trans a, b⟩
  · exact Or.inr ⟨i, cs, a, v8.symm.trans b, c⟩
theorem Vw_s {m m2 : pMem} {nr P Sg T N M d : Nat} (h : Same Scr m m2) (hw : WeqN nr (fc m 30) (fm m) P Sg T N M d) : WeqN nr (fc m2 30) (fm m2) P Sg T N M d :=
  WeqN_c (fun j hj => fc_c (fun b k hb => h.1 _ _ (fun w => by unfold Scr at w; omega))) (fun j hj => fm_c hj (fun a k z => h.1 _ _ (fun w => by unfold Scr at w; omega))) hw
/-- a model that keeps, tries, and lays back -/
theorem okE_w {m0 m : pMem} {E : EV} (h : Same ScW m0 m) (h8 : mI m 536 8 = mI m0 536 8) (ok : okE m0 E) : okE m E := by
  rcases ok with ⟨o1, o2⟩ | ⟨i, cs, hi, ei, o1, o2, o3⟩
  · exact Or.inl ⟨h8.trans o1, o2⟩
  · exact Or.inr ⟨i, cs, hi, h8.trans ei, RuleM_congr (fun a k z1 z2 => h.1 a k (fun w => by unfold ScW Scr at w; omega)) o1, o2, o3⟩
section T4
variable {X : pX}
theorem p_ahead {x n w : Int32} : Pair X 7 8 mX11_ahead mX12_ahead [.int x, .int n, .int w] := by
  intro m h Q K
  obtain ⟨hW, hC, hT, nr, P, Sg, T, N, M, d, f, hr, hi, hf, hw, hv⟩ := Inv_open h
  have hv0 := hv
  obtain ⟨E, oke, rok, age, days⟩ := both_days hr hv
  obtain ⟨⟨okd, okm, agd, agt, hpl⟩, _⟩ := hv
  obtain ⟨p3, p4, p2, p8, pT, p6⟩ := okd
  obtain ⟨q3, _, q2, _, qT, _⟩ := okm
  -- what is asked for well
  have good : ((w = 2 ∧ ∃ t, t < T ∧ x = nI t) ∨ ((w = 0 ∨ w = 1) ∧ ∃ q, q < P ∧ x = nI q)) → (∃ k, k ≤ 100 ∧ n = nI k) → Cl X 7 mX11_ahead [.ref 0, .int x, .int n, .int w] m Q := by
    intro hwh ⟨k, hk, en⟩
    subst en
    have n1 : ¬ nI k < (0 : Int32) := nI_pos (by omega)
    have n2 : nI k ≤ (100 : Int32) := nI_le (b := 100) hk (by decide)
    -- the model
    have mod : ∀ (m1 : pMem) (Q2 : Option Value → pMem → Prop) (r : Int32), Same Scr m m1 → (∀ s2 : ST, AgT T (dayN (cEv m (roOf (mI m 30 3))) (cRd m 31) 6 T P (cSt (cpS m 523 37) 523) k) s2 → (w = 0 → s2.2.1 x.toNatClampNeg = r) ∧ (w = 1 → s2.2.2.1 x.toNatClampNeg = r) ∧ (w = 2 → s2.2.2.2 x.toNatClampNeg = r)) → (∀ m2, Inv m2 → Q2 (some (.int r)) m2) → Cl X 8 mX12_ahead [.ref 535, .int x, .int (nI k), .int w] m1 Q2 := by
      intro m1 Q2 r hs hval h2
      have hW1 := hW.sm hs.2
      have inv1 := Inv_scr h hs
      have g : ∀ j, j < 9 → mI m1 536 j = mI m 536 j := fun j hj => hs.1 _ _ (fun z => by unfold Scr at z; omega)
      have run : Go X 8 mX12_ahead Q2 36 [(0, .ref 535), (1, .int x), (2, .int (nI k)), (3, .int w)] [.int (1 : Int32)] m1 := by
        refine bX12_ahead_36 hW1 (fun _ => ?_) (fun z => absurd ⟨n1, Int32.not_lt.mpr n2⟩ z)
        refine s_keeps hW1 (fun mk hk1 => ?_)
        have kp : Kp m mk := ⟨hs.tr hk1.1, fun j hj => (hk1.2 j hj).trans (fm_c (by omega) (fun a b z => hs.1 _ _ (fun y => by unfold Scr at y; omega)))⟩
        obtain ⟨tm, ag, g6⟩ := tm_keep hv0 kp
        have hWk := hW.sm kp.1.2
        refine bX12_ahead_62 hWk ?_
        refine tm_goFor hW (okE_w tm.1 (g6 8 (by omega)) oke) ⟨q3, p4, q2, p8, qT, p6⟩ (by omega) (fun j hj => g6 j (by omega)) tm (fun m3 _ t3 => ?_)
        have hW3 := hW.sm t3.1.2
        have v3 := hval _ (days _ _ (ag _ (tr_copy hv0 Same.rf).2) (tr_copy hv0 Same.rf).1.2.2 k)
        have fin : Cl X 2 mX12_laysBack [.ref 535] m3 (fun v m2 => Go X 8 mX12_ahead Q2 106 [(0, .ref 535), (1, .int x), (2, .int (nI k)), (3, .int w), (4, .int (1 : Int32)), (5, .int r)] (v.toList ++ []) m2) :=
          s_lays (m0 := m) hW3 t3.2.1 t3.1 (fun m4 h4 => bX12_ahead_106 (hW.sm h4.1.2) (h2 m4 (Inv_scr h h4.1)))
        have rr : mSt m3 = dayN E (mRd m) T T P (mSt mk) k := t3.2.2.1
        rw [← rr] at v3
        obtain ⟨u0, u1, u2⟩ := v3
        have vx : ¬ w = 2 → vp_in x 4 := fun z => by
          rcases hwh with ⟨y, _⟩ | ⟨_, q, hq, rfl⟩
          · exact absurd y z
          · exact vp_in_nI (by omega) (by decide)
        refine bX12_ahead_67 hW3 (fun z1 z2 => ?_) (fun z1 z2 => ?_) (fun z1 z2 => vx (by rw [z2]; decide)) (fun z1 z2 => ?_) (fun z => vx (by rw [z]; decide)) (fun z => ?_)
        · rcases hwh with ⟨_, q, hq, rfl⟩ | ⟨y | y, _⟩
          · exact vp_in_nI (by omega) (by decide)
          · exact absurd y z1
          · exact absurd y z2
        · have w2 : w = 2 := by
            rcases hwh with ⟨y, _⟩ | ⟨y | y, _⟩
            · exact y
            · exact absurd y z1
            · exact absurd y z2
          rw [show mI m3 539 x.toNatClampNeg = r from u2 w2]; exact fin
        · rw [show mI m3 538 x.toNatClampNeg = r from u1 z2]; exact fin
        · rw [show mI m3 537 x.toNatClampNeg = r from u0 z]; exact fin
      refine pCl_of (by decide +kernel) (Nat.le_of_ble_eq_true rfl) rfl (bX12_ahead_0 hW1 (fun _ _ => bX12_ahead_31 hW1 run) (fun z1 z2 => ?_) (fun z => ?_))
      · rcases hwh with ⟨rfl, _⟩ | ⟨_, hq⟩
        · exact absurd z1 (by decide)
        · exact absurd ((perM ((g 3 (by omega)).trans q3) (by omega)).mpr hq) z2
      · rcases hwh with ⟨rfl, ht⟩ | ⟨y | y, _⟩
        · have := (perM ((g 4 (by omega)).trans qT) (by omega)).mpr ht
          exact bX12_ahead_18 hW1 (fun y => absurd rfl y) (fun _ _ => bX12_ahead_31 hW1 run) (fun _ y => absurd this y)
        · exact absurd (by rw [y]; decide) z
        · exact absurd (by rw [y]; decide) z
    -- the class
    have cls : ∀ b : Int32, (w = 2 → b = 1) → (¬ w = 2 → b = 0) → Go X 7 mX11_ahead Q 42 [(0, .ref 0), (1, .int x), (2, .int (nI k)), (3, .int w), (4, .int b)] [.int (1 : Int32)] m := by
      intro b hb1 hb0
      have w3 : ¬ w < 0 ∧ ¬ (2 : Int32) < w := by
        rcases hwh with ⟨rfl, _⟩ | ⟨rfl | rfl, _⟩ <;> decide
      refine bX11_ahead_42 hW (fun z => absurd z w3.1) (fun _ z => absurd z w3.2) (fun _ _ z => absurd z n1) (fun _ _ _ _ => ?_) (fun _ _ _ z => absurd n2 z)
      refine s_goNow hW hr hv0 (by omega) (fun m2 t2 => ?_)
      have hW2 := hW.sm t2.1.2
      have e4 := cSt_eq t2.2.1
      refine bX11_ahead_76 hW2 (fun z1 z2 => ?_) (fun z1 z2 => ?_) (fun z1 z2 => ?_) (fun z1 z2 => ?_) (fun z1 => ?_) (fun z1 => ?_)
      · rcases hwh with ⟨y, _⟩ | ⟨_, q, hq, rfl⟩
        · rw [hb1 y] at z1; exact absurd z1 (by decide)
        · exact vp_in_nI (by omega) (by decide)
      · rcases hwh with ⟨y, _⟩ | ⟨y, q, hq, rfl⟩
        · rw [hb1 y] at z1; exact absurd z1 (by decide)
        · have y : w = 1 := y.resolve_left z2
          subst y
          refine K _ m2 hW2 (fun Q2 h2 => mod m2 Q2 _ t2.1 (fun s2 hag => ⟨fun z => absurd z (by decide), fun _ => ?_, fun z => absurd z (by decide)⟩) h2)
          rw [nI_clamp (by omega), show mI m2 525 = _ from e4.2.2.1]
          exact (hag.2.2.1 q (by omega)).symm
      · rcases hwh with ⟨y, _⟩ | ⟨_, q, hq, rfl⟩
        · rw [y] at z2; exact absurd z2 (by decide)
        · exact vp_in_nI (by omega) (by decide)
      · rcases hwh with ⟨y, _⟩ | ⟨y, q, hq, rfl⟩
        · rw [y] at z2; exact absurd z2 (by decide)
        · subst z2
          refine K _ m2 hW2 (fun Q2 h2 => mod m2 Q2 _ t2.1 (fun s2 hag => ⟨fun _ => ?_, fun z => absurd z (by decide), fun z => absurd z (by decide)⟩) h2)
          rw [nI_clamp (by omega), show mI m2 524 = _ from e4.2.1]
          exact (hag.2.1 q (by omega)).symm
      · rcases hwh with ⟨_, q, hq, rfl⟩ | ⟨y, _⟩
        · exact vp_in_nI (by omega) (by decide)
        · exact absurd (hb0 (by rcases y with rfl | rfl <;> decide)) z1
      · rcases hwh with ⟨y, q, hq, rfl⟩ | ⟨y, _⟩
        · subst y
          refine K _ m2 hW2 (fun Q2 h2 => mod m2 Q2 _ t2.1 (fun s2 hag => ⟨fun z => absurd z (by decide), fun z => absurd z (by decide), fun _ => ?_⟩) h2)
          rw [nI_clamp (by omega), show mI m2 526 = _ from e4.2.2.2]
          exact (hag.2.2.2.1 q hq).symm
        · exact absurd (hb0 (by rcases y with rfl | rfl <;> decide)) z1
    refine pCl_of (by decide +kernel) (Nat.le_of_ble_eq_true rfl) rfl (bX11_ahead_0 hW (fun z => ?_) (fun z => ?_))
    · rcases hwh with ⟨y, _⟩ | ⟨y, hq⟩
      · exact absurd y z
      · exact bX11_ahead_10 hW (fun _ => cls 0 (fun y => absurd y z) (fun _ => rfl)) (fun y => absurd ((perC (z := 4) p3 (K := 4) rfl p4 (by decide)).mpr hq) y)
    · rcases hwh with ⟨_, ht⟩ | ⟨y, hq⟩
      · exact bX11_ahead_10v1 hW (fun _ => cls 1 (fun _ => rfl) (fun y => absurd z y)) (fun y => absurd ((perC (z := 6) pT (K := 6) rfl p6 (by decide)).mpr ht) y)
      · exact absurd z (by rcases y with rfl | rfl <;> decide)
  -- what is not
  have bad : ¬ (((w = 2 ∧ ∃ t, t < T ∧ x = nI t) ∨ ((w = 0 ∨ w = 1) ∧ ∃ q, q < P ∧ x = nI q)) ∧ ∃ k, k ≤ 100 ∧ n = nI k) → Q (some (.int (-2))) m := by
    intro hb
    refine K _ m hW (fun Q2 h2 => ?_)
    have no : Go X 8 mX12_ahead Q2 36 [(0, .ref 535), (1, .int x), (2, .int n), (3, .int w)] [.int (0 : Int32)] m := bX12_ahead_36v1 hW (h2 m h)
    have yes : ((w = 2 ∧ ∃ t, t < T ∧ x = nI t) ∨ ((w = 0 ∨ w = 1) ∧ ∃ q, q < P ∧ x = nI q)) → Go X 8 mX12_ahead Q2 36 [(0, .ref 535), (1, .int x), (2, .int n), (3, .int w)] [.int (1 : Int32)] m :=
      fun y => bX12_ahead_36 hW (fun z => absurd ⟨y, (inI (a := 100) (by decide)).mp z⟩ hb) (fun _ => h2 m h)
    have w01 : (¬ w < (0 : Int32) ∧ ¬ (1 : Int32) < w) → w = 0 ∨ w = 1 := by
      intro z
      obtain ⟨k, hk, rfl⟩ := (inI (a := 1) (by decide)).mp z
      have : k = 0 ∨ k = 1 := by omega
      rcases this with rfl | rfl
      · exact Or.inl rfl
      · exact Or.inr rfl
    have m18 : Go X 8 mX12_ahead Q2 18 [(0, .ref 535), (1, .int x), (2, .int n), (3, .int w)] [] m :=
      bX12_ahead_18 hW (fun _ => bX12_ahead_35 hW no) (fun z1 z2 => bX12_ahead_31 hW (yes (Or.inl ⟨z1, (perM qT (by omega)).mp z2⟩))) (fun _ _ => bX12_ahead_35 hW no)
    exact pCl_of (by decide +kernel) (Nat.le_of_ble_eq_true rfl) rfl (bX12_ahead_0 hW (fun z1 z2 => bX12_ahead_31 hW (yes (Or.inr ⟨w01 z1, (perM q3 (by omega)).mp z2⟩))) (fun _ _ => m18) (fun _ => m18))
  by_cases c1 : ((w = 2 ∧ ∃ t, t < T ∧ x = nI t) ∨ ((w = 0 ∨ w = 1) ∧ ∃ q, q < P ∧ x = nI q)) ∧ ∃ k, k ≤ 100 ∧ n = nI k
  · exact good c1.1 c1.2
  · have q2 := bad c1
    have no : ∀ b, Go X 7 mX11_ahead Q 42 [(0, .ref 0), (1, .int x), (2, .int n), (3, .int w), (4, .int b)] [.int (0 : Int32)] m := fun b => bX11_ahead_42v1 hW q2
    have w012 : ¬ w < 0 → ¬ (2 : Int32) < w → w = 0 ∨ w = 1 ∨ w = 2 := by
      intro z1 z2
      obtain ⟨k, hk, rfl⟩ := (inI (a := 2) (by decide)).mp ⟨z1, z2⟩
      have : k = 0 ∨ k = 1 ∨ k = 2 := by omega
      rcases this with rfl | rfl | rfl
      · exact Or.inl rfl
      · exact Or.inr (Or.inl rfl)
      · exact Or.inr (Or.inr rfl)
    have yes : ∀ b, (w = 0 ∨ w = 1 ∨ w = 2 → ((w = 2 ∧ ∃ t, t < T ∧ x = nI t) ∨ ((w = 0 ∨ w = 1) ∧ ∃ q, q < P ∧ x = nI q))) → Go X 7 mX11_ahead Q 42 [(0, .ref 0), (1, .int x), (2, .int n), (3, .int w), (4, .int b)] [.int (1 : Int32)] m :=
      fun b y => bX11_ahead_42 hW (fun _ => q2) (fun _ _ => q2) (fun _ _ _ => q2) (fun z1 z2 z3 z4 => absurd ⟨y (w012 z1 z2), (inI (a := 100) (by decide)).mp ⟨z3, Int32.not_lt.mpr z4⟩⟩ c1) (fun _ _ _ _ => q2)
    refine pCl_of (by decide +kernel) (Nat.le_of_ble_eq_true rfl) rfl (bX11_ahead_0 hW (fun z => ?_) (fun z => ?_))
    · exact bX11_ahead_10 hW (fun y => yes 0 (fun u => Or.inr ⟨by
        rcases u with u | u | u
        · exact Or.inl u
        · exact Or.inr u
        · exact absurd u z, (perC (z := 4) p3 (K := 4) rfl p4 (by decide)).mp y⟩)) (fun _ => no 0)
    · exact bX11_ahead_10v1 hW (fun y => yes 1 (fun _ => Or.inl ⟨z, (perC (z := 6) pT (K := 6) rfl p6 (by decide)).mp y⟩)) (fun _ => no 1)
end T4
