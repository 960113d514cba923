section T5
variable {X : pX} {Q : Option Value → pMem → Prop} {m m0 : pMem}
theorem s_wealthIn {E : EV} {P Sg T N : Nat} {s : ST} (hW : Wf m0) (ok : okE m E) (hd : okM m0 P Sg T) (hN : N < 2 ^ 31) (h24 : ∀ k, k < 5 → mI m 536 k = mI m0 536 k) (ht : Tm m0 m P Sg s) (h : ∀ m2, Kp m0 m2 → Q (some (.int (wTown (mI m0 543) (dayN E (mRd m0) T T P s N).2.1 (dayN E (mRd m0) T T P s N).2.2.2 (nI Sg) T P))) m2) : Cl X 8 mX12_wealthIn [.ref 535, .int (nI N)] m Q := by
  have hd0 := hd
  obtain ⟨q3, p4, q2, p8, qT, p6⟩ := hd
  refine pCl_of (by decide +kernel) (Nat.le_of_ble_eq_true rfl) rfl (bX12_wealthIn_0 (hW.sm ht.1.2) ?_)
  refine tm_goFor hW ok hd0 hN h24 ht (fun m3 hm3 t3 => ?_)
  have hW3 := hW.sm t3.1.2
  have g : ∀ k, k < 5 → mI m3 536 k = mI m0 536 k := fun k hk => (hm3.1 _ _ (fun w => by unfold ScM at w; omega)).trans (h24 k hk)
  have rr := t3.2.2.1
  have r7 : mI m3 537 = (dayN E (mRd m0) T T P s N).2.1 := by rw [← rr]; rfl
  have r9 : mI m3 539 = (dayN E (mRd m0) T T P s N).2.2.2 := by rw [← rr]; rfl
  have r43 : mI m3 543 = mI m0 543 := funext fun k => t3.1.1 _ _ (fun w => by unfold ScW Scr at w; omega)
  refine bX12_wealthIn_5 hW3 (by rw [g 3 (by omega), q3]; exact vp_in_nI (by omega) (by decide)) (by rw [g 4 (by omega), qT]; exact vp_in_nI (by omega) (by decide)) ?_
  rw [g 2 (by omega), g 3 (by omega), g 4 (by omega), q2, q3, qT, nI_clamp (by omega), nI_clamp (by omega), r7, r9, r43]
  exact s_lays (m0 := m0) hW3 t3.2.1 t3.1 (fun m4 h4 => bX12_wealthIn_14 (hW.sm h4.1.2) (h m4 h4))
end T5
/-- when one comes, of days to come -/
def comesF (S : Int32) (pl dy : Nat → Int32) : Nat → Nat → Int32
  | 0, _ => -2
  | n + 1, i => if pl i = S then dy i else comesF S pl dy n (i + 1)
theorem comesF_c {S : Int32} {pl dy pl2 dy2 : Nat → Int32} (h1 : ∀ i, pl i = pl2 i) (h2 : ∀ i, dy i = dy2 i) : ∀ n i, comesF S pl dy n i = comesF S pl2 dy2 n i
  | 0, _ => rfl
  | n + 1, i => by unfold comesF; rw [h1, h2, comesF_c h1 h2 n (i + 1)]
theorem dayN_1 {E : EV} {rd : RD} {n T P : Nat} {s : ST} : ∀ k, (dayN E rd n T P s k).1 = s.1 + nI k
  | 0 => by show s.1 = s.1 + nI 0; rw [nI_0, Int32.add_zero]
  | k + 1 => by
    show (dayN E rd n T P s k).1 + 1 = s.1 + nI (k + 1)
    rw [dayN_1 k, Int32.add_assoc, nI_1]
section T6
variable {X : pX}
theorem told_iff {m : pMem} {nr P Sg T N M d : Nat} (hv : Vw m nr P Sg T N M d) : ¬ mI m 31 0 = 0 ↔ mI m 536 0 = 1 := by
  obtain ⟨_, ⟨v1, _⟩, _, v11, _⟩ := hv
  rw [← v1]
  rcases v11 with e | e
  · rw [e]; decide
  · rw [e]; decide
theorem p_wealth {n : Int32} : Pair X 7 9 mX11_wealth mX12_wealth [.int n] := by
  intro m h Q K
  obtain ⟨hW, hC, hT, nr, P, Sg, T, N, M, d, f, hr, hi, hf, hw, hv⟩ := Inv_open h
  have hv0 := hv
  have told := told_iff hv
  obtain ⟨E, oke, rok, age, days⟩ := both_days hr hv
  obtain ⟨_, _, _, w43, _⟩ := rows_of hv
  obtain ⟨⟨okd, okm, agd, agt, hpl⟩, _⟩ := hv
  obtain ⟨p3, p4, p2, p8, pT, p6⟩ := okd
  have bad : ¬ (mI m 536 0 = 1 ∧ ∃ k, k ≤ 100 ∧ n = nI k) → Q (some (.int (-1))) m := fun hb => K _ m hW (fun Q2 h2 => pCl_of (by decide +kernel) (Nat.le_of_ble_eq_true rfl) rfl (bX12_wealth_0 hW (fun z1 z2 => absurd ⟨z1, (inI (a := 100) (by decide)).mp z2⟩ hb) (fun _ _ => h2 m h) (fun _ => h2 m h)))
  refine pCl_of (by decide +kernel) (Nat.le_of_ble_eq_true rfl) rfl (bX11_wealth_0 hW (fun z => bad (fun w => told.mpr w.1 z)) (fun z1 z2 => bad (fun w => ((inI (a := 100) (by decide)).mpr w.2).1 z2)) (fun z1 z2 z3 => ?_) (fun z1 z2 z3 => bad (fun w => z3 (Int32.not_lt.mp ((inI (a := 100) (by decide)).mpr w.2).2))))
  obtain ⟨k, hk, rfl⟩ := (inI (a := 100) (by decide)).mp ⟨z2, Int32.not_lt.mpr z3⟩
  have tc := tr_copy hv0 (Same.rf (m := m))
  refine s_goNow hW hr hv0 (by omega) (fun m2 t2 => ?_)
  have hW2 := hW.sm t2.1.2
  have e4 := cSt_eq t2.2.1
  have g : ∀ a k, a ≤ 36 → 30 ≤ a → mI m2 a k = mI m a k := fun a k z1 z2 => t2.1.1 _ _ (fun w => by unfold Scr at w; omega)
  refine bX11_wealth_30 hW2 (by rw [g _ _ (by omega) (by omega), p3]; exact vp_in_nI (by omega) (by decide)) ?_
  refine K _ m2 hW2 (fun Q2 h2 => ?_)
  have h2s := t2.1
  have gm : ∀ j, j < 9 → mI m2 536 j = mI m 536 j := fun j hj => h2s.1 _ _ (fun w => by unfold Scr at w; omega)
  refine pCl_of (by decide +kernel) (Nat.le_of_ble_eq_true rfl) rfl (bX12_wealth_0 hW2 (fun _ _ => ?_) (fun _ w => absurd ((inI (a := 100) (by decide)).mpr ⟨k, hk, rfl⟩) w) (fun w => absurd ((gm 0 (by omega)).trans (told.mp z1)) w))
  refine s_keeps hW2 (fun mk hk1 => ?_)
  have kp : Kp m mk := ⟨h2s.tr hk1.1, fun j hj => (hk1.2 j hj).trans (fm_c (by omega) (fun a b z => h2s.1 _ _ (fun y => by unfold Scr at y; omega)))⟩
  obtain ⟨tm, ag, g6⟩ := tm_keep hv0 kp
  refine bX12_wealth_25 (hW.sm kp.1.2) ?_
  refine s_wealthIn hW (okE_w tm.1 (g6 8 (by omega)) oke) okm (by omega) (fun j hj => g6 j (by omega)) tm (fun m4 h4 => ?_)
  refine bX12_wealth_30 (hW.sm h4.1.2) ?_
  have dd := days _ _ (ag _ tc.2) tc.1.2.2 k
  have e : wSum (mI m2 35) (tTown (mI m2 524) (mI m2 526) (mI m2 31 2) 6 (mI m2 31 3).toNatClampNeg) 6 = wTown (mI m 543) (dayN E (mRd m) T T P (mSt mk) k).2.1 (dayN E (mRd m) T T P (mSt mk) k).2.2.2 (nI Sg) T P := by
    rw [g 31 2 (by omega) (by omega), g 31 3 (by omega) (by omega), p2, p3, nI_clamp (by omega), show mI m2 35 = mI m 35 from funext fun k => g _ _ (by omega) (by omega), show mI m2 524 = _ from e4.2.1, show mI m2 526 = _ from e4.2.2.2]
    exact wealth_ag dd.2.2.2 w43 dd.2.1 p6 p8 p4
  rw [← e]
  exact h2 m4 (Inv_scr h h4.1)
theorem p_comes {x : Int32} : Pair X 5 7 mX11_comes mX12_comes [.int x] := by
  intro m h Q K
  obtain ⟨hW, hC, hT, nr, P, Sg, T, N, M, d, f, hr, hi, hf, hw, hv⟩ := Inv_open h
  have hv0 := hv
  obtain ⟨E, oke, rok, age, days⟩ := both_days hr hv
  obtain ⟨⟨okd, okm, agd, agt, hpl⟩, ⟨_, _, v3, v4, _⟩, ⟨_, _, hd⟩, _, v12, _⟩ := hv
  obtain ⟨p3, p4, p2, p8, pT, p6⟩ := okd
  have okm0 := okm
  obtain ⟨q3, _, q2, _, qT, _⟩ := okm
  have tc := tr_copy hv0 (Same.rf (m := m))
  by_cases c : ∃ q, q < P ∧ x = nI q
  · have cC := (perC (z := 4) p3 (K := 4) rfl p4 (by decide)).mpr c
    have cM := (perM q3 (by omega)).mpr c
    obtain ⟨q, hq, rfl⟩ := c
    have eq : (nI q).toNatClampNeg = q := nI_clamp (by omega)
    have vq : vp_in (nI q) 4 := vp_in_nI (by omega) (by decide)
    -- the model
    have mod : ∀ m1, Same Scr m m1 → ∀ Q2 : Option Value → pMem → Prop, (∀ m2, Inv m2 → Q2 (some (.int (comesF (nI Sg) (fun i => (dayN (cEv m (roOf (mI m 30 3))) (cRd m 31) 6 T P (cSt (cpS m 523 37) 523) i).2.1 q) (fun i => nI (d + i)) 200 0))) m2) → Cl X 7 mX12_comes [.ref 535, .int (nI q)] m1 Q2 := by
      intro m1 hs Q2 h2
      have hW1 := hW.sm hs.2
      have g : ∀ j, j < 9 → mI m1 536 j = mI m 536 j := fun j hj => hs.1 _ _ (fun w => by unfold Scr at w; omega)
      refine pCl_of (by decide +kernel) (Nat.le_of_ble_eq_true rfl) rfl (bX12_comes_0 hW1 (fun _ => ?_) (fun z => absurd (by rw [g 3 (by omega)]; exact cM) z))
      refine s_keeps hW1 (fun mk hk1 => ?_)
      have kp : Kp m mk := ⟨hs.tr hk1.1, fun j hj => (hk1.2 j hj).trans (fm_c (by omega) (fun a b z => hs.1 _ _ (fun y => by unfold Scr at y; omega)))⟩
      obtain ⟨tm, ag, g6⟩ := tm_keep hv0 kp
      have dd := days _ _ (ag _ tc.2) tc.1.2.2
      have hpl1 : ∀ i, (dayN (cEv m (roOf (mI m 30 3))) (cRd m 31) 6 T P (cSt (cpS m 523 37) 523) i).2.1 q = (dayN E (mRd m) T T P (mSt mk) i).2.1 q := fun i => (dd i).2.1 q (by omega)
      rw [comesF_c (pl2 := fun i => (dayN E (mRd m) T T P (mSt mk) i).2.1 q) hpl1 (dy2 := fun i => nI (d + i)) (fun _ => rfl)] at h2
      refine bX12_comes_14 (hW.sm kp.1.2) ?_
      -- it stands
      have stop : ∀ m3 s v z, Tm m m3 P Sg s → (v = comesF (nI Sg) (fun i => (dayN E (mRd m) T T P (mSt mk) i).2.1 q) (fun i => nI (d + i)) 200 0) → Cl X 2 mX12_laysBack [.ref 535] m3 (fun v2 m2 => Go X 7 mX12_comes Q2 72 [(0, .ref 535), (1, .int (nI q)), (2, .int v), (3, .int z)] (v2.toList ++ []) m2) := by
        intro m3 s v z t3 hv3
        refine s_lays (m0 := m) (hW.sm t3.1.2) t3.2.1 t3.1 (fun m4 h4 => bX12_comes_72 (hW.sm h4.1.2) ?_)
        rw [hv3]
        exact h2 m4 (Inv_scr h h4.1)
      have key : ∀ n i, n + i = 200 → ∀ m3, Tm m m3 P Sg (dayN E (mRd m) T T P (mSt mk) i) → (∀ j, j < 5 → mI m3 536 j = mI m 536 j) → mI m3 536 8 = mI m 536 8 → comesF (nI Sg) (fun i => (dayN E (mRd m) T T P (mSt mk) i).2.1 q) (fun i => nI (d + i)) n i = comesF (nI Sg) (fun i => (dayN E (mRd m) T T P (mSt mk) i).2.1 q) (fun i => nI (d + i)) 200 0 →
          Go X 7 mX12_comes Q2 19 [(0, .ref 535), (1, .int (nI q)), (2, .int (-2 : Int32)), (3, .int (nI i))] [] m3 := by
        intro n
        induction n with
        | zero =>
          intro i hi2 m3 t3 g3 g8 hc
          obtain rfl : i = 200 := by omega
          exact bX12_comes_19 (hW.sm t3.1.2) (fun _ => stop m3 _ _ _ t3 hc) (fun z => absurd (by decide) z) (fun z => absurd (by decide) z) (fun z => absurd (by decide) z) (fun z => absurd (by decide) z)
        | succ n ih =>
          intro i hi2 m3 t3 g3 g8 hc
          have hW3 := hW.sm t3.1.2
          have hlt : ¬ (200 : Int32) ≤ nI i := nI_ge (a := i) (b := 200) (by omega) (by decide)
          have e7 : mI m3 537 = (dayN E (mRd m) T T P (mSt mk) i).2.1 := by rw [← t3.2.2.1]; rfl
          have e5 : mI m3 536 5 = nI (d + i) := by
            have : mI m3 536 5 = (dayN E (mRd m) T T P (mSt mk) i).1 := by rw [← t3.2.2.1]; rfl
            rw [this, dayN_1, show (mSt mk).1 = nI d from (g6 5 (by omega)).trans v4, nI_add]
          have e2 : mI m3 536 2 = nI Sg := (g3 2 (by omega)).trans q2
          refine bX12_comes_19 hW3 (fun z => absurd z hlt) (fun _ z => absurd rfl z) (fun _ _ => vq) (fun _ _ z => ?_) (fun _ _ z => ?_)
          · rw [eq, e7, e2] at z
            refine tm_day hW (okE_w t3.1 g8 oke) okm0 g3 t3 (fun m5 hm5 t5 => ?_)
            refine bX12_comes_61 (hW.sm t5.1.2) ?_
            rw [nI_1]
            refine ih (i + 1) (by omega) m5 t5 (fun j hj => (hm5.1 _ _ (fun w => by unfold ScM at w; omega)).trans (g3 j hj)) ((hm5.1 _ _ (fun w => by unfold ScM at w; omega)).trans g8) ?_
            rw [← hc]
            show _ = if (dayN E (mRd m) T T P (mSt mk) i).2.1 q = nI Sg then nI (d + i) else _
            rw [if_neg z]
          · rw [eq, e7, e2] at z
            have hcv : nI (d + i) = comesF (nI Sg) (fun i => (dayN E (mRd m) T T P (mSt mk) i).2.1 q) (fun i => nI (d + i)) 200 0 := by
              rw [← hc]
              show nI (d + i) = if (dayN E (mRd m) T T P (mSt mk) i).2.1 q = nI Sg then nI (d + i) else _
              rw [if_pos z]
            have hne : ¬ nI (d + i) = (-2 : Int32) := by
              intro w
              have h1 := nI_pos (n := d + i) (by omega)
              rw [w] at h1
              exact h1 (by decide)
            refine tm_day hW (okE_w t3.1 g8 oke) okm0 g3 t3 (fun m5 hm5 t5 => ?_)
            refine bX12_comes_61 (hW.sm t5.1.2) ?_
            rw [nI_1, e5]
            exact bX12_comes_19 (hW.sm t5.1.2) (fun _ => stop m5 _ _ _ t5 hcv) (fun _ _ => stop m5 _ _ _ t5 hcv) (fun _ z => absurd z hne) (fun _ z => absurd z hne) (fun _ z => absurd z hne)
      exact key 200 0 rfl mk tm (fun j hj => g6 j (by omega)) (g6 8 (by omega)) rfl
    -- the class
    refine pCl_of (by decide +kernel) (Nat.le_of_ble_eq_true rfl) rfl (bX11_comes_0 hW (fun _ => ?_) (fun z => absurd cC z))
    have key : ∀ n i, n + i = 200 → ∀ m3, Tr m m3 P Sg (dayN (cEv m (roOf (mI m 30 3))) (cRd m 31) 6 T P (cSt (cpS m 523 37) 523) i) → comesF (nI Sg) (fun i => (dayN (cEv m (roOf (mI m 30 3))) (cRd m 31) 6 T P (cSt (cpS m 523 37) 523) i).2.1 q) (fun i => nI (d + i)) n i = comesF (nI Sg) (fun i => (dayN (cEv m (roOf (mI m 30 3))) (cRd m 31) 6 T P (cSt (cpS m 523 37) 523) i).2.1 q) (fun i => nI (d + i)) 200 0 →
        Go X 5 mX11_comes Q 32 [(0, .ref 0), (1, .int (nI q)), (2, .int (nI i))] [] m3 := by
      intro n
      induction n with
      | zero =>
        intro i hi2 m3 t3 hc
        obtain rfl : i = 200 := by omega
        refine bX11_comes_32 (hW.sm t3.1.2) (fun _ => ?_) (fun z => absurd (by decide) z) (fun z => absurd (by decide) z) (fun z => absurd (by decide) z)
        have hc : (-2 : Int32) = _ := hc
        rw [hc]
        exact K _ m3 (hW.sm t3.1.2) (fun Q2 h2 => mod m3 t3.1 Q2 h2)
      | succ n ih =>
        intro i hi2 m3 t3 hc
        have hW3 := hW.sm t3.1.2
        have hlt : ¬ (200 : Int32) ≤ nI i := nI_ge (a := i) (b := 200) (by omega) (by decide)
        have e4 := cSt_eq t3.2.1
        have g : ∀ a k, a ≤ 36 → 28 ≤ a ∨ a = 0 → mI m3 a k = mI m a k := fun a k z1 z2 => t3.1.1 _ _ (fun w => by unfold Scr at w; omega)
        have e2 : mI m3 31 2 = nI Sg := (g _ _ (by omega) (by omega)).trans p2
        have e7 : mI m3 524 = (dayN (cEv m (roOf (mI m 30 3))) (cRd m 31) 6 T P (cSt (cpS m 523 37) 523) i).2.1 := e4.2.1
        have e5 : mI m3 523 0 = nI (d + i) := by
          rw [e4.1, dayN_1, show (cSt (cpS m 523 37) 523).1 = nI d from tc.2.1.trans v4, nI_add]
        refine bX11_comes_32 hW3 (fun z => absurd z hlt) (fun _ => vq) (fun _ z => ?_) (fun _ z => ?_)
        · rw [eq, e7, e2] at z
          have e30 : mI m3 30 3 = mI m 30 3 := g _ _ (by omega) (by omega)
          refine s_inForce hW3 hr.1 ((g _ _ (by omega) (by omega)).trans hr.2.1) (by rw [e30]; exact v12) ?_
          rw [e30]
          have dy : Cl X 4 mX0_oneDay [.ref 512, .ref 523, rvO (roOf (mI m 30 3))] m3 (fun v m2 => Go X 5 mX11_comes Q 84 [(0, .ref 0), (1, .int (nI q)), (2, .int (nI i))] (v.toList ++ []) m2) := by
            refine tr_day hW rok ⟨p3, p4, p2, p8, pT, p6⟩ t3 (fun m5 t5 => ?_)
            refine bX11_comes_84 (hW.sm t5.1.2) ?_
            rw [nI_1]
            refine ih (i + 1) (by omega) m5 t5 ?_
            rw [← hc]
            show _ = if (dayN (cEv m (roOf (mI m 30 3))) (cRd m 31) 6 T P (cSt (cpS m 523 37) 523) i).2.1 q = nI Sg then nI (d + i) else _
            rw [if_neg z]
          cases hro : roOf (mI m 30 3) with
          | none => rw [hro] at dy; exact bX11_comes_81v1 hW3 sh523 dy
          | some r => rw [hro] at dy rok; exact bX11_comes_81 hW3 (rok r rfl).1 sh523 dy
        · rw [eq, e7, e2] at z
          rw [e5]
          have hcv : nI (d + i) = comesF (nI Sg) (fun i => (dayN (cEv m (roOf (mI m 30 3))) (cRd m 31) 6 T P (cSt (cpS m 523 37) 523) i).2.1 q) (fun i => nI (d + i)) 200 0 := by
            rw [← hc]
            show nI (d + i) = if (dayN (cEv m (roOf (mI m 30 3))) (cRd m 31) 6 T P (cSt (cpS m 523 37) 523) i).2.1 q = nI Sg then nI (d + i) else _
            rw [if_pos z]
          rw [hcv]
          exact K _ m3 hW3 (fun Q2 h2 => mod m3 t3.1 Q2 h2)
    exact key 200 0 rfl _ tc.1 rfl
  · have cC : ¬ (¬ x < 0 ∧ ¬ mI m 31 3 ≤ x ∧ ¬ (4 : Int32) ≤ x) := fun z => c ((perC (z := 4) p3 (K := 4) rfl p4 (by decide)).mp z)
    have cM : ¬ (¬ x < 0 ∧ ¬ (mI m 536 3 - (1 : Int32)) < x) := fun z => c ((perM q3 (by omega)).mp z)
    exact pCl_of (by decide +kernel) (Nat.le_of_ble_eq_true rfl) rfl (bX11_comes_0 hW (fun z => absurd z cC) (fun _ => K _ m hW (fun Q2 h2 => pCl_of (by decide +kernel) (Nat.le_of_ble_eq_true rfl) rfl (bX12_comes_0 hW (fun z => absurd z cM) (fun _ => h2 m h)))))
end T6
