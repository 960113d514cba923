/-! ===== tried: the class's trial, the model's own rows ===== -/
def ScW (a k : Nat) : Prop := Scr a k ∨ (536 ≤ a ∧ a ≤ 539)
/-- kept in the fifth image -/
def Im5 (m0 m : pMem) : Prop := ∀ j, j < 23 → mI m 570 (1800 + j) = fm m0 j
def Kp (m0 m : pMem) : Prop := Same Scr m0 m ∧ Im5 m0 m
theorem lay23 : ∀ j, j < 23 → 536 ≤ (layR j).1 ∧ (layR j).1 ≤ 539 := by decide +kernel
theorem Kp_sv {m m1 : pMem} (h : SvI m 4 23 m1) : Kp m m1 := by
  obtain ⟨_, _, h3, h4, h5⟩ := h
  refine ⟨⟨fun a k z => ?_, h5⟩, fun j hj => ?_⟩
  · by_cases e : a = 570
    · subst e
      rw [h4, if_neg]
      intro w
      exact z (by unfold Scr; omega)
    · exact h3 a k e (fun w => z (by unfold Scr; omega)) (fun w => z (by unfold Scr; omega))
  · rw [h4, if_pos (by omega), show 1800 + j - 450 * 4 = j by omega]
theorem Kp_bk {m0 m m3 : pMem} (hK : Im5 m0 m) (hS : Same ScW m0 m) (h : BkI m 4 23 m3) : Kp m0 m3 := by
  obtain ⟨_, _, h3, h4, h5, _, h7⟩ := h
  have row : ∀ j, j < 23 → mI m3 (layR j).1 (layR j).2 = fm m0 j := fun j hj => (h4 j hj).trans (hK j hj)
  refine ⟨⟨fun a k z => ?_, fun x y => (h7 x y).trans (hS.2 x y)⟩, fun j hj => (h3 _).trans (hK j hj)⟩
  by_cases e0 : a = 536
  · subst e0
    have hk : k < 9 := Nat.not_le.mp fun w => z (by unfold Scr; omega)
    have := row k (by omega)
    have e := lR_536 k hk
    rw [Nat.zero_add] at e
    rw [e, fm_sc hk] at this
    exact this
  · by_cases e1 : a = 537
    · subst e1
      have hk : k < 4 := Nat.not_le.mp fun w => z (by unfold Scr; omega)
      have := row (9 + k) (by omega)
      rw [lR_537 k hk, fm_pl hk] at this
      exact this
    · by_cases e2 : a = 538
      · subst e2
        have hk : k < 4 := Nat.not_le.mp fun w => z (by unfold Scr; omega)
        have := row (13 + k) (by omega)
        rw [lR_538 k hk, fm_go hk] at this
        exact this
      · by_cases e3 : a = 539
        · subst e3
          have hk : k < 6 := Nat.not_le.mp fun w => z (by unfold Scr; omega)
          have := row (17 + k) (by omega)
          rw [lR_539 k hk, fm_wh hk] at this
          exact this
        · have hn : ¬ ScW a k := fun w => w.elim z (fun w => by omega)
          by_cases e5 : a = 570
          · subst e5; rw [h3]; exact hS.1 _ _ hn
          · rw [h5 a k (fun j hj => by have := lay23 j hj; omega) (fun w => z (by unfold Scr; omega)) (fun w => z (by unfold Scr; omega))]
            exact hS.1 _ _ hn
section T1
variable {X : pX} {Q : Option Value → pMem → Prop} {m : pMem}
theorem s_keeps (hW : Wf m) (h : ∀ m2, Kp m m2 → Q none m2) : Cl X 2 mX12_keepsAll [.ref 535] m Q := by
  refine pCl_of (by decide +kernel) (Nat.le_of_ble_eq_true rfl) rfl (bX12_keepsAll_0 hW ?_)
  exact s_keepAll (k := 4) hW rfl (fun m2 h2 => bX12_keepsAll_6 (hW.sm h2.2.2.2.2) (h m2 (Kp_sv h2)))
theorem s_lays {m0 : pMem} (hW : Wf m) (hK : Im5 m0 m) (hS : Same ScW m0 m) (h : ∀ m2, Kp m0 m2 → Q none m2) : Cl X 2 mX12_laysBack [.ref 535] m Q := by
  refine pCl_of (by decide +kernel) (Nat.le_of_ble_eq_true rfl) rfl (bX12_laysBack_0 hW ?_)
  exact s_layAll (k := 4) hW rfl (fun m2 h2 => bX12_laysBack_6 (hW.sm h2.2.2.2.2.2.2) (h m2 (Kp_bk hK hS h2)))
end T1
/-- the class tries -/
def Tr (m0 m : pMem) (P Sg : Nat) (s : ST) : Prop := Same Scr m0 m ∧ cSt m 523 = s ∧ plOk s.2.1 P Sg
/-- the model tries -/
def Tm (m0 m : pMem) (P Sg : Nat) (s : ST) : Prop := Same ScW m0 m ∧ Im5 m0 m ∧ mSt m = s ∧ plOk s.2.1 P Sg
theorem Same.sc {E : Nat → Nat → Prop} {m0 m1 m2 : pMem} (h : Same Scr m0 m1) (h2 : Same E m1 m2) (hE : ∀ a k, E a k → Scr a k) : Same Scr m0 m2 := h.tr (h2.mo hE)
theorem ScD_s {a k : Nat} (h : ScD 523 a k) : Scr a k := by unfold ScD at h; unfold Scr; omega
theorem Scr_r : ∀ a k, 12 ≤ a → a ≤ 29 → Scr a k → a % 3 = 0 ∧ k = 3 := by
  intro a k h1 h2 h
  unfold Scr at h
  omega
theorem cRd_s {m0 m : pMem} (h : Same Scr m0 m) : cRd m 31 = cRd m0 31 := h.kRd (fun a k z1 z2 w => by unfold Scr at w; omega)
section T2
variable {X : pX} {Q : Option Value → pMem → Prop} {m m0 : pMem}
theorem tr_day {ro : Option Nat} {P Sg T : Nat} {s : ST} (hW : Wf m0) (ok : okR m0 ro) (hd : okD m0 P Sg T) (ht : Tr m0 m P Sg s) (h : ∀ m2, Tr m0 m2 P Sg (dayF (cEv m0 ro) (cRd m0 31) 6 T P s).2 → Q (some (.int (dayF (cEv m0 ro) (cRd m0 31) 6 T P s).1)) m2) : Cl X 4 mX0_oneDay [.ref 512, .ref 523, rvO ro] m Q := by
  obtain ⟨h1, h2, h3⟩ := ht
  have e1 : mI m 524 = s.2.1 := (cSt_eq h2).2.1
  refine s_day523 (hW.sm h1.2) (h1.kR Scr_r ok) (h1.kD (fun k w => by unfold Scr at w; omega) hd) (by rw [e1]; exact h3) (fun m2 hm2 e => ?_)
  rw [h1.kEv Scr_r ok, cRd_s h1, h2] at e ⊢
  exact h m2 ⟨h1.sc hm2 (fun a k => ScD_s), e, dayF_pl (rd := cRd m0 31) hd.2.2.1 hd.2.2.2.1 h3⟩
theorem tr_goOn {ro : Option Nat} {P Sg T N : Nat} {s : ST} (hW : Wf m0) (ok : okR m0 ro) (hd : okD m0 P Sg T) (hN : N < 2 ^ 31) (ht : Tr m0 m P Sg s) (h : ∀ m2, Tr m0 m2 P Sg (dayN (cEv m0 ro) (cRd m0 31) 6 T P s N) → Q none m2) : Cl X 5 mX0_goOn [.ref 512, .ref 523, rvO ro, .int (nI N)] m Q := by
  obtain ⟨h1, h2, h3⟩ := ht
  have e1 : mI m 524 = s.2.1 := (cSt_eq h2).2.1
  refine s_goOn523 (hW.sm h1.2) (h1.kR Scr_r ok) (h1.kD (fun k w => by unfold Scr at w; omega) hd) (by rw [e1]; exact h3) hN (fun m2 hm2 e => ?_)
  rw [h1.kEv Scr_r ok, cRd_s h1, h2] at e
  exact h m2 ⟨h1.sc hm2 (fun a k => ScD_s), e, dayN_pl (rd := cRd m0 31) hd.2.2.1 hd.2.2.2.1 h3 N⟩
theorem tm_day {E : EV} {P Sg T : Nat} {s : ST} (hW : Wf m0) (ok : okE m E) (hd : okM m0 P Sg T) (h24 : ∀ k, k < 5 → mI m 536 k = mI m0 536 k) (ht : Tm m0 m P Sg s) (h : ∀ m2, Same ScM m m2 → Tm m0 m2 P Sg (dayF E (mRd m0) T T P s).2 → Q (some (.int (dayF E (mRd m0) T T P s).1)) m2) : Cl X 6 mX12_goes [.ref 535] m Q := by
  obtain ⟨h1, h2, h3, h4⟩ := ht
  have e1 : mI m 537 = s.2.1 := by rw [← h3]; rfl
  have eR : mRd m = mRd m0 := by
    unfold mRd
    rw [h24 1 (by omega), h24 2 (by omega), show mI m 540 = mI m0 540 from funext fun k => h1.1 _ _ (fun w => by unfold ScW Scr at w; omega), show mI m 541 = mI m0 541 from funext fun k => h1.1 _ _ (fun w => by unfold ScW Scr at w; omega), show mI m 542 = mI m0 542 from funext fun k => h1.1 _ _ (fun w => by unfold ScW Scr at w; omega), show mI m 543 = mI m0 543 from funext fun k => h1.1 _ _ (fun w => by unfold ScW Scr at w; omega)]
  have hd1 : okM m P Sg T := by
    obtain ⟨a, b, c, d, e, f⟩ := hd
    exact ⟨(h24 3 (by omega)).trans a, b, (h24 2 (by omega)).trans c, d, (h24 4 (by omega)).trans e, f⟩
  refine s_goes (hW.sm h1.2) ok hd1 (by rw [e1]; exact h4) (fun m2 hm2 e => ?_)
  rw [eR, h3] at e ⊢
  refine h m2 hm2 ⟨h1.tr (hm2.mo (fun a k w => Or.inr (by unfold ScM at w; omega))), fun j hj => (hm2.1 _ _ (fun w => by unfold ScM at w; omega)).trans (h2 j hj), e, dayF_pl (rd := mRd m0) hd.2.2.1 hd.2.2.2.1 h4⟩
theorem tm_goFor {E : EV} {P Sg T N : Nat} {s : ST} (hW : Wf m0) (ok : okE m E) (hd : okM m0 P Sg T) (hN : N < 2 ^ 31) (h24 : ∀ k, k < 5 → mI m 536 k = mI m0 536 k) (ht : Tm m0 m P Sg s) (h : ∀ m2, Same ScM m m2 → Tm m0 m2 P Sg (dayN E (mRd m0) T T P s N) → Q none m2) : Cl X 7 mX12_goFor [.ref 535, .int (nI N)] m Q := by
  obtain ⟨h1, h2, h3, h4⟩ := ht
  have e1 : mI m 537 = s.2.1 := by rw [← h3]; rfl
  have eR : mRd m = mRd m0 := by
    unfold mRd
    rw [h24 1 (by omega), h24 2 (by omega), show mI m 540 = mI m0 540 from funext fun k => h1.1 _ _ (fun w => by unfold ScW Scr at w; omega), show mI m 541 = mI m0 541 from funext fun k => h1.1 _ _ (fun w => by unfold ScW Scr at w; omega), show mI m 542 = mI m0 542 from funext fun k => h1.1 _ _ (fun w => by unfold ScW Scr at w; omega), show mI m 543 = mI m0 543 from funext fun k => h1.1 _ _ (fun w => by unfold ScW Scr at w; omega)]
  have hd1 : okM m P Sg T := by
    obtain ⟨a, b, c, d, e, f⟩ := hd
    exact ⟨(h24 3 (by omega)).trans a, b, (h24 2 (by omega)).trans c, d, (h24 4 (by omega)).trans e, f⟩
  refine s_goFor (hW.sm h1.2) ok hd1 (by rw [e1]; exact h4) hN (fun m2 hm2 e => ?_)
  rw [eR, h3] at e
  refine h m2 hm2 ⟨h1.tr (hm2.mo (fun a k w => Or.inr (by unfold ScM at w; omega))), fun j hj => (hm2.1 _ _ (fun w => by unfold ScM at w; omega)).trans (h2 j hj), e, dayN_pl (rd := mRd m0) hd.2.2.1 hd.2.2.2.1 h4 N⟩
end T2
/-- the state now, copied -/
theorem tr_copy {m0 m : pMem} {nr P Sg T N M d : Nat} (hv : Vw m0 nr P Sg T N M d) (h : Same Scr m0 m) : Tr m0 (cpS m 523 37) P Sg (cSt (cpS m 523 37) 523) ∧ AgT T (cSt (cpS m 523 37) 523) (mSt m0) := by
  obtain ⟨_, _, _, _, s1, s2, s3⟩ := rows_of hv
  obtain ⟨⟨⟨_, p4, _, _, _, p6⟩, _, _, _, hpl⟩, ⟨_, _, v3, v4, _⟩, _⟩ := hv
  have g : ∀ a k, 37 ≤ a → a ≤ 40 → mI m a k = mI m0 a k := fun a k z1 z2 => h.1 _ _ (fun w => by unfold Scr at w; omega)
  have e0 : mI (cpS m 523 37) 523 0 = mI m0 37 0 := by rw [mI_cpS (by omega), if_pos ⟨rfl, rfl⟩]; exact g _ _ (by omega) (by omega)
  have e1 : ∀ q, q < 4 → mI (cpS m 523 37) 524 q = mI m0 38 q := fun q hq => by rw [mI_cpS (by omega), if_neg (by omega), if_pos ⟨rfl, hq⟩]; exact g _ _ (by omega) (by omega)
  have e2 : ∀ q, q < 4 → mI (cpS m 523 37) 525 q = mI m0 39 q := fun q hq => by rw [mI_cpS (by omega), if_neg (by omega), if_neg (by omega), if_pos ⟨rfl, hq⟩]; exact g _ _ (by omega) (by omega)
  have e3 : ∀ q, q < 6 → mI (cpS m 523 37) 526 q = mI m0 40 q := fun q hq => by rw [mI_cpS (by omega), if_neg (by omega), if_neg (by omega), if_neg (by omega), if_pos ⟨rfl, hq⟩]; exact g _ _ (by omega) (by omega)
  refine ⟨⟨⟨fun a k z => ?_, fun x y => h.2 x y⟩, rfl, fun q hq => ?_⟩, ⟨e0.trans (v3.trans v4.symm), fun q hq => (e1 q hq).trans (s1 q hq), fun q hq => (e2 q hq).trans (s2 q hq), fun t ht => (e3 t (by omega)).trans (s3.1 t ht), fun t ht h6 => (e3 t h6).trans (s3.2 t ht h6)⟩⟩
  · have : ¬ (513 ≤ a ∧ a ≤ 534) := fun w => z (by unfold Scr; omega)
    rw [mI_cpS (by omega), if_neg (by omega), if_neg (by omega), if_neg (by omega), if_neg (by omega)]
    exact h.1 a k z
  · obtain ⟨p, hp, ep⟩ := hpl q hq
    exact ⟨p, hp, (e1 q (by omega)).trans ep⟩
/-- the rows now, kept -/
theorem tm_keep {m0 m : pMem} {nr P Sg T N M d : Nat} (hv : Vw m0 nr P Sg T N M d) (h : Kp m0 m) : Tm m0 m P Sg (mSt m) ∧ (∀ (s : ST), AgT T s (mSt m0) → AgT T s (mSt m)) ∧ ∀ k, k < 9 → mI m 536 k = mI m0 536 k := by
  obtain ⟨⟨⟨_, p4, _, _, _, p6⟩, _, _, ⟨_, s1, _⟩, hpl⟩, _⟩ := hv
  have g6 : ∀ k, k < 9 → mI m 536 k = mI m0 536 k := fun k hk => h.1.1 _ _ (fun w => by unfold Scr at w; omega)
  have g7 : ∀ k, k < 4 → mI m 537 k = mI m0 537 k := fun k hk => h.1.1 _ _ (fun w => by unfold Scr at w; omega)
  have g8 : ∀ k, k < 4 → mI m 538 k = mI m0 538 k := fun k hk => h.1.1 _ _ (fun w => by unfold Scr at w; omega)
  have g9 : ∀ k, k < 6 → mI m 539 k = mI m0 539 k := fun k hk => h.1.1 _ _ (fun w => by unfold Scr at w; omega)
  refine ⟨⟨h.1.mo (fun a k w => Or.inl w), h.2, rfl, fun q hq => ?_⟩, fun s ⟨a1, a2, a3, a4⟩ => ⟨a1.trans (g6 5 (by omega)).symm, fun q hq => (a2 q hq).trans (g7 q hq).symm, fun q hq => (a3 q hq).trans (g8 q hq).symm, fun t ht => (a4.1 t ht).trans (g9 t (by omega)).symm, a4.2⟩, g6⟩
  obtain ⟨p, hp, ep⟩ := hpl q hq
  have : mI m0 38 q = mI m0 537 q := s1 q (by omega)
  exact ⟨p, hp, (g7 q (by omega)).trans (this.symm.trans ep)⟩
