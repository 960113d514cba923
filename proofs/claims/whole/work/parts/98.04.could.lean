/-! ===== the model's side: by which rule notes were so ===== -/
def BeI (m m2 : pMem) : Prop := (∀ a k, ¬ (a = 536 ∧ k = 5) → a ≠ 537 → a ≠ 538 → a ≠ 539 → mI m2 a k = mI m a k) ∧ (∀ x y, mR m2 x y = mR m x y) ∧ mI m2 536 5 = 0 ∧ (∀ q, q < 4 → mI m2 537 q = 0 ∧ mI m2 538 q = 0) ∧ ∀ t, t < 6 → mI m2 539 t = mI m 547 t
theorem Tm_u8 {m0 m : pMem} {P Sg k : Nat} {s : ST} {v : Int32} (h : Tm m0 m P Sg s) : Tm m0 (uI m 568 k v) P Sg s := by
  refine ⟨⟨fun a y z => by rw [mI_uI, if_neg (fun q => z (Or.inl (by unfold Scr; omega)))]; exact h.1.1 a y z, fun x y => h.1.2 x y⟩, fun j hj => by rw [mI_uI, if_neg (by omega)]; exact h.2.1 j hj, ?_, h.2.2.2⟩
  have f0 : mI (uI m 568 k v) 536 5 = mI m 536 5 := by rw [mI_uI, if_neg (by omega)]
  have f1 : mI (uI m 568 k v) 537 = mI m 537 := funext fun j => by rw [mI_uI, if_neg (by omega)]
  have f2 : mI (uI m 568 k v) 538 = mI m 538 := funext fun j => by rw [mI_uI, if_neg (by omega)]
  have f3 : mI (uI m 568 k v) 539 = mI m 539 := funext fun j => by rw [mI_uI, if_neg (by omega)]
  rw [← h.2.2.1]
  unfold mSt
  rw [f0, f1, f2, f3]
theorem ix4 (n q : Nat) : (4 : Int32) * nI n + nI q = nI (4 * n + q) := by
  rw [show (4 : Int32) = nI 4 from rfl, nI_mul, nI_add]
section T14
variable {X : pX} {Q : Option Value → pMem → Prop} {m m0 : pMem}
theorem s_begins (hW : Wf m) (h : ∀ m2, BeI m m2 → Q none m2) : Cl X 1 mX12_begins [.ref 535] m Q := by
  refine pCl_of (by decide +kernel) (Nat.le_of_ble_eq_true rfl) rfl (bX12_begins_0 hW ?_)
  refine upTo (P := fun q => ∀ m5, (∀ a k, ¬ (a = 536 ∧ k = 5) → a ≠ 537 → a ≠ 538 → a ≠ 539 → mI m5 a k = mI m a k) → (∀ x y, mR m5 x y = mR m x y) → mI m5 536 5 = 0 → (∀ i, i < q → mI m5 537 i = 0 ∧ mI m5 538 i = 0) → (∀ t, t < 6 → mI m5 539 t = mI m 547 t) → Go X 1 mX12_begins Q 20 [(0, .ref 535), (1, .int (nI q))] [] m5) 4 ?_ ?_ 0 (Nat.zero_le _) _ ?_ (fun _ _ => rfl) ?_ (fun i hi => absurd hi (by omega)) ?_
  · intro m5 k1 k2 k3 k4 k5
    exact bX12_begins_20 (hW.sm k2) (fun _ => h m5 ⟨k1, k2, k3, k4, k5⟩) (fun z => absurd (by decide) z) (fun z => absurd (by decide) z)
  · intro q hq ih m5 k1 k2 k3 k4 k5
    have hlt : ¬ (4 : Int32) ≤ nI q := nI_ge (a := q) (b := 4) hq (by decide)
    refine bX12_begins_20 (hW.sm k2) (fun z => absurd z hlt) (fun _ => vp_in_nI hq (by decide)) (fun _ => ?_)
    rw [nI_1, nI_clamp (by omega)]
    refine ih _ (fun a k z1 z2 z3 z4 => by rw [mI_uI, if_neg (by omega), mI_uI, if_neg (by omega)]; exact k1 a k z1 z2 z3 z4) (fun x y => k2 x y) (by rw [mI_uI, if_neg (by omega), mI_uI, if_neg (by omega)]; exact k3) (fun i hi => ?_) (fun t ht => by rw [mI_uI, if_neg (by omega), mI_uI, if_neg (by omega)]; exact k5 t ht)
    by_cases e : i = q
    · subst e
      exact ⟨by rw [mI_uI, if_neg (by omega), mI_uI, if_pos ⟨rfl, rfl⟩], by rw [mI_uI, if_pos ⟨rfl, rfl⟩]⟩
    · exact ⟨by rw [mI_uI, if_neg (by omega), mI_uI, if_neg (by omega)]; exact (k4 i (by omega)).1, by rw [mI_uI, if_neg (by omega), mI_uI, if_neg (by omega)]; exact (k4 i (by omega)).2⟩
  · intro a k z1 z2 z3 z4
    rw [mI_uI, if_neg z1, mI_uC', if_neg (by omega)]
  · rw [mI_uI, if_pos ⟨rfl, rfl⟩]
  · intro t ht
    rw [mI_uI, if_neg (by omega), mI_uC', if_pos ⟨rfl, ht⟩]
theorem s_lays2 (hW : Wf m) (hK : Im5 m0 m) (hS : Same ScW m0 m) (h : ∀ m2, Kp m0 m2 → (∀ k, mI m2 568 k = mI m 568 k) → (∀ k, mI m2 569 k = mI m 569 k) → Q none m2) : Cl X 2 mX12_laysBack [.ref 535] m Q := by
  refine pCl_of (by decide +kernel) (Nat.le_of_ble_eq_true rfl) rfl (bX12_laysBack_0 hW ?_)
  refine s_layAll (k := 4) hW rfl (fun m2 h2 => bX12_laysBack_6 (hW.sm h2.2.2.2.2.2.2) (h m2 (Kp_bk hK hS h2) (fun k => ?_) (fun k => ?_)))
  · exact h2.2.2.2.2.1 _ _ (fun j hj => by have := lay23 j hj; omega) (by omega) (by omega)
  · exact h2.2.2.2.2.1 _ _ (fun j hj => by have := lay23 j hj; omega) (by omega) (by omega)
theorem s_could {nr P Sg T N M d : Nat} {x : Int32} (hW : Wf m0) (hr : RulesI m0 nr) (hv : Vw m0 nr P Sg T N M d) (hk : Kp m0 m) (hx : x = -1 ∨ ∃ i, i < nr ∧ x = nI i)
    (h1 : NotO m0 T P N x → ∀ m2, Kp m0 m2 → (∀ n q, n ≤ 60 → q < 4 → mI m2 568 (4 * n + q) = pz m0 T P x n q) → (∀ k, mI m2 569 k = mI m 569 k) → Q (some (.int 1)) m2)
    (h0 : ¬ NotO m0 T P N x → ∀ m2, Kp m0 m2 → (∀ k, mI m2 569 k = mI m 569 k) → Q (some (.int 0)) m2) : Cl X 7 mX12_couldRule [.ref 535, .int x] m Q := by
  obtain ⟨rok, E, re, days⟩ := rule_days hr hv hx
  have hv0 := hv
  obtain ⟨tmk, _, g6⟩ := tm_keep hv hk
  obtain ⟨⟨okd, okm, _⟩, ⟨_, _, _, _, v5, v6, _⟩, ⟨hN, _⟩, _, _, _, _, _, v16, v17⟩ := hv
  have okm0 := okm
  obtain ⟨q3, p4, q2, p8, qT, p6⟩ := okm
  refine pCl_of (by decide +kernel) (Nat.le_of_ble_eq_true rfl) rfl (bX12_couldRule_0 (hW.sm hk.1.2) ?_)
  refine s_begins (hW.sm (fun x y => hk.1.2 x y)) (fun mb hb => ?_)
  obtain ⟨b1, b2, b3, b4, b5⟩ := hb
  have b1' : ∀ a k, ¬ (a = 536 ∧ (k = 5 ∨ k = 8)) → a ≠ 537 → a ≠ 538 → a ≠ 539 → mI mb a k = mI m a k := fun a k z1 z2 z3 z4 => by
    rw [b1 a k (by omega) z2 z3 z4, mI_uI, if_neg (by omega)]
  have e8 : mI mb 536 8 = x := by rw [b1 _ _ (by omega) (by omega) (by omega) (by omega), mI_uI, if_pos ⟨rfl, rfl⟩]
  have b5' : ∀ t, t < 6 → mI mb 539 t = mI m0 547 t := fun t ht => by
    rw [b5 t ht, mI_uI, if_neg (by omega)]; exact hk.1.1 _ _ (fun w => by unfold Scr at w; omega)
  have ws : Same ScW m0 mb := ⟨fun a k z => by
    rw [b1' a k (fun w => z (Or.inr (by omega))) (fun w => z (Or.inr (by omega))) (fun w => z (Or.inr (by omega))) (fun w => z (Or.inr (by omega)))]
    exact tmk.1.1 a k z, fun x y => (b2 x y).trans (hk.1.2 x y)⟩
  have im : Im5 m0 mb := fun j hj => by rw [b1' _ _ (by omega) (by omega) (by omega) (by omega)]; exact hk.2 j hj
  have ags : ∀ s : ST, AgT T s (zM m0) → AgT T s (mSt mb) := fun s ⟨a1, a2, a3, a4⟩ => ⟨a1.trans b3.symm, fun q hq => (a2 q hq).trans (b4 q hq).1.symm, fun q hq => (a3 q hq).trans (b4 q hq).2.symm, fun t ht => (a4.1 t ht).trans (b5' t (by omega)).symm, a4.2⟩
  have tm0 : Tm m0 mb P Sg (mSt mb) := ⟨ws, im, rfl, fun q hq => ⟨0, Nat.zero_le _, (b4 q (by omega)).1⟩⟩
  have pzE : ∀ n q, q < 4 → (dayN E (mRd m0) T T P (mSt mb) n).2.1 q = pz m0 T P x n q := fun n q hq => pz_M hv0 days ags hq
  refine bX12_couldRule_12 (hW.sm ws.2) ?_
  refine upTo (P := fun n => ∀ m5, Tm m0 m5 P Sg (dayN E (mRd m0) T T P (mSt mb) n) → (∀ j, j < 5 → mI m5 536 j = mI m0 536 j) → mI m5 536 8 = x → (∀ i q, i < n → q < 4 → mI m5 568 (4 * i + q) = pz m0 T P x i q) → (∀ k, mI m5 569 k = mI m 569 k) → Go X 7 mX12_couldRule Q 14 [(0, .ref 535), (2, .int (nI n))] [] m5) 61 ?_ ?_ 0 (Nat.zero_le _) mb tm0 (fun j hj => (b1' _ _ (by omega) (by omega) (by omega) (by omega)).trans (g6 j (by omega))) e8 (fun i q hi => absurd hi (by omega)) (fun k => b1' _ _ (by omega) (by omega) (by omega) (by omega))
  · intro m5 t5 h24 h8 hl h9
    refine bX12_couldRule_14 (hW.sm t5.1.2) (fun _ => ?_) (fun z => absurd (by decide) z)
    refine s_lays2 (m0 := m0) (hW.sm t5.1.2) t5.2.1 t5.1 (fun m6 k6 l8 l9 => ?_)
    have hW6 := hW.sm k6.1.2
    refine bX12_couldRule_64 hW6 ?_
    have l8' : ∀ n q, n ≤ 60 → q < 4 → mI m6 568 (4 * n + q) = pz m0 T P x n q := fun n q z1 z2 => (l8 _).trans (hl n q (by omega) z2)
    have e6 : mI m6 536 6 = nI N := (k6.1.1 _ _ (fun w => by unfold Scr at w; omega)).trans v6
    have nt : ∀ j, j < N → ∃ w q, w ≤ 60 ∧ q < 4 ∧ (mI m0 123 j).toNatClampNeg = w ∧ (mI m0 124 j).toNatClampNeg = q ∧ mI m6 544 j = nI w ∧ mI m6 545 j = nI q ∧ mI m6 546 j = mI m0 125 j := by
      intro j hj
      obtain ⟨w, q, a1, a2, a3, a4, a5, a6, a7⟩ := v16 j hj
      exact ⟨w, q, a1, by omega, by rw [a3]; exact nI_clamp (by omega), by rw [a5]; exact nI_clamp (by omega), (k6.1.1 _ _ (fun w => by unfold Scr at w; omega)).trans a4, (k6.1.1 _ _ (fun w => by unfold Scr at w; omega)).trans a6, (k6.1.1 _ _ (fun w => by unfold Scr at w; omega)).trans a7.symm⟩
    refine upTo (P := fun j => (∀ i, i < j → pz m0 T P x (mI m0 123 i).toNatClampNeg (mI m0 124 i).toNatClampNeg = mI m0 125 i) → Go X 7 mX12_couldRule Q 66 [(0, .ref 535), (2, .int (nI j))] [] m6) N ?_ ?_ 0 (Nat.zero_le _) (fun i hi => absurd hi (by omega))
    · intro hall
      have hz : mI m6 536 6 ≤ nI N := by rw [e6]; exact Int32.le_refl _
      exact bX12_couldRule_66 hW6 (fun _ => h1 hall m6 k6 l8' (fun k => (l9 k).trans (h9 k))) (fun z => absurd hz z) (fun z => absurd hz z) (fun z => absurd hz z) (fun z => absurd hz z)
    · intro j hj ih hall
      have hlt : ¬ mI m6 536 6 ≤ nI j := by rw [e6]; exact nI_ge hj (by omega)
      have ej : (nI j).toNatClampNeg = j := nI_clamp (by omega)
      obtain ⟨w, q, a1, a2, a3, a4, a5, a6, a7⟩ := nt j hj
      have ee : (4 : Int32) * mI m6 544 (nI j).toNatClampNeg + mI m6 545 (nI j).toNatClampNeg = nI (4 * w + q) := by rw [ej, a5, a6, ix4]
      refine bX12_couldRule_66 hW6 (fun z => absurd z hlt) (fun _ => vp_in_nI (by omega) (by decide)) (fun _ => by rw [ee]; exact vp_in_nI (by omega) (by decide)) (fun _ z => ?_) (fun _ z => ?_)
      · rw [ee, nI_clamp (by omega), l8' w q a1 a2, ej, a7] at z
        rw [nI_1]
        refine ih (fun i hi => ?_)
        by_cases e : i = j
        · subst e; rw [a3, a4]; exact z
        · exact hall i (by omega)
      · rw [ee, nI_clamp (by omega), l8' w q a1 a2, ej, a7] at z
        refine h0 (fun hO => z ?_) m6 k6 (fun k => (l9 k).trans (h9 k))
        have := hO j hj
        rw [a3, a4] at this
        exact this
  · intro n hn ih m5 t5 h24 h8 hl h9
    refine bX12_couldRule_14 (hW.sm t5.1.2) (fun z => absurd z (nI_nlt (a := 60) (b := n) (by omega) (by decide))) (fun _ => ?_)
    refine upTo (P := fun q => ∀ m6, Tm m0 m6 P Sg (dayN E (mRd m0) T T P (mSt mb) n) → (∀ j, j < 5 → mI m6 536 j = mI m0 536 j) → mI m6 536 8 = x → (∀ i k, i < n → k < 4 → mI m6 568 (4 * i + k) = pz m0 T P x i k) → (∀ k, k < q → mI m6 568 (4 * n + k) = pz m0 T P x n k) → (∀ k, mI m6 569 k = mI m 569 k) → Go X 7 mX12_couldRule Q 22 [(0, .ref 535), (2, .int (nI n)), (3, .int (nI q))] [] m6) 4 ?_ ?_ 0 (Nat.zero_le _) m5 t5 h24 h8 hl (fun k hk => absurd hk (by omega)) h9
    · intro m6 t6 h24 h8 hl hl2 h9
      refine bX12_couldRule_22 (hW.sm t6.1.2) (fun _ => ?_) (fun z => absurd (by decide) z) (fun z => absurd (by decide) z) (fun z => absurd (by decide) z)
      refine tm_day hW (okE_x t6.1 h8 re) okm0 h24 t6 (fun m7 hm7 t7 => ?_)
      refine bX12_couldRule_53 (hW.sm t7.1.2) ?_
      rw [nI_1]
      have k7 : ∀ a k, a ≠ 537 → a ≠ 538 → a ≠ 539 → ¬ (a = 536 ∧ k = 5) → mI m7 a k = mI m6 a k := fun a k z1 z2 z3 z4 => hm7.1 _ _ (fun w => by unfold ScM at w; omega)
      refine ih m7 t7 (fun j hj => (k7 _ _ (by omega) (by omega) (by omega) (by omega)).trans (h24 j hj)) ((k7 _ _ (by omega) (by omega) (by omega) (by omega)).trans h8) (fun i q hi hq => ?_) (fun k => (k7 _ _ (by omega) (by omega) (by omega) (by omega)).trans (h9 k))
      rw [k7 _ _ (by omega) (by omega) (by omega) (by omega)]
      by_cases e : i = n
      · subst e; exact hl2 q hq
      · exact hl i q (by omega) hq
    · intro q hq ih2 m6 t6 h24 h8 hl hl2 h9
      have hlt : ¬ (4 : Int32) ≤ nI q := nI_ge (a := q) (b := 4) hq (by decide)
      have e7 : mI m6 537 q = pz m0 T P x n q := by
        have : mI m6 537 = (dayN E (mRd m0) T T P (mSt mb) n).2.1 := by rw [← t6.2.2.1]; rfl
        rw [this]; exact pzE n q hq
      refine bX12_couldRule_22 (hW.sm t6.1.2) (fun z => absurd z hlt) (fun _ => vp_in_nI hq (by decide)) (fun _ => by rw [ix4]; exact vp_in_nI (by omega) (by decide)) (fun _ => ?_)
      rw [nI_1, ix4, nI_clamp (by omega), nI_clamp (by omega), e7]
      refine ih2 _ (Tm_u8 t6) (fun j hj => by rw [mI_uI, if_neg (by omega)]; exact h24 j hj) (by rw [mI_uI, if_neg (by omega)]; exact h8) (fun i k hi hk => by rw [mI_uI, if_neg (by omega)]; exact hl i k hi hk) (fun k hk => ?_) (fun k => by rw [mI_uI, if_neg (by omega)]; exact h9 k)
      by_cases e : k = q
      · subst e; rw [mI_uI, if_pos ⟨rfl, rfl⟩]
      · rw [mI_uI, if_neg (by omega)]; exact hl2 k (by omega)
end T14
/-- how many rules, and the first -/
def ruF (b : Nat → Bool) : Nat → Int32 × Int32
  | 0 => (0, -2)
  | i + 1 => if b i = true then ((ruF b i).1 + 1, if (ruF b i).1 = 0 then rI i else (ruF b i).2) else ruF b i
section T15
variable {X : pX}
theorem p_ruled {w : Int32} : Pair X 6 8 mX11_ruled mX12_ruled [.int w] := by
  intro m h Q K
  obtain ⟨hW, hC, hT, nr, P, Sg, T, N, M, d, f, hr, hi, hf, hw, hv⟩ := Inv_open h
  have told := told_iff hv
  have n6 : nr ≤ 6 := hr.1
  obtain ⟨b, hb⟩ : ∃ b : Nat → Bool, ∀ i, (b i = true ↔ NotO m T P N (rI i)) := ⟨fun i => @decide (NotO m T P N (rI i)) (Classical.propDecidable _), fun i => by simp⟩
  by_cases c : mI m 536 0 = 1 ∧ ∃ k, k ≤ 1 ∧ w = nI k
  · obtain ⟨c1, c2⟩ := c
    have w2 := (inI (a := 1) (by decide)).mpr c2
    obtain ⟨R, hR⟩ : ∃ R, R = ruF b (nr + 1) := ⟨_, rfl⟩
    have mod : ∀ m1, Same Scr m m1 → ∀ Q2 : Option Value → pMem → Prop, (∀ m2, Inv m2 → Q2 (some (.int (if w = 0 then R.1 else R.2))) m2) → Cl X 8 mX12_ruled [.ref 535, .int w] m1 Q2 := by
      intro m1 hs Q2 h2
      have hW1 := hW.sm hs.2
      have g : ∀ j, j < 9 → mI m1 536 j = mI m 536 j := fun j hj => hs.1 _ _ (fun y => by unfold Scr at y; omega)
      refine pCl_of (by decide +kernel) (Nat.le_of_ble_eq_true rfl) rfl (bX12_ruled_0 hW1 (fun _ _ => ?_) (fun _ z => absurd w2 z) (fun z => absurd ((g 0 (by omega)).trans c1) z))
      refine s_keeps hW1 (fun mk hk1 => ?_)
      have kp : Kp m mk := ⟨hs.tr hk1.1, fun j hj => (hk1.2 j hj).trans (fm_c (by omega) (fun a b z => hs.1 _ _ (fun y => by unfold Scr at y; omega)))⟩
      refine bX12_ruled_24 (hW.sm kp.1.2) ?_
      refine upTo (P := fun i => ∀ m4, Kp m m4 → Go X 8 mX12_ruled Q2 32 [(0, .ref 535), (1, .int w), (2, .int (ruF b i).1), (3, .int (ruF b i).2), (4, .int (rI i))] [] m4) (nr + 1) ?_ ?_ 0 (Nat.zero_le _) mk kp
      · intro m4 k4
        have e4 : mI m4 535 23 = nI nr := (k4.1.1 _ _ (fun y => by unfold Scr at y; omega)).trans hr.2.2.1
        have hz : mI m4 535 23 ≤ rI (nr + 1) := by rw [e4]; exact Int32.le_refl _
        have fin := h2 m4 (Inv_scr h k4.1)
        rw [hR] at fin
        refine bX12_ruled_32 (hW.sm k4.1.2) (fun _ z => ?_) (fun _ z => ?_) (fun z => absurd hz z)
        · rw [if_neg z] at fin; exact fin
        · rw [if_pos z] at fin; exact fin
      · intro i hi ih m4 k4
        have e4 : mI m4 535 23 = nI nr := (k4.1.1 _ _ (fun y => by unfold Scr at y; omega)).trans hr.2.2.1
        have hlt : ¬ mI m4 535 23 ≤ rI i := by rw [e4]; exact rI_in (by omega) n6
        have step : ruF b (i + 1) = if b i = true then ((ruF b i).1 + 1, if (ruF b i).1 = 0 then rI i else (ruF b i).2) else ruF b i := rfl
        refine bX12_ruled_32 (hW.sm k4.1.2) (fun z => absurd z hlt) (fun z => absurd z hlt) (fun _ => ?_)
        refine s_could hW hr hv k4 (rI_ok (by omega)) (fun y m5 k5 _ _ => ?_) (fun y m5 k5 _ => ?_)
        · have := ih m5 k5
          rw [step, if_pos ((hb i).mpr y)] at this
          refine bX12_ruled_47 (hW.sm k5.1.2) (fun z => absurd z (by decide)) (fun _ z => ?_) (fun _ z => ?_)
          · rw [if_neg z] at this
            rw [rI_s]; exact this
          · rw [if_pos z] at this
            rw [rI_s]; exact this
        · have := ih m5 k5
          rw [step, if_neg (fun z => y ((hb i).mp z))] at this
          refine bX12_ruled_47 (hW.sm k5.1.2) (fun _ => ?_) (fun z => absurd rfl z) (fun z => absurd rfl z)
          rw [rI_s]; exact this
    have z1 : ¬ mI m 31 0 = 0 := told.mpr c1
    refine pCl_of (by decide +kernel) (Nat.le_of_ble_eq_true rfl) rfl (bX11_ruled_0 hW (fun z => absurd z z1) (fun _ z => absurd z w2.1) (fun _ _ _ => ?_) (fun _ _ z => absurd (Int32.not_lt.mp w2.2) z))
    refine upTo (P := fun i => ∀ m4, Same Scr m m4 → Go X 6 mX11_ruled Q 33 [(0, .ref 0), (1, .int w), (2, .int (ruF b i).1), (3, .int (ruF b i).2), (4, .int (rI i))] [] m4) (nr + 1) ?_ ?_ 0 (Nat.zero_le _) m Same.rf
    · intro m4 s4
      have e4 : mI m4 0 4 = nI nr := (s4.1 _ _ (fun y => by unfold Scr at y; omega)).trans hr.2.1
      have hz : mI m4 0 4 ≤ rI (nr + 1) := by rw [e4]; exact Int32.le_refl _
      have fin := K (if w = 0 then R.1 else R.2) m4 (hW.sm s4.2) (fun Q2 h2 => mod m4 s4 Q2 h2)
      rw [hR] at fin
      refine bX11_ruled_33 (hW.sm s4.2) (fun _ z => ?_) (fun _ z => ?_) (fun z => absurd hz z)
      · rw [if_neg z] at fin; exact fin
      · rw [if_pos z] at fin; exact fin
    · intro i hi ih m4 s4
      have e4 : mI m4 0 4 = nI nr := (s4.1 _ _ (fun y => by unfold Scr at y; omega)).trans hr.2.1
      have hlt : ¬ mI m4 0 4 ≤ rI i := by rw [e4]; exact rI_in (by omega) n6
      have step : ruF b (i + 1) = if b i = true then ((ruF b i).1 + 1, if (ruF b i).1 = 0 then rI i else (ruF b i).2) else ruF b i := rfl
      refine bX11_ruled_33 (hW.sm s4.2) (fun z => absurd z hlt) (fun z => absurd z hlt) (fun _ => ?_)
      refine s_would hW hr hv s4 (rI_ok (by omega)) (fun y m5 s5 _ => ?_) (fun y m5 s5 _ => ?_)
      · have := ih m5 s5
        rw [step, if_pos ((hb i).mpr y)] at this
        refine bX11_ruled_48 (hW.sm s5.2) (fun z => absurd z (by decide)) (fun _ z => ?_) (fun _ z => ?_)
        · rw [if_neg z] at this
          rw [rI_s]; exact this
        · rw [if_pos z] at this
          rw [rI_s]; exact this
      · have := ih m5 s5
        rw [step, if_neg (fun z => y ((hb i).mp z))] at this
        refine bX11_ruled_48 (hW.sm s5.2) (fun _ => ?_) (fun z => absurd rfl z) (fun z => absurd rfl z)
        rw [rI_s]; exact this
  · have bad : Q (some (.int (-3))) m := K _ m hW (fun Q2 h2 => pCl_of (by decide +kernel) (Nat.le_of_ble_eq_true rfl) rfl (bX12_ruled_0 hW (fun z1 z2 => absurd ⟨z1, (inI (a := 1) (by decide)).mp z2⟩ c) (fun _ _ => h2 m h) (fun _ => h2 m h)))
    exact pCl_of (by decide +kernel) (Nat.le_of_ble_eq_true rfl) rfl (bX11_ruled_0 hW (fun _ => bad) (fun _ _ => bad) (fun z1 z2 z3 => absurd ⟨told.mp z1, (inI (a := 1) (by decide)).mp ⟨z2, Int32.not_lt.mpr z3⟩⟩ c) (fun _ _ _ => bad))
end T15
