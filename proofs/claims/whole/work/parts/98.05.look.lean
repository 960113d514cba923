/-! ===== pair: look ===== -/
def cB (b : Nat → Bool) : Nat → Nat
  | 0 => 0
  | i + 1 => cB b i + if b i = true then 1 else 0
theorem cB_le (b : Nat → Bool) : ∀ i, cB b i ≤ i
  | 0 => Nat.le_refl 0
  | i + 1 => by have := cB_le b i; unfold cB; split <;> omega
theorem cB_sur (b : Nat → Bool) : ∀ n r, r < cB b n → ∃ i, i < n ∧ b i = true ∧ cB b i = r
  | 0, r, h => absurd h (Nat.not_lt_zero r)
  | n + 1, r, h => by
    unfold cB at h
    by_cases e : b n = true
    · rw [if_pos e] at h
      by_cases e2 : r = cB b n
      · exact ⟨n, by omega, e, e2.symm⟩
      · obtain ⟨i, h1, h2, h3⟩ := cB_sur b n r (by omega)
        exact ⟨i, by omega, h2, h3⟩
    · rw [if_neg e] at h
      obtain ⟨i, h1, h2, h3⟩ := cB_sur b n r (by omega)
      exact ⟨i, by omega, h2, h3⟩
theorem cB_mo (b : Nat → Bool) {i : Nat} : ∀ j, i ≤ j → cB b i ≤ cB b j
  | 0, h => by rw [show i = 0 by omega]; exact Nat.le_refl _
  | j + 1, h => by
    by_cases e : i = j + 1
    · rw [e]; exact Nat.le_refl _
    · have := cB_mo b (i := i) j (by omega)
      have e2 : cB b (j + 1) = cB b j + if b j = true then 1 else 0 := rfl
      rw [e2]; omega
theorem cB_lt (b : Nat → Bool) {i j : Nat} (h : i < j) (hb : b i = true) : cB b i < cB b j := by
  have := cB_mo b (i := i + 1) j (by omega)
  have e2 : cB b (i + 1) = cB b i + if b i = true then 1 else 0 := rfl
  rw [e2, if_pos hb] at this
  omega
def alF (c : Nat → Int32) (r : Nat) : Nat → Int32
  | 0 => 0
  | k + 1 => if c k = c r then alF c r k + 1 else alF c r k
def moF (c : Nat → Int32) (R : Nat) : Nat → Int32
  | 0 => 0
  | r + 1 => if moF c R r < alF c r R then alF c r R else moF c R r
theorem alF_c {c c2 : Nat → Int32} {R r : Nat} (h : ∀ k, k < R → c k = c2 k) (hr : r < R) : ∀ k, k ≤ R → alF c r k = alF c2 r k
  | 0, _ => rfl
  | k + 1, hk => by unfold alF; rw [alF_c h hr k (by omega), h k (by omega), h r hr]
theorem moF_c {c c2 : Nat → Int32} {R : Nat} (h : ∀ k, k < R → c k = c2 k) : ∀ r, r ≤ R → moF c R r = moF c2 R r
  | 0, _ => rfl
  | r + 1, hr => by unfold moF; rw [moF_c h r (by omega), alF_c h (by omega) R (Nat.le_refl R)]
def liF (v : Nat → Int32) : Nat → Nat
  | 0 => 0
  | q + 1 => if v q < v (liF v q) then q else liF v q
theorem liF_lt (v : Nat → Int32) : ∀ q, liF v (q + 1) ≤ q
  | 0 => by unfold liF; split <;> exact Nat.le_refl 0
  | q + 1 => by
    have := liF_lt v q
    have e : liF v (q + 1 + 1) = if v (q + 1) < v (liF v (q + 1)) then q + 1 else liF v (q + 1) := rfl
    rw [e]
    split <;> omega
theorem liF_1 (v : Nat → Int32) : liF v 1 = 0 := Nat.le_zero.mp (liF_lt v 0)
section T16
variable {X : pX} {Q : Option Value → pMem → Prop} {m m0 : pMem}
theorem s_most {R q : Nat} (hW : Wf m) (hR : R ≤ 7) (hq : q < 4) (h : Q (some (.int (moF (fun r => mI m (528 + r) q) R R))) m) : Cl X 1 mX11_mostAlike [.ref 0, .int (nI R), .int (nI q)] m Q := by
  refine pCl_of (by decide +kernel) (Nat.le_of_ble_eq_true rfl) rfl (bX11_mostAlike_0 hW ?_)
  have vq : vp_in (nI q) 4 := vp_in_nI hq (by decide)
  have eq : (nI q).toNatClampNeg = q := nI_clamp (by omega)
  refine upTo (P := fun r => Go X 1 mX11_mostAlike Q 5 [(0, .ref 0), (1, .int (nI R)), (2, .int (nI q)), (3, .int (moF (fun r => mI m (528 + r) q) R r)), (4, .int (nI r))] [] m) R ?_ ?_ 0 (Nat.zero_le _)
  · exact bX11_mostAlike_5 hW (fun _ => h) (fun z => absurd (Int32.le_refl _) z)
  · intro r hr ih
    refine bX11_mostAlike_5 hW (fun z => absurd z (nI_ge hr (by omega))) (fun _ => ?_)
    refine upTo (P := fun k => Go X 1 mX11_mostAlike Q 17 [(0, .ref 0), (1, .int (nI R)), (2, .int (nI q)), (3, .int (moF (fun r => mI m (528 + r) q) R r)), (4, .int (nI r)), (5, .int (alF (fun r => mI m (528 + r) q) r k)), (6, .int (nI k))] [] m) R ?_ ?_ 0 (Nat.zero_le _)
    · refine bX11_mostAlike_17 hW (fun _ => ?_) (fun z => absurd (Int32.le_refl _) z) (fun z => absurd (Int32.le_refl _) z) (fun z => absurd (Int32.le_refl _) z) (fun z => absurd (Int32.le_refl _) z) (fun z => absurd (Int32.le_refl _) z)
      rw [nI_1]; exact ih
    · intro k hk ih2
      have step : alF (fun r => mI m (528 + r) q) r (k + 1) = if mI m (528 + k) q = mI m (528 + r) q then alF (fun r => mI m (528 + r) q) r k + 1 else alF (fun r => mI m (528 + r) q) r k := rfl
      refine bX11_mostAlike_17 hW (fun z => absurd z (nI_ge hk (by omega))) (fun _ => vp_in_nI (by omega) (by decide)) (fun _ => vq) (fun _ => vp_in_nI (by omega) (by decide)) (fun _ z => ?_) (fun _ z => ?_)
      · rw [nI_clamp (n := k) (by omega), nI_clamp (n := r) (by omega), eq] at z
        rw [step, if_neg z] at ih2
        rw [nI_1]; exact ih2
      · rw [nI_clamp (n := k) (by omega), nI_clamp (n := r) (by omega), eq] at z
        rw [step, if_pos z] at ih2
        rw [nI_1]; exact ih2
theorem s_mostM {R q : Nat} (hW : Wf m) (hR : R ≤ 7) (hq : q < 4) (h : Q (some (.int (moF (fun r => mI m 569 (4 * r + q)) R R))) m) : Cl X 0 mX12_mostAlike [.ref 535, .int (nI q), .int (nI R)] m Q := by
  refine pCl_of (by decide +kernel) (Nat.le_of_ble_eq_true rfl) rfl (bX12_mostAlike_0 hW ?_)
  refine upTo (P := fun r => Go X 0 mX12_mostAlike Q 5 [(0, .ref 535), (1, .int (nI q)), (2, .int (nI R)), (3, .int (moF (fun r => mI m 569 (4 * r + q)) R r)), (4, .int (nI r))] [] m) R ?_ ?_ 0 (Nat.zero_le _)
  · exact bX12_mostAlike_5 hW (fun _ => h) (fun z => absurd (Int32.le_refl _) z)
  · intro r hr ih
    refine bX12_mostAlike_5 hW (fun z => absurd z (nI_ge hr (by omega))) (fun _ => ?_)
    refine upTo (P := fun k => Go X 0 mX12_mostAlike Q 17 [(0, .ref 535), (1, .int (nI q)), (2, .int (nI R)), (3, .int (moF (fun r => mI m 569 (4 * r + q)) R r)), (4, .int (nI r)), (5, .int (alF (fun r => mI m 569 (4 * r + q)) r k)), (6, .int (nI k))] [] m) R ?_ ?_ 0 (Nat.zero_le _)
    · have step : moF (fun r => mI m 569 (4 * r + q)) R (r + 1) = if moF (fun r => mI m 569 (4 * r + q)) R r < alF (fun r => mI m 569 (4 * r + q)) r R then alF (fun r => mI m 569 (4 * r + q)) r R else moF (fun r => mI m 569 (4 * r + q)) R r := rfl
      refine bX12_mostAlike_17 hW (fun _ z => ?_) (fun _ z => ?_) (fun z => absurd (Int32.le_refl _) z) (fun z => absurd (Int32.le_refl _) z) (fun z => absurd (Int32.le_refl _) z) (fun z => absurd (Int32.le_refl _) z)
      · rw [step, if_neg (Int32.not_lt.mpr z)] at ih
        rw [nI_1]; exact ih
      · rw [step, if_pos (Int32.not_le.mp z)] at ih
        rw [nI_1]; exact ih
    · intro k hk ih2
      have step : alF (fun r => mI m 569 (4 * r + q)) r (k + 1) = if mI m 569 (4 * k + q) = mI m 569 (4 * r + q) then alF (fun r => mI m 569 (4 * r + q)) r k + 1 else alF (fun r => mI m 569 (4 * r + q)) r k := rfl
      refine bX12_mostAlike_17 hW (fun z => absurd z (nI_ge hk (by omega))) (fun z => absurd z (nI_ge hk (by omega))) (fun _ => by rw [ix4]; exact vp_in_nI (by omega) (by decide)) (fun _ => by rw [ix4]; exact vp_in_nI (by omega) (by decide)) (fun _ z => ?_) (fun _ z => ?_)
      · rw [ix4, ix4, nI_clamp (by omega), nI_clamp (by omega)] at z
        rw [step, if_neg z] at ih2
        rw [nI_1, Int32.add_zero]; exact ih2
      · rw [ix4, ix4, nI_clamp (by omega), nI_clamp (by omega)] at z
        rw [step, if_pos z] at ih2
        rw [nI_1]; exact ih2
theorem s_seeAt {nr P Sg T N M d n : Nat} {b : Nat → Bool} (hW : Wf m0) (hr : RulesI m0 nr) (hv : Vw m0 nr P Sg T N M d) (hs : Same Scr m0 m) (hn : n ≤ 60) (hb : ∀ i, (b i = true ↔ NotO m0 T P N (rI i)))
    (h : ∀ m2, Same Scr m0 m2 → (∀ i, i < nr + 1 → b i = true → ∀ q, q < 4 → mI m2 (528 + cB b i) q = pz m0 T P (rI i) n q) → Q (some (.int (nI (cB b (nr + 1))))) m2) : Cl X 6 mX11_seeAt [.ref 0, .int (nI n)] m Q := by
  have n6 : nr ≤ 6 := hr.1
  refine pCl_of (by decide +kernel) (Nat.le_of_ble_eq_true rfl) rfl (bX11_seeAt_0 (hW.sm hs.2) ?_)
  refine upTo (P := fun i => ∀ m4, Same Scr m0 m4 → (∀ j, j < i → b j = true → ∀ q, q < 4 → mI m4 (528 + cB b j) q = pz m0 T P (rI j) n q) → Go X 6 mX11_seeAt Q 4 [(0, .ref 0), (1, .int (nI n)), (2, .int (nI (cB b i))), (3, .int (rI i))] [] m4) (nr + 1) ?_ ?_ 0 (Nat.zero_le _) m hs (fun j hj => absurd hj (by omega))
  · intro m4 s4 hl
    have e4 : mI m4 0 4 = nI nr := (s4.1 _ _ (fun y => by unfold Scr at y; omega)).trans hr.2.1
    have hz : mI m4 0 4 ≤ rI (nr + 1) := by rw [e4]; exact Int32.le_refl _
    exact bX11_seeAt_4 (hW.sm s4.2) (fun _ => h m4 s4 hl) (fun z => absurd hz z) (fun z => absurd hz z)
  · intro i hi ih m4 s4 hl
    have e4 : mI m4 0 4 = nI nr := (s4.1 _ _ (fun y => by unfold Scr at y; omega)).trans hr.2.1
    have hlt : ¬ mI m4 0 4 ≤ rI i := by rw [e4]; exact rI_in (by omega) n6
    have cl := cB_le b i
    have step : cB b (i + 1) = cB b i + if b i = true then 1 else 0 := rfl
    have hx : rI i = -1 ∨ ∃ k, k < nr ∧ rI i = nI k := rI_ok (by omega)
    have c7 : ∀ j, j < i → b j = true → cB b j < 7 := fun j hj _ => by have := cB_le b j; omega
    refine bX11_seeAt_4 (hW.sm s4.2) (fun z => absurd z hlt) (fun _ z => absurd z (nI_ge (a := cB b i) (b := 7) (by omega) (by decide))) (fun _ _ => ?_)
    refine s_would hW hr hv s4 hx (fun y m5 s5 n5 => ?_) (fun y m5 s5 n5 => ?_)
    · refine bX11_seeAt_26 (hW.sm s5.2) (fun z => absurd z (by decide)) (fun _ => ?_)
      obtain ⟨rok, E, re, days⟩ := rule_days hr hv hx
      have tb := tr_begin hv s5
      have hWb := hW.sm tb.1.1.2
      refine s_ruleOf hWb hr.1 ((tb.1.1.1 _ _ (fun y => by unfold Scr at y; omega)).trans hr.2.1) hx ?_
      have dy : Cl X 5 mX0_goOn [.ref 512, .ref 523, rvO (roOf (rI i)), .int (nI n)] (beS m5 31 523) (fun v m2 => Go X 6 mX11_seeAt Q 60 [(0, .ref 0), (1, .int (nI n)), (2, .int (nI (cB b i))), (3, .int (rI i))] (v.toList ++ []) m2) := by
        refine tr_goOn2 hW rok hv.1.1 (by omega) tb.1 (fun m6 hm6 t6 => ?_)
        have e4 := cSt_eq t6.2.1
        refine bX11_seeAt_60 (hW.sm t6.1.2) (vp_in_nI (by omega) (by decide)) ?_
        rw [nI_1, rI_s, nI_clamp (by omega)]
        have := ih (uC m6 524 0 (528 + cB b i) 0 4) ⟨fun a k z => ?_, fun x y => t6.1.2 x y⟩ (fun j hj bj q hq => ?_)
        · rw [step, if_pos ((hb i).mpr y)] at this
          exact this
        · rw [mI_uC', if_neg (fun w => z (by unfold Scr; omega))]; exact t6.1.1 a k z
        · by_cases e : j = i
          · subst e
            rw [mI_uC', if_pos ⟨rfl, hq⟩, show mI m6 524 = _ from e4.2.1]
            exact pz_C hv days tb.2 tb.1.2.2 hq
          · have hji : cB b j < cB b i := cB_lt b (by omega) bj
            rw [mI_uC', if_neg (by omega), (Sn_d (Sn_b (m := m5)) hm6) _ _ (by omega) (by omega), n5 _ _ (by omega) (by omega)]
            exact hl j (by omega) bj q hq
      cases hro : roOf (rI i) with
      | none => rw [hro] at dy; exact bX11_seeAt_56v1 hWb sh523 dy
      | some r => rw [hro] at dy rok; exact bX11_seeAt_56 hWb (rok r rfl).1 sh523 dy
    · refine bX11_seeAt_26 (hW.sm s5.2) (fun _ => ?_) (fun z => absurd rfl z)
      have nb : ¬ b i = true := fun z => y ((hb i).mp z)
      have := ih m5 s5 (fun j hj bj q hq => ?_)
      · rw [step, if_neg nb, Nat.add_zero] at this
        rw [rI_s]; exact this
      · by_cases e : j = i
        · subst e; exact absurd bj nb
        · have := c7 j (by omega) bj
          rw [n5 _ _ (by omega) (by omega)]
          exact hl j (by omega) bj q hq
end T16
section T17
variable {X : pX}
theorem p_look {x w : Int32} : Pair X 7 8 mX11_look mX12_look [.int x, .int w] := by
  intro m h Q K
  obtain ⟨hW, hC, hT, nr, P, Sg, T, N, M, d, f, hr, hi, hf, hw, hv⟩ := Inv_open h
  have told := told_iff hv
  have n6 : nr ≤ 6 := hr.1
  obtain ⟨⟨p3, p4, p2, p8, pT, p6⟩, ⟨q3, _⟩, _⟩ := hv.1
  obtain ⟨b, hb⟩ : ∃ b : Nat → Bool, ∀ i, (b i = true ↔ NotO m T P N (rI i)) := ⟨fun i => @decide (NotO m T P N (rI i)) (Classical.propDecidable _), fun i => by simp⟩
  by_cases c : mI m 536 0 = 1 ∧ (∃ k, k ≤ 60 ∧ x = nI k) ∧ ∃ k, k ≤ 1 ∧ w = nI k
  · obtain ⟨c1, c2, c3⟩ := c
    have x2 := (inI (a := 60) (by decide)).mpr c2
    have w2 := (inI (a := 1) (by decide)).mpr c3
    obtain ⟨n, hn, rfl⟩ := c2
    obtain ⟨R, hR⟩ : ∃ R, R = cB b (nr + 1) := ⟨_, rfl⟩
    have R7 : R ≤ 7 := by have := cB_le b (nr + 1); omega
    obtain ⟨v, hvv⟩ : ∃ v : Nat → (Nat → Nat → Int32) → Int32, v = fun q sh => moF (fun r => sh r q) R R := ⟨_, rfl⟩
    -- the model, over what the class has seen
    have mod : ∀ m1, Same Scr m m1 → (∀ i, i < nr + 1 → b i = true → ∀ q, q < 4 → mI m1 (528 + cB b i) q = pz m T P (rI i) n q) → ∀ Q2 : Option Value → pMem → Prop, (∀ m2, Inv m2 → Q2 (some (.int (if R = 0 ∨ P = 0 then -2 else if w = 0 then nI (liF (fun q => moF (fun r => mI m1 (528 + r) q) R R) P) else moF (fun r => mI m1 (528 + r) (liF (fun q => moF (fun r => mI m1 (528 + r) q) R R) P)) R R))) m2) → Cl X 8 mX12_look [.ref 535, .int (nI n), .int w] m1 Q2 := by
      intro m1 hs hl1 Q2 h2
      have hW1 := hW.sm hs.2
      have g : ∀ j, j < 9 → mI m1 536 j = mI m 536 j := fun j hj => hs.1 _ _ (fun y => by unfold Scr at y; omega)
      refine pCl_of (by decide +kernel) (Nat.le_of_ble_eq_true rfl) rfl (bX12_look_0 hW1 (fun _ _ _ => ?_) (fun _ _ z => absurd w2 z) (fun _ z => absurd x2 z) (fun z => absurd ((g 0 (by omega)).trans c1) z))
      refine s_keeps hW1 (fun mk hk1 => ?_)
      have kp : Kp m mk := ⟨hs.tr hk1.1, fun j hj => (hk1.2 j hj).trans (fm_c (by omega) (fun a b z => hs.1 _ _ (fun y => by unfold Scr at y; omega)))⟩
      refine bX12_look_35 (hW.sm kp.1.2) ?_
      refine upTo (P := fun i => ∀ m4, Kp m m4 → (∀ j, j < i → b j = true → ∀ q, q < 4 → mI m4 569 (4 * cB b j + q) = pz m T P (rI j) n q) → Go X 8 mX12_look Q2 40 [(0, .ref 535), (1, .int (nI n)), (2, .int w), (3, .int (nI (cB b i))), (4, .int (rI i))] [] m4) (nr + 1) ?_ ?_ 0 (Nat.zero_le _) mk kp (fun j hj => absurd hj (by omega))
      · intro m4 k4 hl
        have hW4 := hW.sm k4.1.2
        have e4 : mI m4 535 23 = nI nr := (k4.1.1 _ _ (fun y => by unfold Scr at y; omega)).trans hr.2.2.1
        have hz : mI m4 535 23 ≤ rI (nr + 1) := by rw [e4]; exact Int32.le_refl _
        have e3 : mI m4 536 3 = nI P := (k4.1.1 _ _ (fun y => by unfold Scr at y; omega)).trans q3
        have fin := h2 m4 (Inv_scr h k4.1)
        rw [← hR]
        have col : ∀ q, q < 4 → moF (fun r => mI m4 569 (4 * r + q)) R R = moF (fun r => mI m1 (528 + r) q) R R := by
          intro q hq
          refine moF_c (fun r hr2 => ?_) R (Nat.le_refl R)
          obtain ⟨i, i1, i2, i3⟩ := cB_sur b (nr + 1) r (by omega)
          have a := hl i i1 i2 q hq
          have a2 := hl1 i i1 i2 q hq
          rw [i3] at a a2
          rw [a, a2]
        obtain ⟨V, hV⟩ : ∃ V : Nat → Int32, V = fun q => moF (fun r => mI m1 (528 + r) q) R R := ⟨_, rfl⟩
        have fin2 : ¬ (R = 0 ∨ P = 0) → (w = 0 → Q2 (some (.int (nI (liF V P)))) m4) ∧ (¬ w = 0 → Q2 (some (.int (V (liF V P)))) m4) := by
          intro y
          rw [if_neg y] at fin
          refine ⟨fun y2 => ?_, fun y2 => ?_⟩
          · rw [if_pos y2] at fin; rw [hV]; exact fin
          · rw [if_neg y2] at fin; rw [hV]; exact fin
        refine bX12_look_40 hW4 (fun _ z => ?_) (fun _ z1 z2 => ?_) (fun _ z1 z2 => ?_) (fun z => absurd hz z)
        · have : R = 0 := (nI_eq (a := R) (b := 0) (by omega) (by decide)).mp z
          rw [if_pos (Or.inl this)] at fin; exact fin
        · have P0 : P ≠ 0 := fun y => z2 (by rw [e3, y]; rfl)
          have R0 : R ≠ 0 := fun y => z1 (by rw [y]; rfl)
          obtain ⟨f1, f2⟩ := fin2 (fun y => y.elim R0 P0)
          have key := upTo (P := fun q => 1 ≤ q → Go X 8 mX12_look Q2 126 [(0, .ref 535), (2, .int w), (3, .int (nI R)), (4, .int (nI (liF V q))), (5, .int (nI q))] [] m4) P ?_ ?_ 1 (by omega) (Nat.le_refl 1)
          · rw [liF_1] at key; exact key
          · intro _
            have hzP : mI m4 536 3 ≤ nI P := by rw [e3]; exact Int32.le_refl _
            have lP : liF V P < 4 := by
              obtain ⟨P', rfl⟩ : ∃ P', P = P' + 1 := ⟨P - 1, by omega⟩
              have := liF_lt V P'
              omega
            refine bX12_look_126 hW4 (fun _ y => ?_) (fun _ y => f1 y) (fun y => absurd hzP y)
            refine s_mostM hW4 R7 lP ?_
            rw [col _ lP]
            refine bX12_look_185 hW4 ?_
            have := f2 y
            rw [hV] at this ⊢
            exact this
          · intro q hq ih hq1
            have hlt : ¬ mI m4 536 3 ≤ nI q := by rw [e3]; exact nI_ge hq (by omega)
            have lq : liF V q < 4 := by
              obtain ⟨q', rfl⟩ : ∃ q', q = q' + 1 := ⟨q - 1, by omega⟩
              have := liF_lt V q'
              omega
            have step : liF V (q + 1) = if V q < V (liF V q) then q else liF V q := rfl
            have i1 := ih (by omega)
            refine bX12_look_126 hW4 (fun y => absurd y hlt) (fun y => absurd y hlt) (fun _ => ?_)
            refine s_mostM hW4 R7 (show q < 4 by omega) ?_
            rw [col q (by omega)]
            refine bX12_look_144 hW4 ?_
            refine s_mostM hW4 R7 lq ?_
            rw [col _ lq]
            have hVq : ∀ q, moF (fun r => mI m1 (528 + r) q) R R = V q := fun q => by rw [hV]
            rw [hVq, hVq]
            refine bX12_look_151 hW4 (fun y => ?_) (fun y => ?_)
            · rw [step, if_neg (Int32.not_lt.mpr y)] at i1
              rw [nI_1]; exact i1
            · rw [step, if_pos (Int32.not_le.mp y)] at i1
              rw [nI_1]; exact i1
        · have : P = 0 := (nI_eq (a := P) (b := 0) (by omega) (by decide)).mp (e3.symm.trans z2)
          rw [if_pos (Or.inr this)] at fin; exact fin
      · intro i hi ih m4 k4 hl
        have e4 : mI m4 535 23 = nI nr := (k4.1.1 _ _ (fun y => by unfold Scr at y; omega)).trans hr.2.2.1
        have hlt : ¬ mI m4 535 23 ≤ rI i := by rw [e4]; exact rI_in (by omega) n6
        have cl := cB_le b i
        have step : cB b (i + 1) = cB b i + if b i = true then 1 else 0 := rfl
        refine bX12_look_40 (hW.sm k4.1.2) (fun z => absurd z hlt) (fun z => absurd z hlt) (fun z => absurd z hlt) (fun _ => ?_)
        refine s_could hW hr hv k4 (rI_ok (by omega)) (fun y m5 k5 l8 l9 => ?_) (fun y m5 k5 l9 => ?_)
        · refine bX12_look_55 (hW.sm k5.1.2) (fun z => absurd z (by decide)) (fun _ => ?_)
          refine upTo (P := fun q => ∀ m6, Kp m m6 → (∀ k, mI m6 568 k = mI m5 568 k) → (∀ j, j < i → b j = true → ∀ q, q < 4 → mI m6 569 (4 * cB b j + q) = pz m T P (rI j) n q) → (∀ k, k < q → mI m6 569 (4 * cB b i + k) = pz m T P (rI i) n k) → Go X 8 mX12_look Q2 61 [(0, .ref 535), (1, .int (nI n)), (2, .int w), (3, .int (nI (cB b i))), (4, .int (rI i)), (5, .int (nI q))] [] m6) 4 ?_ ?_ 0 (Nat.zero_le _) m5 k5 (fun _ => rfl) (fun j hj bj q hq => (l9 _).trans (hl j hj bj q hq)) (fun k hk => absurd hk (by omega))
          · intro m6 k6 _ h1 h2'
            refine bX12_look_61 (hW.sm k6.1.2) (fun _ => ?_) (fun z => absurd (by decide) z) (fun z => absurd (by decide) z) (fun z => absurd (by decide) z)
            have := ih m6 k6 (fun j hj bj q hq => ?_)
            · rw [step, if_pos ((hb i).mpr y)] at this
              rw [nI_1, rI_s]; exact this
            · by_cases e : j = i
              · subst e; exact h2' q hq
              · exact h1 j (by omega) bj q hq
          · intro q hq ih2 m6 k6 h8 h1 h2'
            have hlt4 : ¬ (4 : Int32) ≤ nI q := nI_ge (a := q) (b := 4) hq (by decide)
            refine bX12_look_61 (hW.sm k6.1.2) (fun z => absurd z hlt4) (fun _ => by rw [ix4]; exact vp_in_nI (by omega) (by decide)) (fun _ => by rw [ix4]; exact vp_in_nI (by omega) (by decide)) (fun _ => ?_)
            rw [ix4, ix4, nI_1, nI_clamp (by omega), nI_clamp (by omega), h8, l8 n q hn hq]
            refine ih2 _ ⟨⟨fun a k z => by rw [mI_uI, if_neg (fun w => z (by unfold Scr; omega))]; exact k6.1.1 a k z, fun x y => k6.1.2 x y⟩, fun j hj => by rw [mI_uI, if_neg (by omega)]; exact k6.2 j hj⟩ (fun k => by rw [mI_uI, if_neg (by omega)]; exact h8 k) (fun j hj bj k hk => ?_) (fun k hk => ?_)
            · have hji : cB b j < cB b i := cB_lt b hj bj
              rw [mI_uI, if_neg (by omega)]; exact h1 j hj bj k hk
            · by_cases e : k = q
              · subst e; rw [mI_uI, if_pos ⟨rfl, rfl⟩]
              · rw [mI_uI, if_neg (by omega)]; exact h2' k (by omega)
        · have nb : ¬ b i = true := fun z => y ((hb i).mp z)
          refine bX12_look_55 (hW.sm k5.1.2) (fun _ => ?_) (fun z => absurd rfl z)
          have := ih m5 k5 (fun j hj bj q hq => ?_)
          · rw [step, if_neg nb, Nat.add_zero] at this
            rw [rI_s]; exact this
          · by_cases e : j = i
            · subst e; exact absurd bj nb
            · rw [l9]; exact hl j (by omega) bj q hq
    -- the class
    have z1 : ¬ mI m 31 0 = 0 := told.mpr c1
    refine pCl_of (by decide +kernel) (Nat.le_of_ble_eq_true rfl) rfl (bX11_look_0 hW (fun z => absurd z z1) (fun _ z => absurd z x2.1) (fun _ _ z => absurd z x2.2) (fun _ _ _ z => absurd z w2.1) (fun _ _ _ _ _ => ?_) (fun _ _ _ _ z => absurd (Int32.not_lt.mp w2.2) z))
    refine s_seeAt hW hr hv Same.rf hn hb (fun m4 s4 hl => ?_)
    have hW4 := hW.sm s4.2
    have fin := K _ m4 hW4 (fun Q2 h2 => mod m4 s4 hl Q2 h2)
    have e3 : mI m4 31 3 = nI P := (s4.1 _ _ (fun y => by unfold Scr at y; omega)).trans p3
    rw [← hR]
    obtain ⟨V, hV⟩ : ∃ V : Nat → Int32, V = fun q => moF (fun r => mI m4 (528 + r) q) R R := ⟨_, rfl⟩
    have fin2 : ¬ (R = 0 ∨ P = 0) → (w = 0 → Q (some (.int (nI (liF V P)))) m4) ∧ (¬ w = 0 → Q (some (.int (V (liF V P)))) m4) := by
      intro y
      rw [if_neg y] at fin
      refine ⟨fun y2 => ?_, fun y2 => ?_⟩
      · rw [if_pos y2] at fin; rw [hV]; exact fin
      · rw [if_neg y2] at fin; rw [hV]; exact fin
    refine bX11_look_39 hW4 (fun z => ?_) (fun z => ?_)
    · have R0 : R ≠ 0 := fun y => z (by rw [y]; rfl)
      by_cases P0 : P = 0
      · have hzP : mI m4 31 3 ≤ (0 : Int32) := by rw [e3, P0]; exact Int32.le_refl _
        rw [if_pos (Or.inr P0)] at fin
        exact bX11_look_58 hW4 (fun _ _ => fin) (fun _ _ => fin) (fun y => absurd hzP y)
      · obtain ⟨f1, f2⟩ := fin2 (fun y => y.elim R0 P0)
        have hVq : ∀ q, moF (fun r => mI m4 (528 + r) q) R R = V q := fun q => by rw [hV]
        have hlt0 : ¬ mI m4 31 3 ≤ (0 : Int32) := by rw [e3]; exact nI_ge (a := 0) (b := P) (by omega) (by omega)
        refine bX11_look_58 hW4 (fun y => absurd y hlt0) (fun y => absurd y hlt0) (fun _ => ?_)
        refine s_most (q := 0) hW4 R7 (by omega) ?_
        rw [hVq]
        refine bX11_look_80 hW4 (fun _ => ?_) (fun y => absurd rfl y) (fun y => absurd rfl y)
        have key := upTo (P := fun q => 1 ≤ q → Go X 7 mX11_look Q 58 [(0, .ref 0), (2, .int w), (3, .int (nI R)), (4, .int (nI (liF V q))), (5, .int (V (liF V q))), (6, .int (nI q))] [] m4) P ?_ ?_ 1 (by omega) (Nat.le_refl 1)
        · rw [liF_1] at key; exact key
        · intro _
          have hzP : mI m4 31 3 ≤ nI P := by rw [e3]; exact Int32.le_refl _
          exact bX11_look_58 hW4 (fun _ y => f2 y) (fun _ y => f1 y) (fun y => absurd hzP y)
        · intro q hq ih hq1
          have hlt : ¬ mI m4 31 3 ≤ nI q := by rw [e3]; exact nI_ge hq (by omega)
          have step : liF V (q + 1) = if V q < V (liF V q) then q else liF V q := rfl
          have i1 := ih (by omega)
          have lq : liF V q < 4 := by
            obtain ⟨q', rfl⟩ : ∃ q', q = q' + 1 := ⟨q - 1, by omega⟩
            have := liF_lt V q'
            omega
          have ne2 : ¬ nI (liF V q) = (-2 : Int32) := by
            have : ∀ k, k < 4 → ¬ nI k = (-2 : Int32) := by decide +kernel
            exact this _ lq
          refine bX11_look_58 hW4 (fun y => absurd y hlt) (fun y => absurd y hlt) (fun _ => ?_)
          refine s_most (q := q) hW4 R7 (by omega) ?_
          rw [hVq]
          refine bX11_look_80 hW4 (fun y => absurd y ne2) (fun _ y => ?_) (fun _ y => ?_)
          · rw [step, if_neg (Int32.not_lt.mpr y)] at i1
            rw [nI_1]; exact i1
          · rw [step, if_pos (Int32.not_le.mp y)] at i1
            rw [nI_1]; exact i1
    · have : R = 0 := (nI_eq (a := R) (b := 0) (by omega) (by decide)).mp z
      rw [if_pos (Or.inl this)] at fin; exact fin
  · have bad : Q (some (.int (-1))) m := K _ m hW (fun Q2 h2 => pCl_of (by decide +kernel) (Nat.le_of_ble_eq_true rfl) rfl (bX12_look_0 hW (fun z1 z2 z3 => absurd ⟨z1, (inI (a := 60) (by decide)).mp z2, (inI (a := 1) (by decide)).mp z3⟩ c) (fun _ _ _ => h2 m h) (fun _ _ => h2 m h) (fun _ => h2 m h)))
    exact pCl_of (by decide +kernel) (Nat.le_of_ble_eq_true rfl) rfl (bX11_look_0 hW (fun _ => bad) (fun _ _ => bad) (fun _ _ _ => bad) (fun _ _ _ _ => bad) (fun z1 z2 z3 z4 z5 => absurd ⟨told.mp z1, (inI (a := 60) (by decide)).mp ⟨z2, z3⟩, (inI (a := 1) (by decide)).mp ⟨z4, Int32.not_lt.mpr z5⟩⟩ c) (fun _ _ _ _ _ => bad))
end T17
