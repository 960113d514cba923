/-! ===== the game: the model ===== -/
def GJ (m : pMem) (qx qy L : Nat) (m2 : pMem) : Prop := Same Scr m m2 ∧ mI m2 535 46 = nI qx ∧ mI m2 535 47 = nI qy ∧ mI m2 535 48 = nI L
theorem GJ_u {m m2 m3 : pMem} {qx qy L : Nat} (h : GJ m qx qy L m2) (h1 : ∀ a y, a ≠ 566 → ¬ (a = 535 ∧ y = 49) → mI m3 a y = mI m2 a y) (h2 : ∀ x y, mR m3 x y = mR m2 x y) : GJ m qx qy L m3 := by
  obtain ⟨a, b, c, d⟩ := h
  exact ⟨⟨fun x y z => (h1 x y (fun w => z (by unfold Scr; omega)) (fun w => z (by unfold Scr; omega))).trans (a.1 x y z), fun x y => (h2 x y).trans (a.2 x y)⟩, (h1 _ _ (by omega) (by omega)).trans b, (h1 _ _ (by omega) (by omega)).trans c, (h1 _ _ (by omega) (by omega)).trans d⟩
def woM (m : pMem) (q k : Nat) : Int32 := wSum (mI m 543) (nI k) (mI m 536 4).toNatClampNeg - dyI (mI m 540) (mI m 541 (nI q).toNatClampNeg) (wSum (mI m 542) (nI k) (mI m 536 4).toNatClampNeg) (mI m 537 (nI q).toNatClampNeg) (mI m 536 2)
def laidS (b : Nat → Bool) (s : Nat) : Prop := ∀ k, k < 6 → dg s k ≠ 0 → b k = true
def tcF (s : Nat) : Nat → Nat
  | 0 => 0
  | t + 1 => tcF s t + if dg s t = 0 then 0 else 1
theorem tcF_le (s : Nat) : ∀ t, tcF s t ≤ t
  | 0 => Nat.le_refl 0
  | t + 1 => by have := tcF_le s t; unfold tcF; split <;> omega
theorem tcF_add {s k w : Nat} (hk : k < 6) (hw : w = 1 ∨ w = 2) (h : dg s k = 0) : tcF (s + w * 3 ^ k) 6 = tcF s 6 + 1 := by
  have key : ∀ t, t ≤ 6 → tcF (s + w * 3 ^ k) t = tcF s t + if k < t then 1 else 0 := by
    intro t
    induction t with
    | zero => intro _; rfl
    | succ t ih =>
      intro ht
      have i1 := ih (by omega)
      have d := dg_add (j := t) (w := w) hk (by omega) (by omega) h
      have e1 : tcF (s + w * 3 ^ k) (t + 1) = tcF (s + w * 3 ^ k) t + if dg (s + w * 3 ^ k) t = 0 then 0 else 1 := rfl
      have e2 : tcF s (t + 1) = tcF s t + if dg s t = 0 then 0 else 1 := rfl
      rw [e1, e2, d, i1]
      by_cases e : t = k
      · subst e
        rw [if_pos rfl, if_neg (show ¬ w = 0 by omega), if_pos h, if_neg (show ¬ t < t by omega), if_pos (by omega)]
      · rw [if_neg e]
        by_cases c2 : k < t
        · rw [if_pos c2, if_pos (show k < t + 1 by omega)]; omega
        · rw [if_neg c2, if_neg (show ¬ k < t + 1 by omega)]; omega
  have := key 6 (Nat.le_refl 6)
  rw [if_pos hk] at this
  exact this
theorem laid_add {b : Nat → Bool} {s k w : Nat} (hk : k < 6) (hw : w < 3) (h : dg s k = 0) (hb : b k = true) (hl : laidS b s) : laidS b (s + w * 3 ^ k) := by
  intro j hj hd
  rw [dg_add hk hj hw h] at hd
  by_cases e : j = k
  · rw [e]; exact hb
  · rw [if_neg e] at hd; exact hl j hj hd
section T34
variable {X : pX} {Q : Option Value → pMem → Prop} {m m2 : pMem}
theorem s_mTaken {T qx qy L o s w : Nat} (hW : Wf m) (hC : ConI m) (qT : mI m 536 4 = nI T) (p6 : T ≤ 6) (hJ : GJ m qx qy L m2) (hs : s < 729) (hw : w = 1 ∨ w = 2) (ho : tAt (mI m 539) (if w = 1 then nI qx else nI qy) T = nI o) (hl : ∀ k, T ≤ k → k < 6 → dg s k = 0) (h : Q (some (.int (nI (o ||| tkN (dg s) w 6)))) m2) : Cl X 1 mX12_takenBy [.ref 535, .int (nI s), .int (nI w)] m2 Q := by
  obtain ⟨j1, j2, j3, j4⟩ := hJ
  have hW2 := hW.sm j1.2
  have g : ∀ a y, ¬ Scr a y → mI m2 a y = mI m a y := j1.1
  have eT : mI m2 536 4 = nI T := (g _ _ (fun w => by unfold Scr at w; omega)).trans qT
  have vT : vp_in (mI m2 536 4) 7 := by rw [eT]; exact vp_in_nI (by omega) (by decide)
  have t9 : ∀ v, tAt (mI m2 539) v T = tAt (mI m 539) v T := fun v => by
    have : ∀ n, n ≤ 6 → tAt (mI m2 539) v n = tAt (mI m 539) v n := by
      intro n
      induction n with
      | zero => intro _; rfl
      | succ n ih => intro hn; unfold tAt; rw [ih (by omega), g 539 n (fun w => by unfold Scr at w; omega)]
    exact this T p6
  have c3 : ∀ k, k < 6 → mI m2 567 (nI k).toNatClampNeg = nI (3 ^ k) := fun k hk => by rw [nI_clamp (by omega), g _ _ (fun w => by unfold Scr at w; omega)]; exact hC.2 k hk
  have loop : Go X 1 mX12_takenBy Q 24 [(0, .ref 535), (1, .int (nI s)), (2, .int (nI w)), (3, .int (nI o)), (4, .int (0 : Int32))] [] m2 := by
    have key := upTo (P := fun t => Go X 1 mX12_takenBy Q 24 [(0, .ref 535), (1, .int (nI s)), (2, .int (nI w)), (3, .int (nI o ||| tkF (dg s) w t)), (4, .int (nI t))] [] m2) T ?_ ?_ 0 (Nat.zero_le _)
    · rw [show nI o ||| tkF (dg s) w 0 = nI o from Int32.or_zero] at key; exact key
    · have hz : mI m2 536 4 ≤ nI T := by rw [eT]; exact Int32.le_refl _
      refine bX12_takenBy_24 hW2 (fun _ => ?_) (fun z => absurd hz z) (fun z => absurd hz z) (fun z => absurd hz z) (fun z => absurd hz z)
      rw [← tkF_no (a := T) 6 p6 (fun k h1 h2 => by have := hl k h1 h2; omega), tkF_eq _ _ 6 (by omega), fa_or]
      exact h
    · intro t ht ih
      have hlt : ¬ mI m2 536 4 ≤ nI t := by rw [eT]; exact nI_ge ht (by omega)
      have p3t := p3 t (by omega)
      have stk : tkF (dg s) w (t + 1) = if dg s t = w then tkF (dg s) w t ||| ((1 : Int32) <<< (nI t &&& 31)) else tkF (dg s) w t := rfl
      have dl := dg_lt s t
      have dig : ((nI s / (mI m2 567 (nI t).toNatClampNeg)) - (nI s / (mI m2 567 (nI t).toNatClampNeg)) / (3 : Int32) * (3 : Int32)) = nI w ↔ dg s t = w := by
        rw [c3 t (by omega), dgI hs (by omega), nI_eq (by omega) (by omega)]
      refine bX12_takenBy_24 hW2 (fun z => absurd z hlt) (fun _ => vp_in_nI (by omega) (by decide)) (fun _ => by rw [c3 t (by omega)]; exact nI_ne0 (by omega) (by omega)) (fun _ z => ?_) (fun _ z => ?_)
      · rw [stk, if_neg (fun y => z (dig.mpr y))] at ih
        rw [nI_1, Int32.or_zero]; exact ih
      · rw [stk, if_pos (dig.mp z)] at ih
        rw [nI_1, Int32.or_assoc]; exact ih
  refine pCl_of (by decide +kernel) (Nat.le_of_ble_eq_true rfl) rfl (bX12_takenBy_0 hW2 (fun _ => vT) (fun z => ?_) (fun _ => vT) (fun z => ?_))
  · have w2 : ¬ w = 1 := fun y => z (by rw [y]; rfl)
    rw [if_neg w2] at ho
    rw [j3, eT, nI_clamp (by omega), t9, ho]; exact loop
  · have w1 : w = 1 := hw.resolve_right (fun y => by rw [y] at z; exact absurd z (by decide))
    rw [if_pos w1] at ho
    rw [j2, eT, nI_clamp (by omega), t9, ho]; exact loop
theorem s_mWorthIn {T qx qy L o s w : Nat} (hW : Wf m) (hC : ConI m) (qT : mI m 536 4 = nI T) (p6 : T ≤ 6) (hJ : GJ m qx qy L m2) (hs : s < 729) (hw : w = 1 ∨ w = 2) (ho : tAt (mI m 539) (if w = 1 then nI qx else nI qy) T = nI o) (hl : ∀ k, T ≤ k → k < 6 → dg s k = 0) (hq : qx < 4 ∧ qy < 4)
    (ok : dyOkM (mI m 541) (nI (if w = 1 then qx else qy)) (mI m 537 (nI (if w = 1 then qx else qy)).toNatClampNeg) (mI m 536 2)) (h : Q (some (.int (woM m (if w = 1 then qx else qy) (o ||| tkN (dg s) w 6)))) m2) : Cl X 3 mX12_worthIn [.ref 535, .int (nI s), .int (nI w)] m2 Q := by
  have hJ0 := hJ
  obtain ⟨j1, j2, j3, j4⟩ := hJ
  have hW2 := hW.sm j1.2
  have g : ∀ a y, ¬ Scr a y → mI m2 a y = mI m a y := j1.1
  have eT : mI m2 536 4 = mI m 536 4 := g _ _ (fun w => by unfold Scr at w; omega)
  have e2 : mI m2 536 2 = mI m 536 2 := g _ _ (fun w => by unfold Scr at w; omega)
  have vT : vp_in (mI m2 536 4) 7 := by rw [eT, qT]; exact vp_in_nI (by omega) (by decide)
  have r : ∀ a, 540 ≤ a → a ≤ 543 → mI m2 a = mI m a := fun a z1 z2 => funext fun y => g _ _ (fun w => by unfold Scr at w; omega)
  have r7 : ∀ k, k < 4 → mI m2 537 (nI k).toNatClampNeg = mI m 537 (nI k).toNatClampNeg := fun k hk => by rw [nI_clamp (by omega)]; exact g _ _ (fun w => by unfold Scr at w; omega)
  refine pCl_of (by decide +kernel) (Nat.le_of_ble_eq_true rfl) rfl (bX12_worthIn_0 hW2 ?_)
  refine s_mTaken hW hC qT p6 hJ0 hs hw ho hl ?_
  refine bX12_worthIn_6 hW2 vT (fun _ => vT) (fun z => ?_) (fun z => ?_) (fun _ => vT) (fun z => ?_) (fun z => ?_)
  · have w2 : ¬ w = 1 := fun y => z (by rw [y]; rfl)
    rw [if_neg w2] at ok
    rw [j3, r 541 (by omega) (by omega), r7 qy hq.2, e2]; exact ok
  · have w2 : ¬ w = 1 := fun y => z (by rw [y]; rfl)
    rw [if_neg w2] at h
    rw [j3, r 540 (by omega) (by omega), r 541 (by omega) (by omega), r 542 (by omega) (by omega), r 543 (by omega) (by omega), r7 qy hq.2, e2, eT]; exact h
  · have w1 : w = 1 := hw.resolve_right (fun y => by rw [y] at z; exact absurd z (by decide))
    rw [if_pos w1] at ok
    rw [j2, r 541 (by omega) (by omega), r7 qx hq.1, e2]; exact ok
  · have w1 : w = 1 := hw.resolve_right (fun y => by rw [y] at z; exact absurd z (by decide))
    rw [if_pos w1] at h
    rw [j2, r 540 (by omega) (by omega), r 541 (by omega) (by omega), r 542 (by omega) (by omega), r 543 (by omega) (by omega), r7 qx hq.1, e2, eT]; exact h
theorem s_howMany {qx qy L s : Nat} (hW : Wf m) (hC : ConI m) (hJ : GJ m qx qy L m2) (hs : s < 729) (h : Q (some (.int (nI (tcF s 6)))) m2) : Cl X 0 mX12_howManyTaken [.ref 535, .int (nI s)] m2 Q := by
  have hW2 := hW.sm hJ.1.2
  have c3 : ∀ k, k < 6 → mI m2 567 (nI k).toNatClampNeg = nI (3 ^ k) := fun k hk => by rw [nI_clamp (by omega), hJ.1.1 _ _ (fun w => by unfold Scr at w; omega)]; exact hC.2 k hk
  refine pCl_of (by decide +kernel) (Nat.le_of_ble_eq_true rfl) rfl (bX12_howManyTaken_0 hW2 ?_)
  refine upTo (P := fun t => Go X 0 mX12_howManyTaken Q 4 [(0, .ref 535), (1, .int (nI s)), (2, .int (nI (tcF s t))), (3, .int (nI t))] [] m2) 6 ?_ ?_ 0 (Nat.zero_le _)
  · exact bX12_howManyTaken_4 hW2 (fun _ => h) (fun z => absurd (by decide) z) (fun z => absurd (by decide) z) (fun z => absurd (by decide) z) (fun z => absurd (by decide) z)
  · intro t ht ih
    have hlt : ¬ (6 : Int32) ≤ nI t := nI_ge (a := t) (b := 6) ht (by decide)
    have p3t := p3 t (by omega)
    have step : tcF s (t + 1) = tcF s t + if dg s t = 0 then 0 else 1 := rfl
    have dl := dg_lt s t
    have dig : ((nI s / (mI m2 567 (nI t).toNatClampNeg)) - (nI s / (mI m2 567 (nI t).toNatClampNeg)) / (3 : Int32) * (3 : Int32)) ≤ 0 ↔ dg s t = 0 := by
      rw [c3 t ht, dgI hs (by omega), show (0 : Int32) = nI 0 from rfl, nI_leI (by omega) (by omega)]; omega
    refine bX12_howManyTaken_4 hW2 (fun z => absurd z hlt) (fun _ => vp_in_nI ht (by decide)) (fun _ => by rw [c3 t ht]; exact nI_ne0 (by omega) (by omega)) (fun _ z => ?_) (fun _ z => ?_)
    · rw [step, if_pos (dig.mp z)] at ih
      rw [nI_1, Int32.add_zero]; exact ih
    · rw [step, if_neg (fun y => z (dig.mpr y))] at ih
      rw [nI_1, nI_1]; exact ih
theorem s_isLaid {T qx qy L s : Nat} {b : Nat → Bool} (hW : Wf m) (hC : ConI m) (qT : mI m 536 4 = nI T) (p6 : T ≤ 6) (hJ : GJ m qx qy L m2) (hs : s < 729) (hb : ∀ t, t < 6 → (((nI L >>> (nI t &&& 31)) &&& (1 : Int32)) = (1 : Int32) ↔ b t = true)) (hbT : ∀ t, b t = true → t < T) (h1 : laidS b s → Q (some (.int 1)) m2) (h0 : ¬ laidS b s → Q (some (.int 0)) m2) : Cl X 1 mX12_isLaid [.ref 535, .int (nI s)] m2 Q := by
  have hW2 := hW.sm hJ.1.2
  have c3 : ∀ k, k < 6 → mI m2 567 (nI k).toNatClampNeg = nI (3 ^ k) := fun k hk => by rw [nI_clamp (by omega), hJ.1.1 _ _ (fun w => by unfold Scr at w; omega)]; exact hC.2 k hk
  have eT : mI m2 536 4 = nI T := (hJ.1.1 _ _ (fun w => by unfold Scr at w; omega)).trans qT
  refine pCl_of (by decide +kernel) (Nat.le_of_ble_eq_true rfl) rfl (bX12_isLaid_0 hW2 ?_)
  refine upTo (P := fun t => (∀ k, k < t → dg s k ≠ 0 → b k = true) → Go X 1 mX12_isLaid Q 2 [(0, .ref 535), (1, .int (nI s)), (2, .int (nI t))] [] m2) 6 ?_ ?_ 0 (Nat.zero_le _) (fun k hk => absurd hk (by omega))
  · intro hall
    exact bX12_isLaid_2 hW2 (fun _ => h1 hall) (fun z => absurd (by decide) z) (fun z => absurd (by decide) z) (fun z => absurd (by decide) z) (fun z => absurd (by decide) z) (fun z => absurd (by decide) z) (fun z => absurd (by decide) z)
  · intro t ht ih hall
    have hlt : ¬ (6 : Int32) ≤ nI t := nI_ge (a := t) (b := 6) ht (by decide)
    have p3t := p3 t (by omega)
    have dl := dg_lt s t
    have dig : ((nI s / (mI m2 567 (nI t).toNatClampNeg)) - (nI s / (mI m2 567 (nI t).toNatClampNeg)) / (3 : Int32) * (3 : Int32)) ≤ 0 ↔ dg s t = 0 := by
      rw [c3 t ht, dgI hs (by omega), show (0 : Int32) = nI 0 from rfl, nI_leI (by omega) (by omega)]; omega
    have nx : (dg s t ≠ 0 → b t = true) → Go X 1 mX12_isLaid Q 2 [(0, .ref 535), (1, .int (nI s)), (2, .int (nI t + (1 : Int32)))] [] m2 := fun y => by
      rw [nI_1]
      refine ih (fun k hk hd => ?_)
      by_cases e : k = t
      · rw [e] at hd ⊢; exact y hd
      · exact hall k (by omega) hd
    refine bX12_isLaid_2 hW2 (fun z => absurd z hlt) (fun _ => vp_in_nI ht (by decide)) (fun _ => by rw [c3 t ht]; exact nI_ne0 (by omega) (by omega)) (fun _ z => nx (fun y => absurd (dig.mp z) y)) (fun _ _ z2 _ => ?_) (fun _ z1 z2 z3 => ?_) (fun _ z1 z2 => ?_)
    · rw [hJ.2.2.2] at z2
      exact nx (fun _ => (hb t ht).mp z2)
    · rw [hJ.2.2.2] at z2
      rw [eT] at z3
      exact absurd (nI_lt (hbT t ((hb t ht).mp z2)) (by omega)) z3
    · rw [hJ.2.2.2] at z2
      exact h0 (fun y => z2 ((hb t ht).mpr (y t ht (fun u => z1 (dig.mpr u)))))
end T34
