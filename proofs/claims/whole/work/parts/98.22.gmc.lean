/-! ===== the game: the class ===== -/
def LoC (b : Nat → Bool) (m : pMem) : Prop := mI m 515 6 = nI (cB b 6) ∧ ∀ t, t < 6 → b t = true → mI m 520 (cB b t) = nI t ∧ mI m 521 (cB b t) = nI (3 ^ cB b t)
theorem dgI {s c : Nat} (hs : s < 729) (hc : c ≤ 6) : nI s / nI (3 ^ c) - nI s / nI (3 ^ c) / (3 : Int32) * (3 : Int32) = nI (dg s c) := by
  have := p3 c hc
  have h2 := Nat.div_le_self s (3 ^ c)
  rw [pk_div (by omega) (by omega) (by omega), show (3 : Int32) = nI 3 from rfl, pk_rem (by omega) (by omega) (by omega)]
  rfl
def woC (m : pMem) (q k : Nat) : Int32 := wSum (mI m 35) (nI k) 6 - dyI (mI m 32) (mI m 33 (nI q).toNatClampNeg) (wSum (mI m 34) (nI k) 6) (mI m 38 (nI q).toNatClampNeg) (mI m 31 2)
/-- the game of two -/
def gmP (m : pMem) (qx qy o e : Nat) (b : Nat → Bool) : GP := (b, fun s w => decide (pcI (nI ((if w = 1 then o else e) ||| tkN (dg s) w 6)) < mI m 31 1), fun s => woC m qx (o ||| tkN (dg s) 1 6) - woC m qy (e ||| tkN (dg s) 2 6))
section T32
variable {X : pX} {Q : Option Value → pMem → Prop} {m : pMem}
theorem s_layOut {q : Nat} {b : Nat → Bool} (hW : Wf m) (hq : q < 4) (hb : ∀ t, t < 6 → (b t = true ↔ mI m 40 t = (10 : Int32) + mI m 38 q)) (h : ∀ m2, LoC b m2 → (∀ a y, ¬ (a = 515 ∧ y = 6) → a ≠ 520 → a ≠ 521 → mI m2 a y = mI m a y) → (∀ x y, mR m2 x y = mR m x y) → Q (some (.int (nI (3 ^ cB b 6)))) m2) : Cl X 2 mX1_layOut [.ref 515, .int (nI q)] m Q := by
  refine pCl_of (by decide +kernel) (Nat.le_of_ble_eq_true rfl) rfl (bX1_layOut_0 hW (vp_in_nI hq (by decide)) ?_)
  rw [nI_clamp (show q < 2 ^ 31 by omega)]
  refine upTo (P := fun t => ∀ m2, mI m2 515 6 = nI (cB b t) → (∀ i, i < t → b i = true → mI m2 520 (cB b i) = nI i ∧ mI m2 521 (cB b i) = nI (3 ^ cB b i)) → (∀ a y, ¬ (a = 515 ∧ y = 6) → a ≠ 520 → a ≠ 521 → mI m2 a y = mI m a y) → (∀ x y, mR m2 x y = mR m x y) → Go X 2 mX1_layOut Q 19 [(0, .ref 515), (2, .int (tAt (mI m 40) ((10 : Int32) + mI m 38 q) 6)), (3, .int (nI (3 ^ cB b t))), (4, .int (nI t))] [] m2) 6 ?_ ?_ 0 (Nat.zero_le _) _ (by rw [mI_uI, if_pos ⟨rfl, rfl⟩]; rfl) (fun i hi => absurd hi (by omega)) (fun a y z1 _ _ => by rw [mI_uI, if_neg z1]) (fun _ _ => rfl)
  · intro m2 k1 k2 k3 k4
    exact bX1_layOut_19 (hW.sm k4) (fun _ => h m2 ⟨k1, k2⟩ k3 k4) (fun z => absurd (by decide) z) (fun z => absurd (by decide) z) (fun z => absurd (by decide) z)
  · intro t ht ih m2 k1 k2 k3 k4
    have hlt : ¬ (6 : Int32) ≤ nI t := nI_ge (a := t) (b := 6) ht (by decide)
    have bt1 : ((tAt (mI m 40) ((10 : Int32) + mI m 38 q) 6 >>> (nI t &&& 31)) &&& (1 : Int32)) = (1 : Int32) ↔ b t = true := (bt_t ht).trans (hb t ht).symm
    have cl := cB_le b t
    have step : cB b (t + 1) = cB b t + if b t = true then 1 else 0 := rfl
    refine bX1_layOut_19 (hW.sm k4) (fun z => absurd z hlt) (fun _ z => ?_) (fun _ _ => by rw [k1]; exact vp_in_nI (by omega) (by decide)) (fun _ z => ?_)
    · have nb : ¬ b t = true := fun y => z (bt1.mpr y)
      rw [if_neg nb, Nat.add_zero] at step
      have := ih m2 (by rw [step]; exact k1) (fun i hi bi => k2 i (by
        rcases Nat.lt_or_ge i t with y | y
        · exact y
        · exact absurd (show b t = true by rw [show t = i by omega]; exact bi) nb) bi) k3 k4
      rw [step] at this
      rw [nI_1]; exact this
    · have yb := bt1.mp z
      rw [if_pos yb] at step
      rw [k1, nI_1, nI_1, nI_clamp (by omega), show (3 : Int32) = nI 3 from rfl, nI_mul, ← Nat.pow_succ]
      have := ih (uI (uI (uI m2 520 (cB b t) (nI t)) 521 (cB b t) (nI (3 ^ cB b t))) 515 6 (nI (cB b t + 1))) (by rw [mI_uI, if_pos ⟨rfl, rfl⟩, step]) (fun i hi bi => ?_) (fun a y z1 z2 z3 => by rw [mI_uI, if_neg z1, mI_uI, if_neg (by omega), mI_uI, if_neg (by omega)]; exact k3 a y z1 z2 z3) (fun x y => k4 x y)
      · rw [step] at this; exact this
      · by_cases e : i = t
        · subst e
          exact ⟨by rw [mI_uI, if_neg (by omega), mI_uI, if_neg (by omega), mI_uI, if_pos ⟨rfl, rfl⟩], by rw [mI_uI, if_neg (by omega), mI_uI, if_pos ⟨rfl, rfl⟩]⟩
        · have := cB_lt b (show i < t by omega) bi
          have k := k2 i (by omega) bi
          exact ⟨by rw [mI_uI, if_neg (by omega), mI_uI, if_neg (by omega), mI_uI, if_neg (by omega)]; exact k.1, by rw [mI_uI, if_neg (by omega), mI_uI, if_neg (by omega), mI_uI, if_neg (by omega)]; exact k.2⟩
theorem s_setW {tu q : Nat} {m0 : pMem} (hW : Wf m0) (htu : tu < 2) (hq : q < 4) (ok : dyOk (mI m0 31 3) (mI m0 33) (nI q) (mI m0 38 (nI q).toNatClampNeg) (mI m0 31 2)) (fr : ∀ a y, a ≤ 40 → mI m a y = mI m0 a y) (hR : ∀ x y, mR m x y = mR m0 x y)
    (h : ∀ m2, (∀ k, k < 64 → mI m2 (518 + tu) k = woC m0 q k) → (∀ a y, a ≠ 518 + tu → mI m2 a y = mI m a y) → (∀ x y, mR m2 x y = mR m0 x y) → Q none m2) : Cl X 2 mX1_setWorth [.ref 515, .int (nI tu), .int (nI q)] m Q := by
  refine pCl_of (by decide +kernel) (Nat.le_of_ble_eq_true rfl) rfl (bX1_setWorth_0 (hW.sm hR) ?_)
  have etu : (nI tu).toNatClampNeg = tu := nI_clamp (by omega)
  refine upTo (P := fun k => ∀ m2, (∀ i, i < k → mI m2 (518 + tu) i = woC m0 q i) → (∀ a y, a ≠ 518 + tu → mI m2 a y = mI m a y) → (∀ x y, mR m2 x y = mR m0 x y) → Go X 2 mX1_setWorth Q 2 [(0, .ref 515), (1, .int (nI tu)), (2, .int (nI q)), (3, .int (nI k))] [] m2) 64 ?_ ?_ 0 (Nat.zero_le _) m (fun i hi => absurd hi (by omega)) (fun _ _ _ => rfl) hR
  · intro m2 k1 k2 k3
    exact bX1_setWorth_2 (hW.sm k3) (fun _ => h m2 k1 k2 k3) (fun z => absurd (by decide) z) (fun z => absurd (by decide) z) (fun z => absurd (by decide) z) (fun z => absurd (by decide) z) (fun z => absurd (by decide) z)
  · intro k hk ih m2 k1 k2 k3
    have hlt : ¬ (64 : Int32) ≤ nI k := nI_ge (a := k) (b := 64) hk (by decide)
    have g : ∀ a y, a ≤ 40 → mI m2 a y = mI m0 a y := fun a y z => (k2 a y (by omega)).trans (fr a y z)
    have gr : ∀ a, a ≤ 40 → mI m2 a = mI m0 a := fun a z => funext fun y => g a y z
    refine bX1_setWorth_2 (hW.sm k3) (fun z => absurd z hlt) (fun _ => vp_in_nI htu (by decide)) (fun _ => vp_in_nI hq (by decide)) (fun _ => by rw [gr 31 (by omega), gr 33 (by omega), gr 38 (by omega)]; exact ok) (fun _ => vp_in_nI hk (by decide)) (fun _ => ?_)
    rw [gr 31 (by omega), gr 32 (by omega), gr 33 (by omega), gr 34 (by omega), gr 35 (by omega), gr 38 (by omega), etu, nI_1, nI_clamp (show k < 2 ^ 31 by omega)]
    refine ih _ (fun i hi => ?_) (fun a y z => by rw [mI_uI, if_neg (fun w => z w.1)]; exact k2 a y z) (fun x y => k3 x y)
    by_cases e : i = k
    · subst e; rw [mI_uI, if_pos ⟨rfl, rfl⟩]; rfl
    · rw [mI_uI, if_neg (by omega)]; exact k1 i (by omega)
theorem s_cTaken {b : Nat → Bool} {s d : Nat} (hW : Wf m) (lo : LoC b m) (hs : s < 729) (hd : d = 1 ∨ d = 2) (h : Q (some (.int (nI (tkN (dg (ph b s)) d 6)))) m) : Cl X 1 mX1_takenBy [.ref 515, .int (nI s), .int (nI d)] m Q := by
  rw [← tkF_eq _ _ 6 (by omega)] at h
  refine pCl_of (by decide +kernel) (Nat.le_of_ble_eq_true rfl) rfl (bX1_takenBy_0 hW ?_)
  refine upTo (P := fun t => Go X 1 mX1_takenBy Q 5 [(0, .ref 515), (1, .int (nI s)), (2, .int (nI d)), (3, .int (tkF (dg (ph b s)) d t)), (4, .int (nI (cB b t)))] [] m) 6 ?_ ?_ 0 (Nat.zero_le _)
  · have hz : mI m 515 6 ≤ nI (cB b 6) := by rw [lo.1]; exact Int32.le_refl _
    exact bX1_takenBy_5 hW (fun _ => h) (fun z => absurd hz z) (fun z => absurd hz z) (fun z => absurd hz z) (fun z => absurd hz z) (fun z => absurd hz z)
  · intro t ht ih
    have cl := cB_le b t
    have step : cB b (t + 1) = cB b t + if b t = true then 1 else 0 := rfl
    have stk : tkF (dg (ph b s)) d (t + 1) = if dg (ph b s) t = d then tkF (dg (ph b s)) d t ||| ((1 : Int32) <<< (nI t &&& 31)) else tkF (dg (ph b s)) d t := rfl
    have dt := ph_dg (b := b) (s := s) ht
    unfold phD at dt
    by_cases bt2 : b t = true
    · rw [if_pos bt2] at step dt
      have lt := cB_lt b ht bt2
      obtain ⟨l1, l2⟩ := lo.2 t ht bt2
      have c6 := cB_le b 6
      have hlt : ¬ mI m 515 6 ≤ nI (cB b t) := by rw [lo.1]; exact nI_ge lt (by omega)
      have ec : (nI (cB b t)).toNatClampNeg = cB b t := nI_clamp (by omega)
      have p3c := p3 (cB b t) (by omega)
      have dig : (0 < mI m 521 (nI (cB b t)).toNatClampNeg ∧ ((nI s / (mI m 521 (nI (cB b t)).toNatClampNeg)) - (nI s / (mI m 521 (nI (cB b t)).toNatClampNeg)) / (3 : Int32) * (3 : Int32)) = nI d) ↔ dg (ph b s) t = d := by
        have dl := dg_lt s (cB b t)
        rw [ec, l2, dgI hs (by omega), dt, nI_eq (by omega) (by omega)]
        exact ⟨fun z => z.2, fun z => ⟨nI_lt (a := 0) (by omega) (by omega), z⟩⟩
      refine bX1_takenBy_5 hW (fun z => absurd z hlt) (fun _ z => absurd z (nI_ge (a := cB b t) (b := 6) (by omega) (by decide))) (fun _ _ => vp_in_nI (by omega) (by decide)) (fun _ _ _ => vp_in_nI (by omega) (by decide)) (fun _ _ z => ?_) (fun _ _ z => ?_)
      · rw [stk, if_pos (dig.mp z), step] at ih
        rw [ec, l1, nI_1]; exact ih
      · rw [stk, if_neg (fun y => z (dig.mpr y)), step] at ih
        rw [nI_1]; exact ih
    · rw [if_neg bt2] at step dt
      rw [stk, if_neg (by omega), step, Nat.add_zero] at ih
      exact ih
theorem s_worthSet {tu k : Nat} (hW : Wf m) (htu : tu < 2) (hk : k < 64) (e : mI m 522 tu = nI k) (h : Q (some (.int (mI m (518 + tu) k))) m) : Cl X 0 mX1_worthOfSet [.ref 515, .int (nI tu)] m Q := by
  have etu : (nI tu).toNatClampNeg = tu := nI_clamp (by omega)
  have vt : vp_in (nI tu) 2 := vp_in_nI htu (by decide)
  refine pCl_of (by decide +kernel) (Nat.le_of_ble_eq_true rfl) rfl (bX1_worthOfSet_0 hW vt (fun z => ?_) (fun _ z => ?_) (fun _ _ => vt) (fun _ _ => by rw [etu, e]; exact vp_in_nI hk (by decide)) (fun _ _ => ?_))
  · rw [etu, e] at z; exact absurd z (nI_pos (by omega))
  · rw [etu, e] at z; exact absurd z (nI_ge (a := k) (b := 64) hk (by decide))
  · rw [etu, e, nI_clamp (by omega)]; exact h
theorem ixG {s tu c : Nat} (htu : tu = 0 ∨ tu = 1) : ((nI s + ((nI tu + (1 : Int32)) * nI (3 ^ c))) * (4 : Int32)) + (((1 : Int32) - nI tu) * (2 : Int32)) = nI (4 * (s + (tu + 1) * 3 ^ c) + 2 * (1 - tu)) := by
  have e1 : (1 : Int32) - nI tu = nI (1 - tu) := by rcases htu with rfl | rfl <;> decide
  rw [e1, nI_1, show (4 : Int32) = nI 4 from rfl, show (2 : Int32) = nI 2 from rfl, nI_mul, nI_add, nI_mul, nI_mul, nI_add]
  have : (s + (tu + 1) * 3 ^ c) * 4 + (1 - tu) * 2 = 4 * (s + (tu + 1) * 3 ^ c) + 2 * (1 - tu) := by
    generalize (tu + 1) * 3 ^ c = y
    omega
  rw [this]
theorem s_cBest {b : Nat → Bool} {my : Nat → Nat → Bool} {en : Nat → Int32} {tb : Nat → Nat → Int32} {s tu k : Nat} {p0 : Int32} (hW : Wf m) (lo : LoC b m) (hs : s < 3 ^ cB b 6) (htu : tu = 0 ∨ tu = 1) (hk : k < 64) (e : mI m 522 tu = nI k) (hmy : my (ph b s) (tu + 1) = true ↔ pcI (nI k) < mI m 31 1)
    (htb : ∀ s2, s < s2 → s2 < 3 ^ cB b 6 → ∀ c, c < 4 → mI m 516 (4 * s2 + c) = tb (ph b s2) c)
    (h : ∀ m2, (∀ a y, ¬ (a = 515 ∧ y = 9) → mI m2 a y = mI m a y) → (∀ x y, mR m2 x y = mR m x y) → mI m2 515 9 = (bst (b, my, en) tb (ph b s) (tu + 1) p0).2 → Q (some (.int (bst (b, my, en) tb (ph b s) (tu + 1) p0).1)) m2) : Cl X 1 mX1_best [.ref 515, .int (nI s), .int (nI tu), .int p0] m Q := by
  have c6 := cB_le b 6
  have p36 := p3 (cB b 6) c6
  have etu : (nI tu).toNatClampNeg = tu := nI_clamp (by omega)
  have vt : vp_in (nI tu) 2 := vp_in_nI (by omega) (by decide)
  refine pCl_of (by decide +kernel) (Nat.le_of_ble_eq_true rfl) rfl (bX1_best_0 hW vt (by rw [etu, e]; exact ⟨k, hk, rfl⟩) (fun z => ?_) (fun z => ?_))
  · rw [etu, e] at z
    have bs : bst (b, my, en) tb (ph b s) (tu + 1) p0 = bsF (okG (b, my, en) (ph b s)) (fun k => tb (ph b s + (tu + 1) * 3 ^ k) (2 * (2 - (tu + 1)))) (tu + 1) p0 6 := if_pos (hmy.mpr z)
    rw [bs] at h
    refine upTo (P := fun t => ∀ m2, (∀ a y, ¬ (a = 515 ∧ y = 9) → mI m2 a y = mI m a y) → (∀ x y, mR m2 x y = mR m x y) → mI m2 515 9 = (bsF (okG (b, my, en) (ph b s)) (fun k => tb (ph b s + (tu + 1) * 3 ^ k) (2 * (2 - (tu + 1)))) (tu + 1) p0 t).2 → Go X 1 mX1_best Q 33 [(0, .ref 515), (1, .int (nI s)), (2, .int (nI tu)), (4, .int (bsF (okG (b, my, en) (ph b s)) (fun k => tb (ph b s + (tu + 1) * 3 ^ k) (2 * (2 - (tu + 1)))) (tu + 1) p0 t).1), (5, .int (nI (cB b t)))] [] m2) 6 ?_ ?_ 0 (Nat.zero_le _) _ (fun a y z1 => by rw [mI_uI, if_neg z1]) (fun _ _ => rfl) (by rw [mI_uI, if_pos ⟨rfl, rfl⟩]; rfl)
    · intro m2 k1 k2 k3
      have hz : mI m2 515 6 ≤ nI (cB b 6) := by rw [k1 _ _ (by omega), lo.1]; exact Int32.le_refl _
      exact bX1_best_33 (hW.sm k2) (fun _ => h m2 k1 k2 k3) (fun z => absurd hz z) (fun z => absurd hz z) (fun z => absurd hz z) (fun z => absurd hz z) (fun z => absurd hz z) (fun z => absurd hz z) (fun z => absurd hz z) (fun z => absurd hz z) (fun z => absurd hz z)
    · intro t ht ih m2 k1 k2 k3
      have cl := cB_le b t
      have step : cB b (t + 1) = cB b t + if b t = true then 1 else 0 := rfl
      obtain ⟨F, hF⟩ : ∃ F : Nat → Int32 × Int32, F = bsF (okG (b, my, en) (ph b s)) (fun k => tb (ph b s + (tu + 1) * 3 ^ k) (2 * (2 - (tu + 1)))) (tu + 1) p0 := ⟨_, rfl⟩
      have stF : F (t + 1) = if okG (b, my, en) (ph b s) t = true ∧ ((tu + 1 = 1 ∧ (F t).1 < tb (ph b s + (tu + 1) * 3 ^ t) (2 * (2 - (tu + 1)))) ∨ (¬ tu + 1 = 1 ∧ tb (ph b s + (tu + 1) * 3 ^ t) (2 * (2 - (tu + 1))) < (F t).1)) then (tb (ph b s + (tu + 1) * 3 ^ t) (2 * (2 - (tu + 1))), nI t) else F t := by rw [hF]; rfl
      rw [← hF] at ih k3 ⊢
      have dt := ph_dg (b := b) (s := s) ht
      unfold phD at dt
      by_cases bt2 : b t = true
      · rw [if_pos bt2] at step dt
        have lt := cB_lt b ht bt2
        obtain ⟨l1, l2⟩ := lo.2 t ht bt2
        have hlt : ¬ mI m2 515 6 ≤ nI (cB b t) := by rw [k1 _ _ (by omega), lo.1]; exact nI_ge lt (by omega)
        have ec : (nI (cB b t)).toNatClampNeg = cB b t := nI_clamp (by omega)
        have p3c := p3 (cB b t) (by omega)
        have l2' : mI m2 521 (cB b t) = nI (3 ^ cB b t) := (k1 _ _ (by omega)).trans l2
        have l1' : mI m2 520 (cB b t) = nI t := (k1 _ _ (by omega)).trans l1
        have dl := dg_lt s (cB b t)
        have dig : (0 < mI m2 521 (nI (cB b t)).toNatClampNeg ∧ ((nI s / (mI m2 521 (nI (cB b t)).toNatClampNeg)) - (nI s / (mI m2 521 (nI (cB b t)).toNatClampNeg)) / (3 : Int32) * (3 : Int32)) = (0 : Int32)) ↔ dg (ph b s) t = 0 := by
          rw [ec, l2', dgI (by omega) (by omega), dt, show (0 : Int32) = nI 0 from rfl, nI_eq (by omega) (by omega)]
          exact ⟨fun z => z.2, fun z => ⟨nI_lt (a := 0) (by omega) (by omega), z⟩⟩
        have okt : okG (b, my, en) (ph b s) t = true ↔ dg (ph b s) t = 0 := by rw [okG_iff]; exact ⟨fun z => z.2, fun z => ⟨bt2, z⟩⟩
        have ix : ((nI s + ((nI tu + (1 : Int32)) * (mI m2 521 (nI (cB b t)).toNatClampNeg))) * (4 : Int32)) + (((1 : Int32) - nI tu) * (2 : Int32)) = nI (4 * (s + (tu + 1) * 3 ^ cB b t) + 2 * (1 - tu)) := by rw [ec, l2', ixG htu]
        -- the state that follows
        have nxt : dg (ph b s) t = 0 → s + (tu + 1) * 3 ^ cB b t < 3 ^ cB b 6 ∧ mI m2 516 (4 * (s + (tu + 1) * 3 ^ cB b t) + 2 * (1 - tu)) = tb (ph b s + (tu + 1) * 3 ^ t) (2 * (2 - (tu + 1))) := by
          intro y
          have y2 : dg s (cB b t) = 0 := by rw [← dt]; exact y
          have bd := dg_bd (w := tu + 1) c6 lt hs (by omega) y2
          refine ⟨bd, ?_⟩
          have pos : 0 < (tu + 1) * 3 ^ cB b t := Nat.mul_pos (by omega) (by omega)
          rw [k1 _ _ (by omega), htb _ (by omega) bd _ (by omega), ph_add ht bt2 (by omega) y2, show 2 * (1 - tu) = 2 * (2 - (tu + 1)) by omega]
        refine bX1_best_33 (hW.sm k2) (fun z => absurd z hlt) (fun _ z => absurd z (nI_ge (a := cB b t) (b := 6) (by omega) (by decide))) (fun _ _ => vp_in_nI (by omega) (by decide)) (fun _ _ z1 z2 => ?_) (fun _ _ z1 z2 => ?_) (fun _ _ z1 _ z3 z4 => ?_) (fun _ _ z1 _ z3 z4 => ?_) (fun _ _ z1 _ z3 z4 => ?_) (fun _ _ z1 _ z3 z4 => ?_) (fun _ _ z1 => ?_)
        · obtain ⟨bd, _⟩ := nxt (dig.mp z1)
          rw [ix] at z2
          exact absurd z2 (nI_ge (b := 2916) (by omega) (by decide))
        · obtain ⟨bd, _⟩ := nxt (dig.mp z1)
          rw [ix]; exact vp_in_nI (by omega) (by decide)
        · obtain ⟨bd, ev⟩ := nxt (dig.mp z1)
          have t1 : tu = 1 := htu.resolve_left (fun y => z3 (by rw [y]; rfl))
          rw [ix, nI_clamp (by omega), ev] at z4
          have := ih m2 k1 k2 (by rw [stF, if_neg (fun y => y.2.elim (fun y => by omega) (fun y => Int32.not_lt.mpr z4 y.2))]; exact k3)
          rw [stF, if_neg (fun y => y.2.elim (fun y => by omega) (fun y => Int32.not_lt.mpr z4 y.2)), step] at this
          rw [nI_1]; exact this
        · obtain ⟨bd, ev⟩ := nxt (dig.mp z1)
          have t1 : tu = 1 := htu.resolve_left (fun y => z3 (by rw [y]; rfl))
          rw [ix, nI_clamp (by omega), ev] at z4 ⊢
          have cnd : okG (b, my, en) (ph b s) t = true ∧ ((tu + 1 = 1 ∧ (F t).1 < tb (ph b s + (tu + 1) * 3 ^ t) (2 * (2 - (tu + 1)))) ∨ (¬ tu + 1 = 1 ∧ tb (ph b s + (tu + 1) * 3 ^ t) (2 * (2 - (tu + 1))) < (F t).1)) := ⟨okt.mpr (dig.mp z1), Or.inr ⟨by omega, Int32.not_le.mp z4⟩⟩
          refine bX1_best_127 (hW.sm k2) (vp_in_nI (by omega) (by decide)) ?_
          rw [ec, l1', nI_1]
          have := ih (uI m2 515 9 (nI t)) (fun a y z => by rw [mI_uI, if_neg z]; exact k1 a y z) (fun x y => k2 x y) (by rw [mI_uI, if_pos ⟨rfl, rfl⟩, stF, if_pos cnd])
          rw [stF, if_pos cnd, step] at this
          exact this
        · obtain ⟨bd, ev⟩ := nxt (dig.mp z1)
          have t0 : tu = 0 := htu.resolve_right (fun y => by rw [y] at z3; exact absurd z3 (by decide))
          rw [ix, nI_clamp (by omega), ev] at z4
          have := ih m2 k1 k2 (by rw [stF, if_neg (fun y => y.2.elim (fun y => Int32.not_lt.mpr z4 y.2) (fun y => by omega))]; exact k3)
          rw [stF, if_neg (fun y => y.2.elim (fun y => Int32.not_lt.mpr z4 y.2) (fun y => by omega)), step] at this
          rw [nI_1]; exact this
        · obtain ⟨bd, ev⟩ := nxt (dig.mp z1)
          have t0 : tu = 0 := htu.resolve_right (fun y => by rw [y] at z3; exact absurd z3 (by decide))
          rw [ix, nI_clamp (by omega), ev] at z4 ⊢
          have cnd : okG (b, my, en) (ph b s) t = true ∧ ((tu + 1 = 1 ∧ (F t).1 < tb (ph b s + (tu + 1) * 3 ^ t) (2 * (2 - (tu + 1)))) ∨ (¬ tu + 1 = 1 ∧ tb (ph b s + (tu + 1) * 3 ^ t) (2 * (2 - (tu + 1))) < (F t).1)) := ⟨okt.mpr (dig.mp z1), Or.inl ⟨by omega, Int32.not_le.mp z4⟩⟩
          refine bX1_best_127 (hW.sm k2) (vp_in_nI (by omega) (by decide)) ?_
          rw [ec, l1', nI_1]
          have := ih (uI m2 515 9 (nI t)) (fun a y z => by rw [mI_uI, if_neg z]; exact k1 a y z) (fun x y => k2 x y) (by rw [mI_uI, if_pos ⟨rfl, rfl⟩, stF, if_pos cnd])
          rw [stF, if_pos cnd, step] at this
          exact this
        · have nk : ¬ okG (b, my, en) (ph b s) t = true := fun y => z1 (dig.mpr (okt.mp y))
          have := ih m2 k1 k2 (by rw [stF, if_neg (fun y => nk y.1)]; exact k3)
          rw [stF, if_neg (fun y => nk y.1), step] at this
          rw [nI_1]; exact this
      · rw [if_neg bt2, Nat.add_zero] at step
        have nk : ¬ okG (b, my, en) (ph b s) t = true := fun y => bt2 (okG_iff.mp y).1
        have := ih m2 k1 k2 (by rw [stF, if_neg (fun y => nk y.1)]; exact k3)
        rw [stF, if_neg (fun y => nk y.1), step] at this
        exact this
  · rw [etu, e] at z
    have bs : bst (b, my, en) tb (ph b s) (tu + 1) p0 = (p0, -1) := if_neg (fun y => z (hmy.mp y))
    rw [bs] at h
    exact h _ (fun a y z1 => by rw [mI_uI, if_neg z1]) (fun _ _ => rfl) (by rw [mI_uI, if_pos ⟨rfl, rfl⟩])
end T32
