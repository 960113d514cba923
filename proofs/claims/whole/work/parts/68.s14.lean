/-! ===== rows laid in a long row, and taken back ===== -/
/-- t places of a row a are through. B: the long row; c: where one stands in it; f: whether it is taken back -/
def gP (B c f : Nat) (m : pMem) (a p t : Nat) : pMem := uI (if mI m 535 f = 0 then uC m a 0 B p t else uC m B p a 0 t) 535 c (nI (p + t))
def gM (B c f : Nat) (m : pMem) (a n : Nat) : pMem := gP B c f m a (mI m 535 c).toNatClampNeg n
theorem gP_0 {B c f a p : Nat} {m : pMem} (h : mI m 535 c = nI p) : gP B c f m a p 0 = m := by
  refine mem_ext (fun x y => ?_) (fun x y => ?_) (fun x y => ?_)
  · unfold gP
    rw [mI_uI]
    by_cases e : x = 535 ∧ y = c
    · rw [if_pos e, e.1, e.2, h]; rfl
    · rw [if_neg e]
      by_cases hf : mI m 535 f = 0
      · rw [if_pos hf, mI_uC, if_neg (by omega)]
      · rw [if_neg hf, mI_uC, if_neg (by omega)]
  · unfold gP
    rw [mL_uI]
    by_cases hf : mI m 535 f = 0
    · rw [if_pos hf]; rfl
    · rw [if_neg hf]; rfl
  · unfold gP
    rw [mR_uI]
    by_cases hf : mI m 535 f = 0
    · rw [if_pos hf]; rfl
    · rw [if_neg hf]; rfl
theorem gP_R {B c f a p t x y : Nat} {m : pMem} : mR (gP B c f m a p t) x y = mR m x y := by
  unfold gP
  rw [mR_uI]
  by_cases hf : mI m 535 f = 0
  · rw [if_pos hf]; rfl
  · rw [if_neg hf]; rfl
theorem gP_c {B c f a p t : Nat} {m : pMem} : mI (gP B c f m a p t) 535 c = nI (p + t) := by
  unfold gP
  rw [mI_uI, if_pos ⟨rfl, rfl⟩]
theorem gP_f {B c f a p t : Nat} {m : pMem} (hB : B ≠ 535) (ha : a ≠ 535) (hf : f ≠ c) : mI (gP B c f m a p t) 535 f = mI m 535 f := by
  unfold gP
  rw [mI_uI, if_neg (fun z => hf z.2)]
  by_cases h : mI m 535 f = 0
  · rw [if_pos h, mI_uC, if_neg (fun z => hB z.1.symm)]
  · rw [if_neg h, mI_uC, if_neg (fun z => ha z.1.symm)]
theorem gP_s {B c f a p t : Nat} {m : pMem} (hB : B ≠ 535) (ha : a ≠ 535) (hab : a ≠ B) (h : mI m 535 f = 0) :
    uI (uI (gP B c f m a p t) B (p + t) (mI (gP B c f m a p t) a t)) 535 c (nI (p + (t + 1))) = gP B c f m a p (t + 1) := by
  refine mem_ext (fun x y => ?_) (fun _ _ => by unfold gP; rw [if_pos h, if_pos h]; rfl) (fun _ _ => by unfold gP; rw [if_pos h, if_pos h]; rfl)
  unfold gP
  rw [if_pos h, if_pos h]
  simp only [mI_uI, mI_uC]
  by_cases e : x = 535 ∧ y = c
  · rw [if_pos e, if_pos e]
  · rw [if_neg e, if_neg e]
    by_cases e2 : x = B
    · subst e2
      by_cases e3 : y = p + t
      · subst e3
        rw [if_pos (show x = x ∧ p + t = p + t from ⟨rfl, rfl⟩), if_neg (show ¬ (a = 535 ∧ t = c) from fun z => ha z.1), if_neg (show ¬ (a = x ∧ p ≤ t ∧ t < p + t) from fun z => hab z.1), if_pos (show x = x ∧ p ≤ p + t ∧ p + t < p + (t + 1) from ⟨rfl, by omega, by omega⟩), if_neg e, show 0 + (p + t - p) = t by omega]
      · rw [if_neg (fun z => e3 z.2), if_neg e]
        by_cases e4 : p ≤ y ∧ y < p + t
        · rw [if_pos ⟨rfl, e4⟩, if_pos ⟨rfl, by omega, by omega⟩]
        · rw [if_neg (fun z => e4 z.2), if_neg (fun z => e4 (by omega))]
    · rw [if_neg (fun z => e2 z.1), if_neg e, if_neg (fun z => e2 z.1), if_neg (fun z => e2 z.1)]
theorem gP_b {B c f a p t : Nat} {m : pMem} (hB : B ≠ 535) (ha : a ≠ 535) (hab : a ≠ B) (h : ¬ mI m 535 f = 0) :
    uI (uI (gP B c f m a p t) a t (mI (gP B c f m a p t) B (p + t))) 535 c (nI (p + (t + 1))) = gP B c f m a p (t + 1) := by
  refine mem_ext (fun x y => ?_) (fun _ _ => by unfold gP; rw [if_neg h, if_neg h]; rfl) (fun _ _ => by unfold gP; rw [if_neg h, if_neg h]; rfl)
  unfold gP
  rw [if_neg h, if_neg h]
  simp only [mI_uI, mI_uC]
  by_cases e : x = 535 ∧ y = c
  · rw [if_pos e, if_pos e]
  · rw [if_neg e, if_neg e]
    by_cases e2 : x = a
    · subst e2
      by_cases e3 : y = t
      · subst e3
        rw [if_pos (show x = x ∧ y = y from ⟨rfl, rfl⟩), if_neg (show ¬ (B = 535 ∧ p + y = c) from fun z => hB z.1), if_neg (show ¬ (B = x ∧ 0 ≤ p + y ∧ p + y < 0 + y) from fun z => hab z.1.symm), if_pos (show x = x ∧ 0 ≤ y ∧ y < 0 + (y + 1) from ⟨rfl, by omega, by omega⟩), if_neg e, Nat.sub_zero]
      · rw [if_neg (fun z => e3 z.2), if_neg e]
        by_cases e4 : y < t
        · rw [if_pos ⟨rfl, by omega, by omega⟩, if_pos ⟨rfl, by omega, by omega⟩]
        · rw [if_neg (by omega), if_neg (by omega)]
    · rw [if_neg (fun z => e2 z.1), if_neg e, if_neg (fun z => e2 z.1), if_neg (fun z => e2 z.1)]
theorem uI_id {m : pMem} {a k : Nat} {v : Int32} (h : mI m a k = v) : uI m a k v = m := by
  refine mem_ext (fun x y => ?_) (fun _ _ => rfl) (fun _ _ => rfl)
  rw [mI_uI]
  by_cases e : x = a ∧ y = k
  · rw [if_pos e, e.1, e.2, h]
  · rw [if_neg e]
theorem arr_ne {a n : Nat} (c : SH[a]? = some (.inr (.int, n))) : a ≠ 535 := by
  intro e
  subst e
  rw [sh535] at c
  cases c
section S15
variable {X : pX} {Q : Option Value → pMem → Prop} {m : pMem}
theorem s_carryRow {a n : Nat} (hW : Wf m) (c1 : SH[a]? = some (.inr (.int, n))) (hp : a ≠ 570 ∧ ∃ p, mI m 535 54 = nI p ∧ p + n ≤ 2250) (h : Q none (gM 570 54 55 m a n)) : Cl X 0 mX12_carryRow [.ref 535, .ref a] m Q := by
  obtain ⟨ha, p, hp, hn⟩ := hp
  unfold gM at h
  rw [hp, nI_clamp (by omega)] at h
  have ha2 := arr_ne c1
  refine pCl_of (by decide +kernel) (Nat.le_of_ble_eq_true rfl) rfl (bX12_carryRow_0 hW c1 ?_)
  have key := upTo (P := fun t => Go X 0 mX12_carryRow Q 2 [(0, .ref 535), (1, .ref a), (2, .int (nI t))] [] (gP 570 54 55 m a p t)) n ?_ ?_ 0 (Nat.zero_le _)
  · rw [gP_0 hp] at key
    exact key
  · have hW1 : Wf (gP 570 54 55 m a p n) := hW.sm (fun _ _ => gP_R)
    refine bX12_carryRow_2 hW1 c1 (fun _ => h) ?_ ?_ ?_ ?_ ?_ ?_ <;> exact fun z => absurd (Int32.le_refl _) z
  · intro t ht ih
    have hW1 : Wf (gP 570 54 55 m a p t) := hW.sm (fun _ _ => gP_R)
    have ef : mI (gP 570 54 55 m a p t) 535 55 = mI m 535 55 := gP_f (by decide) ha2 (by decide)
    have ec : mI (gP 570 54 55 m a p t) 535 54 = nI (p + t) := gP_c
    have hlt : ¬ (Int32.ofNat n) ≤ nI t := nI_ge ht (by omega)
    have et : (nI t).toNatClampNeg = t := nI_clamp (by omega)
    have ept : (nI (p + t)).toNatClampNeg = p + t := nI_clamp (by omega)
    refine bX12_carryRow_2 hW1 c1 (fun z => absurd z hlt) (fun _ _ => vp_in_nI ht (by omega)) (fun _ _ => by rw [ec]; exact vp_in_nI (by omega) (by decide)) (fun _ z => ?_) (fun _ _ => by rw [ec]; exact vp_in_nI (by omega) (by decide)) (fun _ _ => vp_in_nI ht (by omega)) (fun _ z => ?_)
    · rw [ef] at z
      rw [ec, ept, et, nI_1, nI_1, Nat.add_assoc, gP_s (by decide) ha2 ha z]
      exact ih
    · rw [ef] at z
      rw [mI_uI, if_neg (fun q => ha2 q.1.symm), ec, ept, et, nI_1, nI_1, Nat.add_assoc, gP_b (by decide) ha2 ha z]
      exact ih
theorem s_movesRow {a n : Nat} (hW : Wf m) (c1 : SH[a]? = some (.inr (.int, n))) (hp : a ≠ 564 ∧ ∃ p, mI m 535 42 = nI p ∧ p + n ≤ 300) (h : Q none (gM 564 42 43 m a n)) : Cl X 1 mX12_movesRow [.ref 535, .ref a] m Q := by
  obtain ⟨ha, p, hp, hn⟩ := hp
  unfold gM at h
  rw [hp, nI_clamp (by omega)] at h
  have ha2 := arr_ne c1
  refine pCl_of (by decide +kernel) (Nat.le_of_ble_eq_true rfl) rfl (bX12_movesRow_0 hW c1 ?_)
  have key := upTo (P := fun t => Go X 1 mX12_movesRow Q 2 [(0, .ref 535), (1, .ref a), (2, .int (nI t))] [] (gP 564 42 43 m a p t)) n ?_ ?_ 0 (Nat.zero_le _)
  · rw [gP_0 hp] at key
    exact key
  · have hW1 : Wf (gP 564 42 43 m a p n) := hW.sm (fun _ _ => gP_R)
    refine bX12_movesRow_2 hW1 c1 (fun _ => h) ?_ ?_ <;> exact fun z => absurd (Int32.le_refl _) z
  · intro t ht ih
    have hW1 : Wf (gP 564 42 43 m a p t) := hW.sm (fun _ _ => gP_R)
    have ef : mI (gP 564 42 43 m a p t) 535 43 = mI m 535 43 := gP_f (by decide) ha2 (by decide)
    have ec : mI (gP 564 42 43 m a p t) 535 42 = nI (p + t) := gP_c
    have hlt : ¬ (Int32.ofNat n) ≤ nI t := nI_ge ht (by omega)
    have et : (nI t).toNatClampNeg = t := nI_clamp (by omega)
    have ept : (nI (p + t)).toNatClampNeg = p + t := nI_clamp (by omega)
    have vpt : vp_in (mI (gP 564 42 43 m a p t) 535 42) 300 := by rw [ec]; exact vp_in_nI (by omega) (by decide)
    refine bX12_movesRow_2 hW1 c1 (fun z => absurd z hlt) (fun _ => vp_in_nI ht (by omega)) (fun _ => ?_)
    have tl : ∀ v, (mI m 535 43 = 0 → v = mI (gP 564 42 43 m a p t) a t) → (¬ mI m 535 43 = 0 → v = mI (gP 564 42 43 m a p t) 564 (p + t)) → Go X 0 mX12_moves (fun v m2 => Go X 1 mX12_movesRow Q 17 [(0, .ref 535), (1, .ref a), (2, .int (nI t))] (v.toList ++ [.int (nI t), .ref a]) m2) 20 [(0, .ref 535)] [.int v] (gP 564 42 43 m a p t) := by
      intro v v1 v2
      refine bX12_moves_20 hW1 vpt ?_
      refine bX12_movesRow_17 (m := uI (uI (gP 564 42 43 m a p t) 564 ((mI (gP 564 42 43 m a p t) 535 42).toNatClampNeg) v) 535 42 ((mI (gP 564 42 43 m a p t) 535 42) + (1 : Int32))) hW1 c1 c1 (vp_in_nI ht (by omega)) ?_
      rw [ec, ept, et, nI_1, nI_1, Nat.add_assoc]
      have e : uI (uI (uI (gP 564 42 43 m a p t) 564 (p + t) v) 535 42 (nI (p + (t + 1)))) a t v = gP 564 42 43 m a p (t + 1) := by
        by_cases hf : mI m 535 43 = 0
        · rw [v1 hf, gP_s (by decide) ha2 ha hf]
          refine uI_id ?_
          unfold gP
          rw [if_pos hf, if_pos hf]
          simp only [mI_uI, mI_uC]
          rw [if_neg (fun z => ha2 z.1), if_neg (fun z => ha z.1), if_neg (fun z => ha2 z.1), if_neg (fun z => ha z.1)]
        · rw [v2 hf]
          have e2 : uI (gP 564 42 43 m a p t) 564 (p + t) (mI (gP 564 42 43 m a p t) 564 (p + t)) = gP 564 42 43 m a p t := uI_id rfl
          rw [e2, ← gP_b (by decide) ha2 ha hf]
          refine mem_ext (fun x y => ?_) (fun _ _ => rfl) (fun _ _ => rfl)
          simp only [mI_uI]
          by_cases q1 : x = a ∧ y = t
          · rw [if_pos q1, if_neg (fun z => ha2 (q1.1.symm.trans z.1)), if_pos q1]
          · rw [if_neg q1, if_neg q1]
      rw [e]
      exact ih
    refine pCl_of (by decide +kernel) (Nat.le_of_ble_eq_true rfl) rfl (bX12_moves_0 hW1 (fun z => ?_) (fun _ => vpt) (fun z => ?_))
    · rw [ef] at z
      rw [et]
      exact tl _ (fun _ => rfl) (fun y => absurd z y)
    · rw [ef] at z
      rw [ec, ept]
      exact tl _ (fun y => absurd y z) (fun _ => rfl)
theorem s_copies {a b n : Nat} (hW : Wf m) (c0 : SH[a]? = some (.inr (.int, n))) (c1 : SH[b]? = some (.inr (.int, n))) (hab : a ≠ b) (hn : n < 2 ^ 31) (h : Q none (uC m a 0 b 0 n)) : Cl X 0 mX12_copies [.ref a, .ref b] m Q := by
  refine pCl_of (by decide +kernel) (Nat.le_of_ble_eq_true rfl) rfl (bX12_copies_0 hW c0 c1 ?_)
  have key := upTo (P := fun t => Go X 0 mX12_copies Q 2 [(0, .ref a), (1, .ref b), (2, .int (nI t))] [] (uC m a 0 b 0 t)) n ?_ ?_ 0 (Nat.zero_le _)
  · rw [uC_0] at key
    exact key
  · refine bX12_copies_2 (m := uC m a 0 b 0 n) hW c0 c1 (fun _ => h) ?_ ?_ ?_ <;> exact fun z => absurd (Int32.le_refl _) z
  · intro t ht ih
    refine bX12_copies_2 (m := uC m a 0 b 0 t) hW c0 c1 (fun z => absurd z (nI_ge ht hn)) (fun _ => vp_in_nI ht hn) (fun _ => vp_in_nI ht hn) (fun _ => ?_)
    rw [nI_1, nI_clamp (by omega), uC_succ _ _ _ _ hab]
    exact ih
end S15
