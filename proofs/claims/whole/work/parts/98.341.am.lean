section T41b
variable {X : pX} {Q : Option Value → pMem → Prop} {m : pMem} {B : Nat → Nat} {L p f : Nat}
theorem s_amount {lo hi : Nat} {x y : Int32} (h : MS B L p 0 m) (hp : p ≤ L) (hx : x = nI lo) (hy : y = nI hi - (1 : Int32)) (hlo : lo < 1000000) (hhi : hi < 1000000)
    (k1 : ∀ v q, numF B L (sk B L p) lo hi = .inr (v, q) → lo ≤ v → v < hi → sk B L p ≤ q → q ≤ L → ∀ m2, MS B L q 0 m2 → Mk m m2 → Q (some (.int (nI v))) m2) (k0 : ∀ f, numF B L (sk B L p) lo hi = .inl f → 0 < f → ∀ m2 q v, MS B L q f m2 → q ≤ L → Mk m m2 → Q (some (.int v)) m2) : Cl X 3 mX12_amount [.ref 535, .int x, .int y] m Q := by
  subst hx hy
  refine pCl_of (by decide +kernel) (Nat.le_of_ble_eq_true rfl) rfl (bX12_amount_0 h.1 (s_blanks h (fun m2 h2 t2 => bX12_amount_4 h2.1 (fun z => absurd h2.2.2.2.1 z) (fun _ => ?_))))
  have hs := sk_b (B := B) hp
  have hL := h.2.1.1
  generalize hS : sk B L p = s at *
  have nb := nd_b (B := B) hs.2
  refine s_digits h2 (fun _ => hs.2) (fun m3 v h3 t3 hv => bX12_amount_22 h3.1 ?_)
  rw [if_pos rfl] at h3
  have h33 := h3.2.2.2.1
  by_cases c1 : nd B L s = s
  · have e : dgF B L s = 1 + 8 * s := by unfold dgF; rw [if_pos c1]
    rw [e] at h3 h33
    refine bX12_amount_26v1 h3.1 (fun _ => k0 _ (by unfold numF; rw [if_pos c1]) (by omega) m3 _ v h3 nb.2 (t2.tr t3)) (fun z => ?_) (fun z => ?_) <;>
    · rw [h33] at z
      exact absurd z (nI_ne0 (by omega) (by omega))
  · have hv := hv c1
    have hvl := nv_lt (B := B) (L := L) (p := s)
    by_cases c2 : 5 < nd B L s - s
    · have e : dgF B L s = 2 + 8 * s := by unfold dgF; rw [if_neg c1, if_pos c2]
      rw [e] at h3 h33
      refine bX12_amount_26v1 h3.1 (fun _ => k0 _ (by unfold numF; rw [if_neg c1, if_pos (Or.inl c2)]) (by omega) m3 _ v h3 nb.2 (t2.tr t3)) (fun z => ?_) (fun z => ?_) <;>
      · rw [h33] at z
        exact absurd z (nI_ne0 (by omega) (by omega))
    · have e : dgF B L s = 0 := by unfold dgF; rw [if_neg c1, if_neg c2]
      rw [e] at h3 h33
      subst hv
      refine bX12_amount_26v1 h3.1 (fun z => absurd h33 z) (fun _ z => ?_) (fun _ z => ?_)
      · have z1 : ¬ nv B L s < lo := fun w => z.1 (nI_lt w (by omega))
        have z2 := (nI_lePred (by omega) (by omega)).mp (Int32.not_lt.mp z.2)
        exact k1 _ _ (by unfold numF; rw [if_neg c1, if_neg (by omega)]) (by omega) z2 nb.1 nb.2 m3 h3 (t2.tr t3)
      · have hb : nv B L s < lo ∨ hi ≤ nv B L s := by
          refine Classical.byContradiction fun w => z ⟨nI_nlt (by omega) (by omega), Int32.not_lt.mpr ((nI_lePred (by omega) (by omega)).mpr (by omega))⟩
        rw [h2.2.2.1]
        refine s_fails (k := 1) h3 (fun _ => by omega) (by decide) (fun m4 h4 t4 => bX12_amount_54 h4.1 (k0 (2 + 8 * s) (by unfold numF; rw [if_neg c1, if_pos (Or.inr hb)]) (by omega) m4 _ _ ?_ nb.2 (t2.tr (t3.tr t4))))
        rw [if_pos rfl] at h4
        rw [show 2 + 8 * s = 1 + 8 * s + 1 by omega]
        exact h4
theorem s_amountD {x y : Int32} (h : MS B L p f m) (hf : f ≠ 0) (k : ∀ m2, MS B L (sk B L p) f m2 → Mk m m2 → Q (some (.int 0)) m2) : Cl X 3 mX12_amount [.ref 535, .int x, .int y] m Q := by
  refine pCl_of (by decide +kernel) (Nat.le_of_ble_eq_true rfl) rfl (bX12_amount_0 h.1 (s_blanks h (fun m2 h2 t2 => ?_)))
  have e : ¬ mI m2 535 21 = 0 := by rw [h2.2.2.2.1]; exact nI_ne0 (by omega) (by have := h2.2.2.2.2.2; omega)
  exact bX12_amount_4 h2.1 (fun _ => bX12_amount_26 h2.1 (fun _ => k m2 h2 t2) (fun z => absurd z e) (fun z => absurd z e)) (fun z => absurd z e)
end T41b
