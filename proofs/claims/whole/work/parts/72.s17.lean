/-! ===== the model: an act is kept ===== -/
def shP (m : pMem) (t : Nat) : pMem := (fun x y => if x = 564 ∧ y < t then m.1 564 (y + 15) else m.1 x y, m.2.1, m.2.2)
theorem mI_shP (m : pMem) (t x y : Nat) : mI (shP m t) x y = if x = 564 ∧ y < t then mI m 564 (y + 15) else mI m x y := rfl
theorem shP_0 (m : pMem) : shP m 0 = m := by
  refine mem_ext (fun x y => ?_) (fun _ _ => rfl) (fun _ _ => rfl)
  rw [mI_shP, if_neg (by omega)]
theorem shP_s (m : pMem) (t : Nat) : uI (shP m t) 564 t (mI (shP m t) 564 (t + 15)) = shP m (t + 1) := by
  refine mem_ext (fun x y => ?_) (fun _ _ => rfl) (fun _ _ => rfl)
  rw [mI_uI, mI_shP, mI_shP, mI_shP, if_neg (show ¬ (564 = 564 ∧ t + 15 < t) by omega)]
  by_cases e : x = 564
  · subst e
    by_cases e2 : y = t
    · subst e2
      rw [if_pos ⟨rfl, rfl⟩, if_pos ⟨rfl, by omega⟩]
    · rw [if_neg (fun z => e2 z.2)]
      by_cases e3 : y < t
      · rw [if_pos ⟨rfl, e3⟩, if_pos ⟨rfl, by omega⟩]
      · rw [if_neg (fun z => e3 z.2), if_neg (by omega)]
  · rw [if_neg (fun z => e z.1), if_neg (fun z => e z.1), if_neg (fun z => e z.1)]
/-- what an act leaves of the past -/
def Kept (m : pMem) (M : Nat) (m2 : pMem) : Prop :=
  (∀ x y, x ≠ 564 → ¬ (x = 535 ∧ (y = 41 ∨ y = 42 ∨ y = 43)) → mI m2 x y = mI m x y) ∧ (∀ x y, mR m2 x y = mR m x y)
  ∧ ((M < 20 ∧ mI m2 535 41 = nI (M + 1) ∧ ∀ i j, i ≤ M → j < 15 → mI m2 564 (15 * i + j) = if i = M then pst m j else mI m 564 (15 * i + j))
    ∨ (M = 20 ∧ mI m2 535 41 = nI 20 ∧ ∀ i j, i < 20 → j < 15 → mI m2 564 (15 * i + j) = if i = 19 then pst m j else mI m 564 (15 * (i + 1) + j)))
section S18
variable {X : pX} {Q : Option Value → pMem → Prop} {m : pMem}
theorem s_keepsAct {M : Nat} (hW : Wf m) (hM : mI m 535 41 = nI M) (h20 : M ≤ 20) (h : ∀ m2, Kept m M m2 → Q none m2) : Cl X 3 mX12_keepsAct [.ref 535] m Q := by
  refine pCl_of (by decide +kernel) (Nat.le_of_ble_eq_true rfl) rfl (bX12_keepsAct_0 hW (fun z => ?_) (fun z => ?_))
  · rw [hM] at z ⊢
    have hlt : M < 20 := by
      have : M ≠ 20 := fun e => z (by rw [e]; rfl)
      omega
    refine s_moveSave hW hlt (fun m1 h1 => ?_)
    obtain ⟨a1, a2, a3, a4, a5⟩ := h1
    have e41 : mI m1 535 41 = nI M := (a3 535 41 (by decide) (by omega)).trans hM
    refine bX12_keepsAct_59 (hW.sm a5) (h _ ⟨fun x y z1 z2 => ?_, fun x y => a5 x y, Or.inl ⟨hlt, ?_, fun i j hi hj => ?_⟩⟩)
    · rw [mI_uI, if_neg (fun q => z2 ⟨q.1, Or.inl q.2⟩)]
      exact a3 x y z1 (fun q => z2 ⟨q.1, by omega⟩)
    · rw [mI_uI, if_pos ⟨rfl, rfl⟩, e41, nI_1]
    · rw [mI_uI, if_neg (by omega), a4]
      by_cases e : i = M
      · rw [if_pos e, if_pos (by omega), e]
        congr 1
        omega
      · rw [if_neg e, if_neg (by omega)]
  · have e20 : M = 20 := by rw [hM] at z; exact (nI_eq (a := M) (b := 20) (by omega) (by decide)).mp z
    subst e20
    have key := upTo (P := fun t => Go X 3 mX12_keepsAct Q 12 [(0, .ref 535), (1, .int (nI (15 + t)))] [] (shP m t)) 285 ?_ ?_ 0 (by decide)
    · rw [shP_0] at key
      exact key
    · have e41 : mI (shP m 285) 535 41 = nI 20 := by rw [mI_shP, if_neg (by omega)]; exact hM
      refine bX12_keepsAct_12 (m := shP m 285) hW (fun _ => ?_) (fun z => absurd (by decide) z) (fun z => absurd (by decide) z) (fun z => absurd (by decide) z)
      have e19 : mI (shP m 285) 535 41 - (1 : Int32) = nI 19 := by rw [e41]; rfl
      rw [e19]
      refine s_moveSave (m := uI (shP m 285) 535 41 (nI 19)) hW (k := 19) (by decide) (fun m1 h1 => ?_)
      obtain ⟨a1, a2, a3, a4, a5⟩ := h1
      have e41' : mI m1 535 41 = nI 19 := (a3 535 41 (by decide) (by omega)).trans (by rw [mI_uI, if_pos ⟨rfl, rfl⟩])
      refine bX12_keepsAct_59v1 (hW.sm a5) (h _ ⟨fun x y z1 z2 => ?_, fun x y => a5 x y, Or.inr ⟨rfl, ?_, fun i j hi hj => ?_⟩⟩)
      · rw [mI_uI, if_neg (fun q => z2 ⟨q.1, Or.inl q.2⟩), a3 x y z1 (fun q => z2 ⟨q.1, by omega⟩), mI_uI, if_neg (fun q => z2 ⟨q.1, Or.inl q.2⟩), mI_shP, if_neg (fun q => z1 q.1)]
      · rw [mI_uI, if_pos ⟨rfl, rfl⟩, e41', nI_1]
      · rw [mI_uI, if_neg (by omega), a4]
        by_cases e : i = 19
        · rw [if_pos (by omega), if_pos e]
          have ej : 15 * i + j - 15 * 19 = j := by omega
          rw [ej]
          unfold pst
          have hp := pN_p j hj
          rw [mI_uI, if_neg (fun q => hp.1 q.1), mI_shP, if_neg (fun q => hp.2 q.1)]
        · rw [if_neg (by omega), if_neg e, mI_uI, if_neg (by omega), mI_shP, if_pos ⟨rfl, by omega⟩]
          congr 1
          omega
    · intro t ht ih
      have e1 : nI (15 + t) - (15 : Int32) = nI t := by
        rw [← nI_add, show (15 : Int32) = nI 15 from rfl, Int32.add_comm, Int32.add_sub_cancel]
      refine bX12_keepsAct_12 (m := shP m t) hW (fun z => absurd z (nI_ge (a := 15 + t) (b := 300) (by omega) (by decide))) (fun _ => vp_in_nI (by omega) (by decide)) (fun _ => by rw [e1]; exact vp_in_nI (by omega) (by decide)) (fun _ => ?_)
      rw [e1, nI_1, nI_clamp (by omega), nI_clamp (by omega), Nat.add_comm 15 t, shP_s]
      have : nI (t + 15 + 1) = nI (15 + (t + 1)) := by congr 1; omega
      rw [this]
      exact ih
end S18
