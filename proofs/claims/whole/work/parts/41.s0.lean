/-! ===== contracts of leaves ===== -/
section S0
variable {X : pX} {Q : Option Value → pMem → Prop} {m : pMem}
theorem s_bitCount {x : Int32} (hW : Wf m) (hx : sm64 x) (h : Q (some (.int (pcI x))) m) : Cl X 0 mJ6_bitCount_0f7a4 [.int x] m Q := by
  obtain ⟨k, hk, rfl⟩ := hx
  refine pCl_of (by decide +kernel) (Nat.le_of_ble_eq_true rfl) rfl (bJ6_bitCount_0f7a4_0 hW ?_)
  refine (congrArg (fun z => Q (some (.int z)) m) ?_).mpr h
  clear h
  revert k hk
  decide +kernel
theorem s_fill {a n : Nat} {v : Int32} (hW : Wf m) (c : SH[a]? = some (.inr (.int, n))) (hn : n < 2 ^ 31) (h : Q none (uF m a n v)) : Cl X 0 mJ7_fill_53178 [.ref a, .int v] m Q := by
  refine pCl_of (by decide +kernel) (Nat.le_of_ble_eq_true rfl) rfl (bJ7_fill_53178_0 hW c ?_)
  have key := upTo (P := fun t => Go X 0 mJ7_fill_53178 Q 5 [(0, .ref a), (1, .int v), (2, .int (nI t)), (3, .int (nI n))] [] (uF m a t v)) n
    (bJ7_fill_53178_5 (m := uF m a n v) hW c (fun _ => h) (fun q => absurd (Int32.le_refl _) q) (fun q => absurd (Int32.le_refl _) q))
    (fun t ht ih => bJ7_fill_53178_5 (m := uF m a t v) hW c (fun q => absurd q (nI_ge ht hn)) (fun _ => vp_in_nI ht hn) (fun _ => by
      rw [nI_1, nI_clamp (by omega), uF_succ]; exact ih)) 0 (Nat.zero_le _)
  rw [uF_0] at key
  exact key
/-- Road -/
theorem s_isStage {a : Nat} {x : Int32} (hW : Wf m) (c : SH[a]? = some (.inl 4)) (h1 : (¬ x < 0 ∧ ¬ mI m a 2 ≤ x ∧ ¬ (8 : Int32) ≤ x) → Q (some (.int 1)) m) (h0 : ¬ (¬ x < 0 ∧ ¬ mI m a 2 ≤ x ∧ ¬ (8 : Int32) ≤ x) → Q (some (.int 0)) m) : Cl X 0 mX4_isStage [.ref a, .int x] m Q :=
  pCl_of (by decide +kernel) (Nat.le_of_ble_eq_true rfl) rfl (bX4_isStage_0 hW c (fun q => h0 (fun z => z.1 q)) (fun _ q => h0 (fun z => z.2.1 q)) (fun _ _ q => h0 (fun z => z.2.2 q)) (fun q1 q2 q3 => h1 ⟨q1, q2, q3⟩))
theorem s_isPerson {a : Nat} {x : Int32} (hW : Wf m) (c : SH[a]? = some (.inl 4)) (h1 : (¬ x < 0 ∧ ¬ mI m a 3 ≤ x ∧ ¬ (4 : Int32) ≤ x) → Q (some (.int 1)) m) (h0 : ¬ (¬ x < 0 ∧ ¬ mI m a 3 ≤ x ∧ ¬ (4 : Int32) ≤ x) → Q (some (.int 0)) m) : Cl X 0 mX4_isPerson [.ref a, .int x] m Q :=
  pCl_of (by decide +kernel) (Nat.le_of_ble_eq_true rfl) rfl (bX4_isPerson_0 hW c (fun q => h0 (fun z => z.1 q)) (fun _ q => h0 (fun z => z.2.1 q)) (fun _ _ q => h0 (fun z => z.2.2 q)) (fun q1 q2 q3 => h1 ⟨q1, q2, q3⟩))
theorem s_isThing {a : Nat} {x : Int32} (hW : Wf m) (c : SH[a]? = some (.inl 4)) (h1 : (¬ x < 0 ∧ ¬ mI m a 4 ≤ x ∧ ¬ (6 : Int32) ≤ x) → Q (some (.int 1)) m) (h0 : ¬ (¬ x < 0 ∧ ¬ mI m a 4 ≤ x ∧ ¬ (6 : Int32) ≤ x) → Q (some (.int 0)) m) : Cl X 0 mX4_isThing [.ref a, .int x] m Q :=
  pCl_of (by decide +kernel) (Nat.le_of_ble_eq_true rfl) rfl (bX4_isThing_0 hW c (fun q => h0 (fun z => z.1 q)) (fun _ q => h0 (fun z => z.2.1 q)) (fun _ _ q => h0 (fun z => z.2.2 q)) (fun q1 q2 q3 => h1 ⟨q1, q2, q3⟩))
theorem s_isPlace {a : Nat} {x : Int32} (hW : Wf m) (c : SH[a]? = some (.inl 4)) (h1 : (¬ x < 0 ∧ ¬ mI m a 2 < x) → Q (some (.int 1)) m) (h0 : ¬ (¬ x < 0 ∧ ¬ mI m a 2 < x) → Q (some (.int 0)) m) : Cl X 0 mX4_isPlace [.ref a, .int x] m Q :=
  pCl_of (by decide +kernel) (Nat.le_of_ble_eq_true rfl) rfl (bX4_isPlace_0 hW c (fun q => h0 (fun z => z.1 q)) (fun _ q => h0 (fun z => z.2 q)) (fun q1 q2 => h1 ⟨q1, q2⟩))
theorem s_allThings {a : Nat} (hW : Wf m) (c : SH[a]? = some (.inl 4)) (h : Q (some (.int (((1 : Int32) <<< (mI m a 4 &&& 31)) - 1))) m) : Cl X 0 mX4_allThings [.ref a] m Q :=
  pCl_of (by decide +kernel) (Nat.le_of_ble_eq_true rfl) rfl (bX4_allThings_0 hW c h)
theorem s_weightOf {a : Nat} {x : Int32} (hW : Wf m) (c : SH[a]? = some (.inl 4)) (h : Q (some (.int (wSum (mI m (a + 3)) x 6))) m) : Cl X 0 mX4_weightOf [.ref a, .int x] m Q := by
  refine pCl_of (by decide +kernel) (Nat.le_of_ble_eq_true rfl) rfl (bX4_weightOf_0 hW c ?_)
  refine upTo (P := fun t => Go X 0 mX4_weightOf Q 4 [(0, .ref a), (1, .int x), (2, .int (wSum (mI m (a + 3)) x t)), (3, .int (nI t))] [] m) 6
    (bX4_weightOf_4 hW c (fun _ => h) (fun q => absurd (by decide) q) (fun q => absurd (by decide) q) (fun q => absurd (by decide) q))
    (fun t ht ih => bX4_weightOf_4 hW c (fun q => absurd q (nI_ge ht (by decide))) (fun _ q => ?_) (fun _ _ => vp_in_nI ht (by decide)) (fun _ q => ?_)) 0 (by decide)
  · rw [nI_1]; simp only [wSum, if_neg q] at ih; exact ih
  · rw [nI_1, nI_clamp (by omega)]; simp only [wSum, if_pos q] at ih; exact ih
theorem s_worthOf {a : Nat} {x : Int32} (hW : Wf m) (c : SH[a]? = some (.inl 4)) (h : Q (some (.int (wSum (mI m (a + 4)) x 6))) m) : Cl X 0 mX4_worthOf [.ref a, .int x] m Q := by
  refine pCl_of (by decide +kernel) (Nat.le_of_ble_eq_true rfl) rfl (bX4_worthOf_0 hW c ?_)
  refine upTo (P := fun t => Go X 0 mX4_worthOf Q 4 [(0, .ref a), (1, .int x), (2, .int (wSum (mI m (a + 4)) x t)), (3, .int (nI t))] [] m) 6
    (bX4_worthOf_4 hW c (fun _ => h) (fun q => absurd (by decide) q) (fun q => absurd (by decide) q) (fun q => absurd (by decide) q))
    (fun t ht ih => bX4_worthOf_4 hW c (fun q => absurd q (nI_ge ht (by decide))) (fun _ q => ?_) (fun _ _ => vp_in_nI ht (by decide)) (fun _ q => ?_)) 0 (by decide)
  · rw [nI_1]; simp only [wSum, if_neg q] at ih; exact ih
  · rw [nI_1, nI_clamp (by omega)]; simp only [wSum, if_pos q] at ih; exact ih
/-- State -/
theorem s_thingsAt {a : Nat} {x : Int32} (hW : Wf m) (c : SH[a]? = some (.inl 8)) (h : Q (some (.int (tAt (mI m (a + 3)) x 6))) m) : Cl X 0 mX8_thingsAt [.ref a, .int x] m Q := by
  refine pCl_of (by decide +kernel) (Nat.le_of_ble_eq_true rfl) rfl (bX8_thingsAt_0 hW c ?_)
  refine upTo (P := fun t => Go X 0 mX8_thingsAt Q 4 [(0, .ref a), (1, .int x), (2, .int (tAt (mI m (a + 3)) x t)), (3, .int (nI t))] [] m) 6
    (bX8_thingsAt_4 hW c (fun _ => h) (fun q => absurd (by decide) q) (fun q => absurd (by decide) q) (fun q => absurd (by decide) q))
    (fun t ht ih => bX8_thingsAt_4 hW c (fun q => absurd q (nI_ge ht (by decide))) (fun _ => vp_in_nI ht (by decide)) (fun _ q => ?_) (fun _ q => ?_)) 0 (by decide)
  · rw [nI_clamp (by omega)] at q
    rw [nI_1]; simp only [tAt, if_neg q] at ih; exact ih
  · rw [nI_clamp (by omega)] at q
    rw [nI_1]; simp only [tAt, if_pos q] at ih; exact ih
end S0
