section S1
variable {X : pX} {Q : Option Value → pMem → Prop} {m : pMem}
theorem s_hadBy {a : Nat} {x : Int32} (hW : Wf m) (c : SH[a]? = some (.inl 8)) (h : Q (some (.int (tAt (mI m (a + 3)) x 6))) m) : Cl X 1 mX8_hadBy [.ref a, .int x] m Q :=
  pCl_of (by decide +kernel) (Nat.le_of_ble_eq_true rfl) rfl (bX8_hadBy_0 hW c h)
theorem s_manyOf {a : Nat} {x : Int32} (hW : Wf m) (c : SH[a]? = some (.inl 8)) (h : Q (some (.int (nI (cnt (mI m (a + 3)) x 6)))) m) : Cl X 1 mX8_manyOf [.ref a, .int x] m Q := by
  refine pCl_of (by decide +kernel) (Nat.le_of_ble_eq_true rfl) rfl (bX8_manyOf_0 hW c (tAt_sm _ _ 6 (Nat.le_refl 6)) ?_)
  rw [pcI_t _ _ 6 (Nat.le_refl 6)]
  exact h
theorem s_lyingBy {a : Nat} {x : Int32} (hW : Wf m) (c : SH[a]? = some (.inl 8)) (hx : vp_in x 4) (h : Q (some (.int (tAt (mI m (a + 3)) ((10 : Int32) + mI m (a + 1) x.toNatClampNeg) 6))) m) : Cl X 1 mX8_lyingBy [.ref a, .int x] m Q :=
  pCl_of (by decide +kernel) (Nat.le_of_ble_eq_true rfl) rfl (bX8_lyingBy_0 hW c hx h)
/-- the model's leaves -/
theorem s_in {x lo hi : Int32} {y0 y2 y4 : Int64} (hW : Wf m) (e0 : x.toInt64 = y0) (e2 : lo.toInt64 = y2) (e4 : hi.toInt64 = y4) (h1 : (¬ x < lo ∧ ¬ hi < x) → Q (some (.int 1)) m) (h0 : ¬ (¬ x < lo ∧ ¬ hi < x) → Q (some (.int 0)) m) : Cl X 0 mX12_in [.long y0, .long y2, .long y4] m Q := by
  subst e0; subst e2; subst e4
  have c1 : ∀ a b : Int32, lg_cmp a.toInt64 b.toInt64 < 0 ↔ a < b := fun a b => (lg_cmp_lt _ _).trans (fa_wide_lt a b)
  have c2 : ∀ a b : Int32, 0 < lg_cmp a.toInt64 b.toInt64 ↔ b < a := fun a b => (lg_cmp_gt _ _).trans (fa_wide_lt b a)
  refine pCl_of (by decide +kernel) (Nat.le_of_ble_eq_true rfl) rfl (bX12_in_0 hW (fun q => ?_) (fun _ q => ?_) (fun q1 q2 => ?_))
  · exact h0 (fun z => z.1 ((c1 _ _).mp q))
  · exact h0 (fun z => z.2 ((c2 _ _).mp q))
  · exact h1 ⟨fun z => q1 ((c1 _ _).mpr z), fun z => q2 ((c2 _ _).mpr z)⟩
theorem bitsM : ∀ k, k < 64 → ∀ t, t < 17 → True := fun _ _ _ _ => trivial
def bsum (x : Int32) : Nat → Int32
  | 0 => 0
  | n + 1 => bsum x n + ((x >>> (nI n &&& 31)) &&& (1 : Int32))
theorem bsum_ok : ∀ k, k < 64 → bsum (nI k) 16 = pcI (nI k) := by decide +kernel
theorem s_bits {x : Int32} (hW : Wf m) (hx : sm64 x) (h : Q (some (.int (pcI x))) m) : Cl X 0 mX12_bits [.int x] m Q := by
  obtain ⟨k, hk, rfl⟩ := hx
  rw [← bsum_ok k hk] at h
  refine pCl_of (by decide +kernel) (Nat.le_of_ble_eq_true rfl) rfl (bX12_bits_0 hW ?_)
  refine upTo (P := fun t => Go X 0 mX12_bits Q 4 [(0, .int (nI k)), (1, .int (bsum (nI k) t)), (2, .int (nI t))] [] m) 16
    (bX12_bits_4 hW (fun _ => h) (fun q => absurd (by decide) q))
    (fun t ht ih => bX12_bits_4 hW (fun q => absurd q (nI_ge ht (by decide))) (fun _ => by rw [nI_1]; exact ih)) 0 (by decide)
theorem s_has {x y : Int32} (hW : Wf m) (h1 : ((x >>> (y &&& 31)) &&& (1 : Int32)) = (1 : Int32) → Q (some (.int 1)) m) (h0 : ¬ ((x >>> (y &&& 31)) &&& (1 : Int32)) = (1 : Int32) → Q (some (.int 0)) m) : Cl X 0 mX12_has [.int x, .int y] m Q :=
  pCl_of (by decide +kernel) (Nat.le_of_ble_eq_true rfl) rfl (bX12_has_0 hW h0 h1)
theorem s_isRoad (hW : Wf m) (h1 : mI m 536 0 = (1 : Int32) → Q (some (.int 1)) m) (h0 : ¬ mI m 536 0 = (1 : Int32) → Q (some (.int 0)) m) : Cl X 0 mX12_isRoad [.ref 535] m Q :=
  pCl_of (by decide +kernel) (Nat.le_of_ble_eq_true rfl) rfl (bX12_isRoad_0 hW h0 h1)
theorem s_town (hW : Wf m) (h : Q (some (.int (mI m 536 2))) m) : Cl X 0 mX12_town [.ref 535] m Q :=
  pCl_of (by decide +kernel) (Nat.le_of_ble_eq_true rfl) rfl (bX12_town_0 hW h)
theorem s_truth {x : Int32} (hW : Wf m) (h : Q (some (.long (if x = 0 then 0 else 1))) m) : Cl X 0 mX12_truth [.int x] m Q := by
  refine pCl_of (by decide +kernel) (Nat.le_of_ble_eq_true rfl) rfl (bX12_truth_0 hW (fun q => ?_) (fun q => ?_))
  · rw [if_pos q] at h; exact h
  · rw [if_neg q] at h; exact h
theorem s_thingsOf {x : Int32} {T : Nat} (hW : Wf m) (hT : mI m 536 4 = nI T) (h6 : T ≤ 6) (h : Q (some (.int (tAt (mI m 539) x T))) m) : Cl X 0 mX12_thingsOf [.ref 535, .int x] m Q := by
  refine pCl_of (by decide +kernel) (Nat.le_of_ble_eq_true rfl) rfl (bX12_thingsOf_0 hW ?_)
  refine upTo (P := fun t => Go X 0 mX12_thingsOf Q 4 [(0, .ref 535), (1, .int x), (2, .int (tAt (mI m 539) x t)), (3, .int (nI t))] [] m) T
    (bX12_thingsOf_4 hW (fun _ => h) (fun q => absurd (by rw [hT]; exact Int32.le_refl _) q) (fun q => absurd (by rw [hT]; exact Int32.le_refl _) q) (fun q => absurd (by rw [hT]; exact Int32.le_refl _) q))
    (fun t ht ih => bX12_thingsOf_4 hW (fun q => absurd (by rw [hT] at q; exact q) (nI_ge ht (by omega))) (fun _ => vp_in_nI (by omega) (by decide)) (fun _ q => ?_) (fun _ q => ?_)) 0 (Nat.zero_le _)
  · rw [nI_clamp (by omega)] at q
    rw [nI_1, Int32.or_zero]; simp only [tAt, if_neg q] at ih; exact ih
  · rw [nI_clamp (by omega)] at q
    rw [nI_1]; simp only [tAt, if_pos q] at ih; exact ih
end S1
