/-! ===== days with a weight ===== -/
def dyF (fu : Row) (pc he : Int32) (a : Nat) : Nat → Int32
  | 0 => 0
  | k + 1 => dyF fu pc he a k + ((((fu (a + k)) + he) + pc) - (1 : Int32)) / pc
def dyI (fu : Row) (pc he f t : Int32) : Int32 := dyF fu pc he f.toNatClampNeg (t.toNatClampNeg - f.toNatClampNeg)
def dyOk (P3 : Int32) (pa : Row) (x f t : Int32) : Prop := (¬ x < 0 ∧ ¬ P3 ≤ x ∧ ¬ (4 : Int32) ≤ x) ∧ (1 : Int32) ≤ pa x.toNatClampNeg ∧ vp_in f 9 ∧ vp_in t 9
def dyOkM (pa : Row) (x f t : Int32) : Prop := vp_in x 4 ∧ ¬ pa x.toNatClampNeg = 0 ∧ vp_in f 9 ∧ vp_in t 9
section T20
variable {X : pX} {Q : Option Value → pMem → Prop} {m : pMem}
theorem s_daysFor {a0 : Nat} {x f t s : Int32} (hW : Wf m) (c : SH[a0]? = some (.inl 4)) (ok : dyOk (mI m a0 3) (mI m (a0 + 2)) x f t) (h : Q (some (.int (dyI (mI m (a0 + 1)) (mI m (a0 + 2) x.toNatClampNeg) (wSum (mI m (a0 + 3)) s 6) f t))) m) : Cl X 1 mX4_daysFor [.ref a0, .int x, .int f, .int t, .int s] m Q := by
  obtain ⟨o1, o2, o3, o4⟩ := ok
  obtain ⟨a, ha, rfl⟩ := vp_in_of o3 (by decide)
  obtain ⟨b, hb, rfl⟩ := vp_in_of o4 (by decide)
  have vx : vp_in x 4 := vp_in_cmp (N := 4) o1.1 o1.2.2 (by decide)
  unfold dyI at h
  rw [nI_clamp (show a < 2 ^ 31 by omega), nI_clamp (show b < 2 ^ 31 by omega)] at h
  refine pCl_of (by decide +kernel) (Nat.le_of_ble_eq_true rfl) rfl (bX4_daysFor_0 hW c (fun _ => vx) (fun _ _ => ?_) (fun _ z => absurd o2 z) (fun z => absurd o1 z))
  rw [if_neg (nI_pos (by omega))]
  refine upTo (P := fun k => Go X 1 mX4_daysFor Q 38 [(0, .ref a0), (1, .int x), (3, .int (nI b)), (5, .int (wSum (mI m (a0 + 3)) s 6)), (6, .int (dyF (mI m (a0 + 1)) (mI m (a0 + 2) x.toNatClampNeg) (wSum (mI m (a0 + 3)) s 6) a k)), (7, .int (nI (a + k)))] [] m) (b - a) ?_ ?_ 0 (Nat.zero_le _)
  · have hz : nI b ≤ nI (a + (b - a)) := nI_le (by omega) (by omega)
    exact bX4_daysFor_38 hW c (fun _ => h) (fun z => absurd hz z) (fun z => absurd hz z) (fun z => absurd hz z) (fun z => absurd hz z) (fun z => absurd hz z)
  · intro k hk ih
    refine bX4_daysFor_38 hW c (fun z => absurd z (nI_ge (by omega) (by omega))) (fun _ z => absurd z (nI_ge (a := a + k) (b := 8) (by omega) (by decide))) (fun _ _ => vp_in_nI (by omega) (by decide)) (fun _ _ => vx) (fun _ _ z => ?_) (fun _ _ => ?_)
    · rw [z] at o2; exact absurd o2 (by decide)
    · rw [nI_1, nI_clamp (by omega)]
      exact ih
theorem s_mDays {x f t he : Int32} (hW : Wf m) (ok : dyOkM (mI m 541) x f t) (h : Q (some (.int (dyI (mI m 540) (mI m 541 x.toNatClampNeg) he f t))) m) : Cl X 0 mX12_daysOf [.ref 535, .int x, .int f, .int t, .int he] m Q := by
  obtain ⟨o1, o2, o3, o4⟩ := ok
  obtain ⟨a, ha, rfl⟩ := vp_in_of o3 (by decide)
  obtain ⟨b, hb, rfl⟩ := vp_in_of o4 (by decide)
  unfold dyI at h
  rw [nI_clamp (show a < 2 ^ 31 by omega), nI_clamp (show b < 2 ^ 31 by omega)] at h
  refine pCl_of (by decide +kernel) (Nat.le_of_ble_eq_true rfl) rfl (bX12_daysOf_0 hW ?_)
  refine upTo (P := fun k => Go X 0 mX12_daysOf Q 6 [(0, .ref 535), (1, .int x), (3, .int (nI b)), (4, .int he), (5, .int (dyF (mI m 540) (mI m 541 x.toNatClampNeg) he a k)), (6, .int (nI (a + k)))] [] m) (b - a) ?_ ?_ 0 (Nat.zero_le _)
  · have hz : nI b ≤ nI (a + (b - a)) := nI_le (by omega) (by omega)
    exact bX12_daysOf_6 hW (fun _ => h) (fun z => absurd hz z) (fun z => absurd hz z) (fun z => absurd hz z) (fun z => absurd hz z)
  · intro k hk ih
    refine bX12_daysOf_6 hW (fun z => absurd z (nI_ge (by omega) (by omega))) (fun _ => vp_in_nI (by omega) (by decide)) (fun _ => o1) (fun _ => o2) (fun _ => ?_)
    rw [nI_1, nI_clamp (by omega)]
    exact ih
end T20
theorem dyF_ag {fu fu2 : Row} {pc he : Int32} {Sg a : Nat} (h : AgR Sg fu fu2) : ∀ k, a + k ≤ Sg → dyF fu pc he a k = dyF fu2 pc he a k
  | 0, _ => rfl
  | k + 1, hk => by unfold dyF; rw [dyF_ag h k (by omega), h (a + k) (by omega)]
theorem dyI_ag {fu fu2 : Row} {pc he : Int32} {Sg a b : Nat} (h : AgR Sg fu fu2) (hb : b ≤ Sg) (hS : Sg ≤ 8) (ha : a ≤ 8) : dyI fu pc he (nI a) (nI b) = dyI fu2 pc he (nI a) (nI b) := by
  unfold dyI
  rw [nI_clamp (by omega), nI_clamp (by omega)]
  by_cases e : a ≤ b
  · exact dyF_ag h _ (by omega)
  · rw [show b - a = 0 by omega]; rfl
/-- weights of a set of things that there are -/
theorem wS_ag {we we2 : Row} {T k : Nat} (h : AgR T we we2) (hT : T ≤ 6) (hk : k < 2 ^ T) : wSum we (nI k) 6 = wSum we2 (nI k) T := by
  have k64 : k < 64 := Nat.lt_of_lt_of_le hk (Nat.pow_le_pow_right (n := 2) (by decide) hT)
  have a1 : ∀ n, n ≤ T → wSum we (nI k) n = wSum we2 (nI k) n := by
    intro n
    induction n with
    | zero => intro _; rfl
    | succ n ih => intro hn; unfold wSum; rw [ih (by omega), h n (by omega)]
  have a2 : ∀ n, T ≤ n → n ≤ 6 → wSum we (nI k) n = wSum we (nI k) T := by
    intro n
    induction n with
    | zero => intro h1 _; rw [show T = 0 by omega]
    | succ n ih =>
      intro h1 h2
      by_cases e : T = n + 1
      · rw [e]
      · have hb : ¬ ((nI k >>> (nI n &&& 31)) &&& (1 : Int32)) = (1 : Int32) := by
          rw [bit_nI k k64 n (by omega)]
          have : k < 2 ^ n := Nat.lt_of_lt_of_le hk (Nat.pow_le_pow_right (n := 2) (by decide) (by omega))
          rw [Nat.div_eq_of_lt this]; decide
        have e1 : wSum we (nI k) (n + 1) = if ((nI k >>> (nI n &&& 31)) &&& (1 : Int32)) = (1 : Int32) then wSum we (nI k) n + we n else wSum we (nI k) n := rfl
        rw [e1, if_neg hb, ih (by omega) (by omega)]
  rw [a2 6 hT (Nat.le_refl 6), a1 T (Nat.le_refl T)]
/-- all things, as bits -/
theorem allT : ∀ T, T ≤ 6 → ((1 : Int32) <<< (nI T &&& 31)) - (1 : Int32) = nI (2 ^ T - 1) := by decide +kernel
theorem allT1 : ∀ T, T ≤ 6 → ((1 : Int32) <<< (nI T &&& 31)) = nI (2 ^ T) := by decide +kernel
theorem allTp : ∀ T, T ≤ 6 → 1 ≤ 2 ^ T ∧ 2 ^ T ≤ 64 := by decide +kernel
