/-! ===== frames ===== -/
/-- nothing but what E says has changed among ints; references as they were -/
def Same (E : Nat → Nat → Prop) (m m2 : pMem) : Prop := (∀ a k, ¬ E a k → mI m2 a k = mI m a k) ∧ ∀ a k, mR m2 a k = mR m a k
theorem Same.rf {E : Nat → Nat → Prop} {m : pMem} : Same E m m := ⟨fun _ _ _ => rfl, fun _ _ => rfl⟩
theorem Same.tr {E : Nat → Nat → Prop} {m m2 m3 : pMem} (h : Same E m m2) (h2 : Same E m2 m3) : Same E m m3 := ⟨fun a k hk => (h2.1 a k hk).trans (h.1 a k hk), fun a k => (h2.2 a k).trans (h.2 a k)⟩
theorem Same.mo {E F : Nat → Nat → Prop} {m m2 : pMem} (h : Same E m m2) (hE : ∀ a k, E a k → F a k) : Same F m m2 := ⟨fun a k hk => h.1 a k (fun z => hk (hE a k z)), h.2⟩
theorem Same.uI {E : Nat → Nat → Prop} {m m2 : pMem} (h : Same E m m2) {a k : Nat} {v : Int32} (he : E a k) : Same E m (uI m2 a k v) := ⟨fun x y hk => by
    rw [mI_uI, if_neg (fun q => hk (by rw [q.1, q.2]; exact he))]; exact h.1 x y hk, h.2⟩
theorem Same.uL {E : Nat → Nat → Prop} {m m2 : pMem} (h : Same E m m2) {a k : Nat} {v : Int64} : Same E m (uL m2 a k v) := ⟨fun x y hk => h.1 x y hk, h.2⟩
theorem Wf.sm {m m2 : pMem} (hW : Wf m) (h : ∀ a k, mR m2 a k = mR m a k) : Wf m2 := by
  have e : m2.2.2 = m.2.2 := funext fun a => funext fun k => h a k
  have h1 : Wf (m2.1, m2.2.1, m2.2.2) := by
    rw [e]
    exact hW
  exact h1
/-- a whole row -/
def uRow (m : pMem) (a n : Nat) (f : Nat → Int32) : pMem := (fun x y => if x = a ∧ y < n then f y else m.1 x y, m.2.1, m.2.2)
theorem mI_uRow (m : pMem) (a n : Nat) (f : Nat → Int32) (x y : Nat) : mI (uRow m a n f) x y = if x = a ∧ y < n then f y else mI m x y := rfl
theorem Same.uRow {E : Nat → Nat → Prop} {m m2 : pMem} (h : Same E m m2) {a n : Nat} {f : Nat → Int32} (he : ∀ k, E a k) : Same E m (uRow m2 a n f) := ⟨fun x y hk => by
    rw [mI_uRow, if_neg (fun q => hk (by rw [q.1]; exact he y))]; exact h.1 x y hk, h.2⟩
/-! ===== a rule's row of steps ===== -/
def pushS (v : Int64) (s : List Int64) : List Int64 := if s.length < 64 then v :: s else s
/-- what a step of two does -/
def two (x : Int32) (a b : Int64) : Int64 :=
  if x = -21 then a + b else if x = -22 then a - b else if x = -23 then a * b else if x = -24 then (if b = 0 then 0 else a / b) else if x = -25 then (if b = 0 then 0 else a - a / b * b)
  else if x = -26 then (if a < b then 1 else 0) else if x = -27 then (if a ≤ b then 1 else 0) else if x = -28 then (if a = b then 1 else 0) else if x = -29 then (if b ≤ a then 1 else 0) else if x = -30 then (if b < a then 1 else 0)
  else if x = -31 then a &&& b else if x = -32 then a ||| b else 0
def stepC (w : Nat → Int32) (x : Int32) (s : List Int64) : Int64 ⊕ List Int64 :=
  if 0 ≤ x then .inr (pushS x.toInt64 s)
  else if -13 < x then .inr (pushS (w (-1 - x).toNatClampNeg).toInt64 s)
  else if x = -34 then .inl (s.headD 0)
  else if x = -35 then (if s.headD 0 ≠ 0 then .inl (s.tail.headD 0) else .inr s.tail.tail)
  else if x = -33 then .inr (pushS (if s.headD 0 = 0 then 1 else 0) s.tail)
  else .inr (pushS (two x (s.tail.headD 0) (s.headD 0)) s.tail.tail)
def runC (st w : Nat → Int32) : Nat → Nat → List Int64 → Int64
  | 0, _, _ => 0
  | r + 1, i, s => match stepC w (st i) s with
    | .inl v => v
    | .inr s2 => runC st w r (i + 1) s2
/-- the stack of a rule at r -/
def Stk (m : pMem) (r : Nat) (s : List Int64) : Prop := s.length ≤ 64 ∧ mI m r 3 = nI s.length ∧ ∀ j, j < s.length → mL m (r + 2) j = s.getD (s.length - 1 - j) 0
section S2a
variable {X : pX} {Q : Option Value → pMem → Prop} {m : pMem}
def Etop (r : Nat) : Nat → Nat → Prop := fun a k => a = r ∧ k = 3
theorem s_push {r : Nat} {v : Int64} {s : List Int64} (hW : Wf m) (c : SH[r]? = some (.inl 6)) (hs : Stk m r s) (h : ∀ m2, Stk m2 r (pushS v s) → Same (Etop r) m m2 → Q none m2) : Cl X 0 mX6_push [.ref r, .long v] m Q := by
  obtain ⟨h1, h2, h3⟩ := hs
  refine pCl_of (by decide +kernel) (Nat.le_of_ble_eq_true rfl) rfl (bX6_push_0 hW c (fun q => ?_) (fun q => ?_) (fun q => ?_))
  · rw [h2] at q
    have := nI_le' (a := 64) (by decide) (by omega) q
    refine h m ?_ Same.rf
    have e : pushS v s = s := if_neg (by omega)
    rw [e]; exact ⟨h1, h2, h3⟩
  · rw [h2] at q ⊢
    exact vp_in_nI (Nat.not_le.mp fun z => q (nI_le (a := 64) z (by omega))) (by decide)
  · rw [h2] at q
    have hl : s.length < 64 := Nat.not_le.mp fun z => q (nI_le (a := 64) z (by omega))
    refine h _ ?_ ((Same.rf.uL).uI ⟨rfl, rfl⟩)
    have e : pushS v s = v :: s := if_pos hl
    rw [e]
    refine ⟨by simp; omega, ?_, fun j hj => ?_⟩
    · rw [mI_uI, if_pos ⟨rfl, rfl⟩, h2, nI_1]; rfl
    · rw [mL_uI, mL_uL, h2, nI_clamp (by omega)]
      have hj : j < s.length + 1 := hj
      show (if r + 2 = r + 2 ∧ j = s.length then v else mL m (r + 2) j) = (v :: s).getD (s.length + 1 - 1 - j) 0
      by_cases hj2 : j = s.length
      · rw [if_pos ⟨rfl, hj2⟩, hj2]
        simp
      · rw [if_neg (fun z => hj2 z.2), h3 j (by omega), show s.length + 1 - 1 - j = (s.length - 1 - j) + 1 by omega]
        simp
theorem s_pop {r : Nat} {s : List Int64} (hW : Wf m) (c : SH[r]? = some (.inl 6)) (hs : Stk m r s) (h : ∀ m2, Stk m2 r s.tail → Same (Etop r) m m2 → Q (some (.long (s.headD 0))) m2) : Cl X 0 mX6_pop [.ref r] m Q := by
  obtain ⟨h1, h2, h3⟩ := hs
  refine pCl_of (by decide +kernel) (Nat.le_of_ble_eq_true rfl) rfl (bX6_pop_0 hW c (fun q => ?_) (fun q => ?_) (fun q => ?_))
  · rw [h2] at q
    have hl := nI_le' (a := 1) (by decide) (by omega) q
    rw [mI_uI, if_pos ⟨rfl, rfl⟩, h2]
    obtain ⟨k, hk⟩ : ∃ k, s.length = k + 1 := ⟨s.length - 1, by omega⟩
    rw [hk, nI_pred]
    exact vp_in_nI (by omega) (by decide)
  · rw [h2] at q
    have hl := nI_le' (a := 1) (by decide) (by omega) q
    obtain ⟨k, hk⟩ : ∃ k, s.length = k + 1 := ⟨s.length - 1, by omega⟩
    cases s with
    | nil => cases hk
    | cons v s =>
      have hk2 : s.length = k := by simpa using hk
      have e0 : mI m r 3 - (1 : Int32) = nI k := by rw [h2, hk, nI_pred]
      have e1 := h3 k (by omega)
      have key := h (uI m r 3 (nI k)) ⟨by show s.length ≤ 64; omega, by rw [mI_uI, if_pos ⟨rfl, rfl⟩]; show nI k = nI s.length; rw [hk2], fun j hj => by
        have hj1 : j < s.length := hj
        show mL m (r + 2) j = s.getD (s.length - 1 - j) 0
        rw [h3 j (by simp; omega), List.length_cons, show s.length + 1 - 1 - j = (s.length - 1 - j) + 1 by omega]
        simp⟩ (Same.rf.uI ⟨rfl, rfl⟩)
      rw [e0]
      rw [mI_uI, if_pos ⟨rfl, rfl⟩, nI_clamp (by omega), e1, List.length_cons, hk2, show k + 1 - 1 - k = 0 by omega]
      exact key
  · rw [h2] at q
    have hl : s.length = 0 := by
      have : ¬ 1 ≤ s.length := fun z => q (nI_le (a := 1) z (by omega))
      omega
    have hn : s = [] := List.eq_nil_of_length_eq_zero hl
    subst hn
    exact h m ⟨h1, h2, h3⟩ Same.rf
theorem s_ofTwo {x : Int32} {a b : Int64} (hW : Wf m) (h : Q (some (.long (two x a b))) m) : Cl X 0 mX6_ofTwo [.int x, .long a, .long b] m Q := by
  refine pCl_of (by decide +kernel) (Nat.le_of_ble_eq_true rfl) rfl (bX6_ofTwo_0 hW ?_ ?_ ?_ ?_ ?_ ?_ ?_ ?_ ?_ ?_ ?_ ?_ ?_ ?_ ?_ ?_ ?_ ?_ ?_ ?_ ?_ ?_)
  all_goals (intros)
  all_goals first
    | (subst_vars; simp_all [two, lg_cmp_le, lg_cmp_lt, lg_cmp_eq, lg_cmp_gt, lg_cmp_ge]; done)
    | skip
  all_goals (rename_i z; simp only [lg_cmp_le, lg_cmp_lt, lg_cmp_eq, lg_cmp_gt, lg_cmp_ge] at z; subst_vars; first | (have z2 := Int64.not_lt.mpr z; simp [two, z2] at h; exact h) | (have z2 := Int64.not_le.mpr z; simp [two, z2] at h; exact h))
end S2a
