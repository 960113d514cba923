/-! ===== behind both makers ===== -/
def mF : pMem := m12 m11
def okN (f : Nat → Bool) : Nat → Bool
  | 0 => true
  | n + 1 => f n && okN f n
theorem okN_spec {f : Nat → Bool} : ∀ {n : Nat}, okN f n = true → ∀ a, a < n → f a = true
  | 0, _, _, ha => absurd ha (Nat.not_lt_zero _)
  | n + 1, h, a, ha => by
    have h' : (f n && okN f n) = true := h
    rw [Bool.and_eq_true] at h'
    by_cases e : a = n
    · subst e; exact h'.1
    · exact okN_spec h'.2 a (by omega)
theorem wf_of {P : Nat → Prop} [DecidablePred P] {ci : Nat} (h : okN (fun a => !(decide (SH[a]? = some (.inl ci))) || decide (P a)) 572 = true) : ∀ a, SH[a]? = some (.inl ci) → P a := fun a c => by
  have ha : a < 572 := by
    have := (List.getElem?_eq_some_iff.mp c).1
    rw [SH_len] at this
    exact this
  have h2 := okN_spec h a ha
  simp only [c, decide_true, Bool.not_true, Bool.false_or, decide_eq_true_eq] at h2
  exact h2
theorem mF_0 : Wf0 mF := by unfold Wf0; exact wf_of (by decide +kernel)
theorem mF_1 : Wf1 mF := by unfold Wf1; exact wf_of (by decide +kernel)
theorem mF_2 : Wf2 mF := by unfold Wf2; exact wf_of (by decide +kernel)
theorem mF_3 : Wf3 mF := by unfold Wf3; exact wf_of (by decide +kernel)
theorem mF_4 : Wf4 mF := by unfold Wf4; exact wf_of (by decide +kernel)
theorem mF_5 : Wf5 mF := by unfold Wf5; exact wf_of (by decide +kernel)
theorem mF_6 : Wf6 mF := by unfold Wf6; exact wf_of (by decide +kernel)
theorem mF_7 : Wf7 mF := by unfold Wf7; exact wf_of (by decide +kernel)
theorem mF_8 : Wf8 mF := by unfold Wf8; exact wf_of (by decide +kernel)
theorem mF_9 : Wf9 mF := by unfold Wf9; exact wf_of (by decide +kernel)
theorem mF_10 : Wf10 mF := by unfold Wf10; exact wf_of (by decide +kernel)
theorem mF_11 : Wf11 mF := by unfold Wf11; exact wf_of (by decide +kernel)
theorem mF_R : WfR mF := by
  unfold WfR
  exact ⟨by decide +kernel, wf_of (by decide +kernel), by decide +kernel, by decide +kernel, by decide +kernel⟩
