/-! ===== roads: what a text tells ===== -/
/-- hands, stages, people, things; furlongs, paces, weights, worths, places of things -/
abbrev RS : Type := Nat × Nat × Nat × Nat × (Nat → Nat → Nat)
def stD (D : Nat → Nat → Nat) (i j v : Nat) : Nat → Nat → Nat := fun a b => if a = i ∧ b = j then v else D a b
def cnD (D : Nat → Nat → Nat) (q : Nat) : Nat → Nat
  | 0 => 0
  | n + 1 => cnD D q n + if D 4 n = q then 1 else 0
/-- so it lies from row o on -/
def RX (o : Nat) (s : RS) (m : pMem) : Prop := (mI m o 1 = nI s.1 ∧ mI m o 2 = nI s.2.1 ∧ mI m o 3 = nI s.2.2.1 ∧ mI m o 4 = nI s.2.2.2.1) ∧ (∀ j, j < s.2.1 → mI m (o + 1) j = nI (s.2.2.2.2 0 j)) ∧ (∀ j, j < s.2.2.1 → mI m (o + 2) j = nI (s.2.2.2.2 1 j))
  ∧ ∀ j, j < s.2.2.2.1 → mI m (o + 3) j = nI (s.2.2.2.2 2 j) ∧ mI m (o + 4) j = nI (s.2.2.2.2 3 j) ∧ mI m (o + 5) j = nI (s.2.2.2.2 4 j)
def RN (s : RS) (m : pMem) : Prop := ∀ j, s.2.2.2.1 ≤ j → j < 6 → mI m 9 j = -1
def RB (s : RS) : Prop := s.1 ≤ 4 ∧ s.2.1 ≤ 8 ∧ s.2.2.1 ≤ 4 ∧ s.2.2.2.1 ≤ 6 ∧ (∀ j, j < s.2.2.1 → 1 ≤ s.2.2.2.2 1 j ∧ s.2.2.2.2 1 j ≤ 20) ∧ ∀ j, j < s.2.2.2.1 → s.2.2.2.2 3 j ≤ 50 ∧ (s.2.2.2.2 4 j = 10 ∨ s.2.2.2.2 4 j < s.2.2.1)
theorem RX_c {o : Nat} {s : RS} {m m2 : pMem} (h : ∀ a k, o ≤ a → a ≤ o + 5 → mI m2 a k = mI m a k) (x : RX o s m) : RX o s m2 := by
  obtain ⟨⟨a1, a2, a3, a4⟩, b, c, d⟩ := x
  exact ⟨⟨(h _ _ (by omega) (by omega)).trans a1, (h _ _ (by omega) (by omega)).trans a2, (h _ _ (by omega) (by omega)).trans a3, (h _ _ (by omega) (by omega)).trans a4⟩, fun j hj => (h _ _ (by omega) (by omega)).trans (b j hj), fun j hj => (h _ _ (by omega) (by omega)).trans (c j hj), fun j hj => ⟨(h _ _ (by omega) (by omega)).trans (d j hj).1, (h _ _ (by omega) (by omega)).trans (d j hj).2.1, (h _ _ (by omega) (by omega)).trans (d j hj).2.2⟩⟩
theorem RX_h {o v : Nat} {s : RS} {m m2 : pMem} (h1 : mI m2 o 1 = nI v) (h0 : ∀ a k, o ≤ a → a ≤ o + 5 → ¬ (a = o ∧ k ≤ 1) → mI m2 a k = mI m a k) (x : RX o s m) : RX o (v, s.2) m2 := by
  obtain ⟨⟨a1, a2, a3, a4⟩, b, c, d⟩ := x
  exact ⟨⟨h1, (h0 _ _ (by omega) (by omega) (by omega)).trans a2, (h0 _ _ (by omega) (by omega) (by omega)).trans a3, (h0 _ _ (by omega) (by omega) (by omega)).trans a4⟩, fun j hj => (h0 _ _ (by omega) (by omega) (by omega)).trans (b j hj), fun j hj => (h0 _ _ (by omega) (by omega) (by omega)).trans (c j hj), fun j hj => ⟨(h0 _ _ (by omega) (by omega) (by omega)).trans (d j hj).1, (h0 _ _ (by omega) (by omega) (by omega)).trans (d j hj).2.1, (h0 _ _ (by omega) (by omega) (by omega)).trans (d j hj).2.2⟩⟩
theorem stD_ne {D : Nat → Nat → Nat} {i j v a b : Nat} (h : ¬ (a = i ∧ b = j)) : stD D i j v a b = D a b := if_neg h
theorem stD_eq {D : Nat → Nat → Nat} {i j v : Nat} : stD D i j v i j = v := if_pos ⟨rfl, rfl⟩
theorem RX_s {o v : Nat} {s : RS} {m m2 : pMem} (h2 : mI m2 o 2 = nI (s.2.1 + 1)) (hv : mI m2 (o + 1) s.2.1 = nI v) (h0 : ∀ a k, o ≤ a → a ≤ o + 5 → ¬ (a = o ∧ k = 2) → ¬ (a = o + 1 ∧ k = s.2.1) → mI m2 a k = mI m a k) (x : RX o s m) : RX o (s.1, s.2.1 + 1, s.2.2.1, s.2.2.2.1, stD s.2.2.2.2 0 s.2.1 v) m2 := by
  obtain ⟨⟨a1, a2, a3, a4⟩, b, c, d⟩ := x
  refine ⟨⟨(h0 _ _ (by omega) (by omega) (by omega) (by omega)).trans a1, h2, (h0 _ _ (by omega) (by omega) (by omega) (by omega)).trans a3, (h0 _ _ (by omega) (by omega) (by omega) (by omega)).trans a4⟩, fun j hj => ?_, fun j hj => ?_, fun j hj => ?_⟩
  · show mI m2 (o + 1) j = nI (stD s.2.2.2.2 0 s.2.1 v 0 j)
    have hj : j < s.2.1 + 1 := hj
    by_cases e : j = s.2.1
    · subst e; rw [stD_eq]; exact hv
    · rw [stD_ne (by omega)]
      exact (h0 _ _ (by omega) (by omega) (by omega) (by omega)).trans (b j (by omega))
  · show mI m2 (o + 2) j = nI (stD s.2.2.2.2 0 s.2.1 v 1 j)
    rw [stD_ne (by omega)]
    exact (h0 _ _ (by omega) (by omega) (by omega) (by omega)).trans (c j hj)
  · show mI m2 (o + 3) j = nI (stD s.2.2.2.2 0 s.2.1 v 2 j) ∧ mI m2 (o + 4) j = nI (stD s.2.2.2.2 0 s.2.1 v 3 j) ∧ mI m2 (o + 5) j = nI (stD s.2.2.2.2 0 s.2.1 v 4 j)
    rw [stD_ne (by omega), stD_ne (by omega), stD_ne (by omega)]
    exact ⟨(h0 _ _ (by omega) (by omega) (by omega) (by omega)).trans (d j hj).1, (h0 _ _ (by omega) (by omega) (by omega) (by omega)).trans (d j hj).2.1, (h0 _ _ (by omega) (by omega) (by omega) (by omega)).trans (d j hj).2.2⟩
theorem RX_p {o v : Nat} {s : RS} {m m2 : pMem} (h2 : mI m2 o 3 = nI (s.2.2.1 + 1)) (hv : mI m2 (o + 2) s.2.2.1 = nI v) (h0 : ∀ a k, o ≤ a → a ≤ o + 5 → ¬ (a = o ∧ k = 3) → ¬ (a = o + 2 ∧ k = s.2.2.1) → mI m2 a k = mI m a k) (x : RX o s m) : RX o (s.1, s.2.1, s.2.2.1 + 1, s.2.2.2.1, stD s.2.2.2.2 1 s.2.2.1 v) m2 := by
  obtain ⟨⟨a1, a2, a3, a4⟩, b, c, d⟩ := x
  refine ⟨⟨(h0 _ _ (by omega) (by omega) (by omega) (by omega)).trans a1, (h0 _ _ (by omega) (by omega) (by omega) (by omega)).trans a2, h2, (h0 _ _ (by omega) (by omega) (by omega) (by omega)).trans a4⟩, fun j hj => ?_, fun j hj => ?_, fun j hj => ?_⟩
  · show mI m2 (o + 1) j = nI (stD s.2.2.2.2 1 s.2.2.1 v 0 j)
    rw [stD_ne (by omega)]
    exact (h0 _ _ (by omega) (by omega) (by omega) (by omega)).trans (b j hj)
  · show mI m2 (o + 2) j = nI (stD s.2.2.2.2 1 s.2.2.1 v 1 j)
    have hj : j < s.2.2.1 + 1 := hj
    by_cases e : j = s.2.2.1
    · subst e; rw [stD_eq]; exact hv
    · rw [stD_ne (by omega)]
      exact (h0 _ _ (by omega) (by omega) (by omega) (by omega)).trans (c j (by omega))
  · show mI m2 (o + 3) j = nI (stD s.2.2.2.2 1 s.2.2.1 v 2 j) ∧ mI m2 (o + 4) j = nI (stD s.2.2.2.2 1 s.2.2.1 v 3 j) ∧ mI m2 (o + 5) j = nI (stD s.2.2.2.2 1 s.2.2.1 v 4 j)
    rw [stD_ne (by omega), stD_ne (by omega), stD_ne (by omega)]
    exact ⟨(h0 _ _ (by omega) (by omega) (by omega) (by omega)).trans (d j hj).1, (h0 _ _ (by omega) (by omega) (by omega) (by omega)).trans (d j hj).2.1, (h0 _ _ (by omega) (by omega) (by omega) (by omega)).trans (d j hj).2.2⟩
theorem RX_t {o v w : Nat} {s : RS} {m m2 : pMem} (h2 : mI m2 o 4 = nI (s.2.2.2.1 + 1)) (hv : mI m2 (o + 3) s.2.2.2.1 = nI v) (hw : mI m2 (o + 4) s.2.2.2.1 = nI w) (hu : mI m2 (o + 5) s.2.2.2.1 = nI 10) (h0 : ∀ a k, o ≤ a → a ≤ o + 5 → ¬ (a = o ∧ k = 4) → ¬ (o + 3 ≤ a ∧ k = s.2.2.2.1) → mI m2 a k = mI m a k) (x : RX o s m) :
    RX o (s.1, s.2.1, s.2.2.1, s.2.2.2.1 + 1, stD (stD (stD s.2.2.2.2 2 s.2.2.2.1 v) 3 s.2.2.2.1 w) 4 s.2.2.2.1 10) m2 := by
  obtain ⟨⟨a1, a2, a3, a4⟩, b, c, d⟩ := x
  refine ⟨⟨(h0 _ _ (by omega) (by omega) (by omega) (by omega)).trans a1, (h0 _ _ (by omega) (by omega) (by omega) (by omega)).trans a2, (h0 _ _ (by omega) (by omega) (by omega) (by omega)).trans a3, h2⟩, fun j hj => ?_, fun j hj => ?_, fun j hj => ?_⟩
  · show mI m2 (o + 1) j = nI (stD (stD (stD s.2.2.2.2 2 s.2.2.2.1 v) 3 s.2.2.2.1 w) 4 s.2.2.2.1 10 0 j)
    rw [stD_ne (by omega), stD_ne (by omega), stD_ne (by omega)]
    exact (h0 _ _ (by omega) (by omega) (by omega) (by omega)).trans (b j hj)
  · show mI m2 (o + 2) j = nI (stD (stD (stD s.2.2.2.2 2 s.2.2.2.1 v) 3 s.2.2.2.1 w) 4 s.2.2.2.1 10 1 j)
    rw [stD_ne (by omega), stD_ne (by omega), stD_ne (by omega)]
    exact (h0 _ _ (by omega) (by omega) (by omega) (by omega)).trans (c j hj)
  · show mI m2 (o + 3) j = nI (stD (stD (stD s.2.2.2.2 2 s.2.2.2.1 v) 3 s.2.2.2.1 w) 4 s.2.2.2.1 10 2 j) ∧ mI m2 (o + 4) j = nI (stD (stD (stD s.2.2.2.2 2 s.2.2.2.1 v) 3 s.2.2.2.1 w) 4 s.2.2.2.1 10 3 j) ∧ mI m2 (o + 5) j = nI (stD (stD (stD s.2.2.2.2 2 s.2.2.2.1 v) 3 s.2.2.2.1 w) 4 s.2.2.2.1 10 4 j)
    have hj : j < s.2.2.2.1 + 1 := hj
    by_cases e : j = s.2.2.2.1
    · subst e
      rw [stD_ne (by omega), stD_ne (by omega), stD_eq, stD_ne (by omega), stD_eq, stD_eq]
      exact ⟨hv, hw, hu⟩
    · rw [stD_ne (by omega), stD_ne (by omega), stD_ne (by omega), stD_ne (by omega), stD_ne (by omega), stD_ne (by omega), stD_ne (by omega), stD_ne (by omega), stD_ne (by omega)]
      have d := d j (by omega)
      exact ⟨(h0 _ _ (by omega) (by omega) (by omega) (by omega)).trans d.1, (h0 _ _ (by omega) (by omega) (by omega) (by omega)).trans d.2.1, (h0 _ _ (by omega) (by omega) (by omega) (by omega)).trans d.2.2⟩
theorem RX_w {o t q : Nat} {s : RS} {m m2 : pMem} (hv : mI m2 (o + 5) t = nI q) (h0 : ∀ a k, o ≤ a → a ≤ o + 5 → ¬ (a = o + 5 ∧ k = t) → mI m2 a k = mI m a k) (x : RX o s m) : RX o (s.1, s.2.1, s.2.2.1, s.2.2.2.1, stD s.2.2.2.2 4 t q) m2 := by
  obtain ⟨⟨a1, a2, a3, a4⟩, b, c, d⟩ := x
  refine ⟨⟨(h0 _ _ (by omega) (by omega) (by omega)).trans a1, (h0 _ _ (by omega) (by omega) (by omega)).trans a2, (h0 _ _ (by omega) (by omega) (by omega)).trans a3, (h0 _ _ (by omega) (by omega) (by omega)).trans a4⟩, fun j hj => ?_, fun j hj => ?_, fun j hj => ?_⟩
  · show mI m2 (o + 1) j = nI (stD s.2.2.2.2 4 t q 0 j)
    rw [stD_ne (by omega)]
    exact (h0 _ _ (by omega) (by omega) (by omega)).trans (b j hj)
  · show mI m2 (o + 2) j = nI (stD s.2.2.2.2 4 t q 1 j)
    rw [stD_ne (by omega)]
    exact (h0 _ _ (by omega) (by omega) (by omega)).trans (c j hj)
  · show mI m2 (o + 3) j = nI (stD s.2.2.2.2 4 t q 2 j) ∧ mI m2 (o + 4) j = nI (stD s.2.2.2.2 4 t q 3 j) ∧ mI m2 (o + 5) j = nI (stD s.2.2.2.2 4 t q 4 j)
    have d := d j hj
    rw [stD_ne (by omega), stD_ne (by omega)]
    refine ⟨(h0 _ _ (by omega) (by omega) (by omega)).trans d.1, (h0 _ _ (by omega) (by omega) (by omega)).trans d.2.1, ?_⟩
    by_cases e : j = t
    · subst e; rw [stD_eq]; exact hv
    · rw [stD_ne (by omega)]; exact (h0 _ _ (by omega) (by omega) (by omega)).trans d.2.2
/-- a clause behind its word -/
def partF (B : Nat → Nat) (L k p : Nat) (s : RS) : Nat ⊕ (Nat × RS) := match k with
  | 0 => match numF B L (sk B L p) 0 5 with
    | .inl f => .inl f
    | .inr a => .inr (a.2, a.1, s.2)
  | 1 => match numF B L (sk B L p) 1 61 with
    | .inl f => .inl f
    | .inr a => .inr (a.2, s.1, s.2.1 + 1, s.2.2.1, s.2.2.2.1, stD s.2.2.2.2 0 s.2.1 a.1)
  | 2 => match numF B L (sk B L p) 1 21 with
    | .inl f => .inl f
    | .inr a => .inr (a.2, s.1, s.2.1, s.2.2.1 + 1, s.2.2.2.1, stD s.2.2.2.2 1 s.2.2.1 a.1)
  | 3 => match numF B L (sk B L p) 0 10 with
    | .inl f => .inl f
    | .inr a => match numF B L (sk B L a.2) 0 51 with
      | .inl f => .inl f
      | .inr b => .inr (b.2, s.1, s.2.1, s.2.2.1, s.2.2.2.1 + 1, stD (stD (stD s.2.2.2.2 2 s.2.2.2.1 a.1) 3 s.2.2.2.1 b.1) 4 s.2.2.2.1 10)
  | _ => match numF B L (sk B L p) 0 s.2.2.1 with
    | .inl f => .inl f
    | .inr a => if s.1 ≤ cnD s.2.2.2.2 a.1 s.2.2.2.1 then .inl (2 + 8 * sk B L p) else match numF B L (sk B L a.2) 0 s.2.2.2.1 with
      | .inl f => .inl f
      | .inr b => if ¬ s.2.2.2.2 4 b.1 = 10 then .inl (2 + 8 * sk B L a.2) else .inr (b.2, s.1, s.2.1, s.2.2.1, s.2.2.2.1, stD s.2.2.2.2 4 b.1 a.1)
def fullF (n k : Nat) (s : RS) : Prop := 40 ≤ n ∨ ¬ (k = 0 ↔ n = 0) ∨ (k = 1 ∧ 8 ≤ s.2.1) ∨ (k = 2 ∧ 4 ≤ s.2.2.1) ∨ (k = 3 ∧ 6 ≤ s.2.2.2.1)
def wlen (i n : Nat) : Nat := wst i (n + 1) - 1 - wst i n
noncomputable def clF (B : Nat → Nat) (L n p : Nat) (s : RS) : Nat ⊕ (Nat × RS) :=
  if wlF B L (sk B L p) 0 = 5 then .inl (1 + 8 * sk B L p) else @ite _ (fullF n (wlF B L (sk B L p) 0) s) (Classical.propDecidable _) (.inl (5 + 8 * sk B L p)) (partF B L (wlF B L (sk B L p) 0) (sk B L p + wlen 0 (wlF B L (sk B L p) 0)) s)
noncomputable def roadF (B : Nat → Nat) (L : Nat) : Nat → Nat → Nat → RS → Nat ⊕ RS
  | 0, _, _, _ => .inl 1
  | e + 1, n, p, s => match clF B L n p s with
    | .inl f => .inl f
    | .inr a => if L ≤ sk B L a.1 then .inr a.2 else if B (sk B L a.1) = 59 then roadF B L e (n + 1) (sk B L a.1 + 1) a.2 else .inl (1 + 8 * sk B L a.1)
theorem RB_s {s : RS} {v : Nat} (h : RB s) (h8 : s.2.1 < 8) : RB (s.1, s.2.1 + 1, s.2.2.1, s.2.2.2.1, stD s.2.2.2.2 0 s.2.1 v) := by
  obtain ⟨h1, h2, h3, h4, h5, h6⟩ := h
  refine ⟨h1, h8, h3, h4, fun j hj => ?_, fun j hj => ?_⟩
  · show 1 ≤ stD s.2.2.2.2 0 s.2.1 v 1 j ∧ stD s.2.2.2.2 0 s.2.1 v 1 j ≤ 20
    rw [stD_ne (by omega)]; exact h5 j hj
  · show stD s.2.2.2.2 0 s.2.1 v 3 j ≤ 50 ∧ (stD s.2.2.2.2 0 s.2.1 v 4 j = 10 ∨ stD s.2.2.2.2 0 s.2.1 v 4 j < s.2.2.1)
    rw [stD_ne (by omega), stD_ne (by omega)]; exact h6 j hj
theorem RB_p {s : RS} {v : Nat} (h : RB s) (h8 : s.2.2.1 < 4) (hv : 1 ≤ v ∧ v ≤ 20) : RB (s.1, s.2.1, s.2.2.1 + 1, s.2.2.2.1, stD s.2.2.2.2 1 s.2.2.1 v) := by
  obtain ⟨h1, h2, h3, h4, h5, h6⟩ := h
  refine ⟨h1, h2, h8, h4, fun j hj => ?_, fun j hj => ?_⟩
  · show 1 ≤ stD s.2.2.2.2 1 s.2.2.1 v 1 j ∧ stD s.2.2.2.2 1 s.2.2.1 v 1 j ≤ 20
    have hj : j < s.2.2.1 + 1 := hj
    by_cases e : j = s.2.2.1
    · subst e; rw [stD_eq]; exact hv
    · rw [stD_ne (by omega)]; exact h5 j (by omega)
  · show stD s.2.2.2.2 1 s.2.2.1 v 3 j ≤ 50 ∧ (stD s.2.2.2.2 1 s.2.2.1 v 4 j = 10 ∨ stD s.2.2.2.2 1 s.2.2.1 v 4 j < s.2.2.1 + 1)
    rw [stD_ne (by omega), stD_ne (by omega)]
    have := h6 j hj
    exact ⟨this.1, this.2.imp id (fun z => by omega)⟩
theorem RB_t {s : RS} {v w : Nat} (h : RB s) (h8 : s.2.2.2.1 < 6) (hw : w ≤ 50) : RB (s.1, s.2.1, s.2.2.1, s.2.2.2.1 + 1, stD (stD (stD s.2.2.2.2 2 s.2.2.2.1 v) 3 s.2.2.2.1 w) 4 s.2.2.2.1 10) := by
  obtain ⟨h1, h2, h3, h4, h5, h6⟩ := h
  refine ⟨h1, h2, h3, h8, fun j hj => ?_, fun j hj => ?_⟩
  · show 1 ≤ stD (stD (stD s.2.2.2.2 2 s.2.2.2.1 v) 3 s.2.2.2.1 w) 4 s.2.2.2.1 10 1 j ∧ stD (stD (stD s.2.2.2.2 2 s.2.2.2.1 v) 3 s.2.2.2.1 w) 4 s.2.2.2.1 10 1 j ≤ 20
    rw [stD_ne (by omega), stD_ne (by omega), stD_ne (by omega)]; exact h5 j hj
  · show stD (stD (stD s.2.2.2.2 2 s.2.2.2.1 v) 3 s.2.2.2.1 w) 4 s.2.2.2.1 10 3 j ≤ 50 ∧ (stD (stD (stD s.2.2.2.2 2 s.2.2.2.1 v) 3 s.2.2.2.1 w) 4 s.2.2.2.1 10 4 j = 10 ∨ stD (stD (stD s.2.2.2.2 2 s.2.2.2.1 v) 3 s.2.2.2.1 w) 4 s.2.2.2.1 10 4 j < s.2.2.1)
    have hj : j < s.2.2.2.1 + 1 := hj
    by_cases e : j = s.2.2.2.1
    · subst e
      rw [stD_ne (by omega), stD_eq, stD_eq]
      exact ⟨hw, Or.inl rfl⟩
    · rw [stD_ne (by omega), stD_ne (by omega), stD_ne (by omega), stD_ne (by omega), stD_ne (by omega), stD_ne (by omega)]
      exact h6 j (by omega)
theorem RB_w {s : RS} {t q : Nat} (h : RB s) (hq : q < s.2.2.1) : RB (s.1, s.2.1, s.2.2.1, s.2.2.2.1, stD s.2.2.2.2 4 t q) := by
  obtain ⟨h1, h2, h3, h4, h5, h6⟩ := h
  refine ⟨h1, h2, h3, h4, fun j hj => ?_, fun j hj => ?_⟩
  · show 1 ≤ stD s.2.2.2.2 4 t q 1 j ∧ stD s.2.2.2.2 4 t q 1 j ≤ 20
    rw [stD_ne (by omega)]; exact h5 j hj
  · show stD s.2.2.2.2 4 t q 3 j ≤ 50 ∧ (stD s.2.2.2.2 4 t q 4 j = 10 ∨ stD s.2.2.2.2 4 t q 4 j < s.2.2.1)
    have := h6 j hj
    rw [stD_ne (by omega)]
    refine ⟨this.1, ?_⟩
    by_cases e : j = t
    · subst e; rw [stD_eq]; exact Or.inr hq
    · rw [stD_ne (by omega)]; exact this.2
theorem num_b {B : Nat → Nat} {L p lo hi v q : Nat} (h : numF B L p lo hi = .inr (v, q)) : lo ≤ v ∧ v < hi := by
  unfold numF at h
  by_cases c1 : nd B L p = p
  · rw [if_pos c1] at h; cases h
  · rw [if_neg c1] at h
    by_cases c2 : 5 < nd B L p - p ∨ nv B L p < lo ∨ hi ≤ nv B L p
    · rw [if_pos c2] at h; cases h
    · rw [if_neg c2] at h
      cases h
      omega
/-- what a clause keeps -/
theorem part_RB {B : Nat → Nat} {L k p n q : Nat} {s s2 : RS} (h : RB s) (hf : ¬ fullF n k s) (e : partF B L k p s = .inr (q, s2)) : RB s2 := by
  have f8 : k = 1 → s.2.1 < 8 := fun z => Nat.lt_of_not_le fun w => hf (Or.inr (Or.inr (Or.inl ⟨z, w⟩)))
  have f4 : k = 2 → s.2.2.1 < 4 := fun z => Nat.lt_of_not_le fun w => hf (Or.inr (Or.inr (Or.inr (Or.inl ⟨z, w⟩))))
  have f6 : k = 3 → s.2.2.2.1 < 6 := fun z => Nat.lt_of_not_le fun w => hf (Or.inr (Or.inr (Or.inr (Or.inr ⟨z, w⟩))))
  match k, e, f8, f4, f6 with
  | 0, e, _, _, _ =>
    simp only [partF] at e
    cases c : numF B L (sk B L p) 0 5 with
    | inl f => rw [c] at e; cases e
    | inr a =>
      rw [c] at e
      cases e
      obtain ⟨v, q⟩ := a
      have := num_b c
      obtain ⟨h1, h2⟩ := h
      exact ⟨by show v ≤ 4; omega, h2⟩
  | 1, e, f8, _, _ =>
    simp only [partF] at e
    cases c : numF B L (sk B L p) 1 61 with
    | inl f => rw [c] at e; cases e
    | inr a => rw [c] at e; cases e; exact RB_s h (f8 rfl)
  | 2, e, _, f4, _ =>
    simp only [partF] at e
    cases c : numF B L (sk B L p) 1 21 with
    | inl f => rw [c] at e; cases e
    | inr a =>
      rw [c] at e
      cases e
      obtain ⟨v, q⟩ := a
      have := num_b c
      exact RB_p h (f4 rfl) (by omega)
  | 3, e, _, _, f6 =>
    simp only [partF] at e
    cases c : numF B L (sk B L p) 0 10 with
    | inl f => rw [c] at e; cases e
    | inr a =>
      rw [c] at e
      simp only at e
      cases c2 : numF B L (sk B L a.2) 0 51 with
      | inl f => rw [c2] at e; cases e
      | inr b =>
        rw [c2] at e
        cases e
        obtain ⟨v, q⟩ := b
        have := num_b c2
        exact RB_t h (f6 rfl) (by omega)
  | k + 4, e, _, _, _ =>
    simp only [partF] at e
    cases c : numF B L (sk B L p) 0 s.2.2.1 with
    | inl f => rw [c] at e; cases e
    | inr a =>
      rw [c] at e
      simp only at e
      by_cases c1 : s.1 ≤ cnD s.2.2.2.2 a.1 s.2.2.2.1
      · rw [if_pos c1] at e; cases e
      · rw [if_neg c1] at e
        cases c2 : numF B L (sk B L a.2) 0 s.2.2.2.1 with
        | inl f => rw [c2] at e; cases e
        | inr b =>
          rw [c2] at e
          simp only at e
          by_cases c3 : ¬ s.2.2.2.2 4 b.1 = 10
          · rw [if_pos c3] at e; cases e
          · rw [if_neg c3] at e
            cases e
            obtain ⟨v, q⟩ := a
            have := num_b c
            exact RB_w h (by show v < _; omega)
def wi (i n : Nat) : Nat := if i = 0 then ([17, 22, 7, 8, 11] : List Nat).getD n 11 else 7 + n
theorem wi_ok1 : ∀ i, i < 2 → ∀ n, n < wno i → wlen i n = lenJ (wi i n) ∧ 7 ≤ wi i n ∧ wi i n < 25 ∧ lenJ (wi i n) ≤ 6 := by decide +kernel
theorem wi_ok2 : ∀ i, i < 2 → ∀ n, n < wno i → ∀ j, j < 6 → ¬ (j < lenJ (wi i n) ∧ ¬ bytJ i (wst i n + j) = bytJ (wi i n) j) := by decide +kernel
theorem wi_ok (i : Nat) (hi : i < 2) (n : Nat) (hn : n < wno i) : wlen i n = lenJ (wi i n) ∧ 7 ≤ wi i n ∧ wi i n < 25 ∧ lenJ (wi i n) ≤ 6 ∧ ∀ j, j < 6 → j < lenJ (wi i n) → bytJ i (wst i n + j) = bytJ (wi i n) j :=
  ⟨(wi_ok1 i hi n hn).1, (wi_ok1 i hi n hn).2.1, (wi_ok1 i hi n hn).2.2.1, (wi_ok1 i hi n hn).2.2.2, fun j h1 h2 => Classical.byContradiction fun h3 => wi_ok2 i hi n hn j h1 ⟨h2, h3⟩⟩
theorem WL_iff {B : Nat → Nat} {L p i n : Nat} (hi : i < 2) (hn : n < wno i) : WL B L p i n ↔ WD B L p (lenJ (wi i n)) (bytJ (wi i n)) := by
  obtain ⟨h1, h2, h3, h4, h5⟩ := wi_ok i hi n hn
  have h1 : wst i (n + 1) - 1 - wst i n = lenJ (wi i n) := h1
  unfold WL
  rw [h1]
  exact WD_c (fun j hj => h5 j (by omega) hj)
