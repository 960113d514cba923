/-! ===== the game, plainly: states are numbers of digits of three ===== -/
def dg (s k : Nat) : Nat := s / 3 ^ k % 3
theorem dg_lt (s k : Nat) : dg s k < 3 := Nat.mod_lt _ (by decide)
theorem lt6 {k : Nat} (h : k < 6) : k = 0 ∨ k = 1 ∨ k = 2 ∨ k = 3 ∨ k = 4 ∨ k = 5 := by omega
theorem dg_add {s k j w : Nat} (hk : k < 6) (hj : j < 6) (hw : w < 3) (h : dg s k = 0) : dg (s + w * 3 ^ k) j = if j = k then w else dg s j := by
  unfold dg at *
  rcases lt6 hk with rfl | rfl | rfl | rfl | rfl | rfl <;> rcases lt6 hj with rfl | rfl | rfl | rfl | rfl | rfl <;> simp only [Nat.reducePow] at * <;> first | (rw [if_pos trivial]; omega) | (rw [if_pos rfl]; omega) | (rw [if_neg (by decide)]; omega)
theorem dg_bd {s n i w : Nat} (hn : n ≤ 6) (hi : i < n) (hs : s < 3 ^ n) (hw : w < 3) (h : dg s i = 0) : s + w * 3 ^ i < 3 ^ n := by
  unfold dg at *
  have hn' : n = 1 ∨ n = 2 ∨ n = 3 ∨ n = 4 ∨ n = 5 ∨ n = 6 := by omega
  rcases lt6 (show i < 6 by omega) with rfl | rfl | rfl | rfl | rfl | rfl <;> rcases hn' with rfl | rfl | rfl | rfl | rfl | rfl <;> simp only [Nat.reducePow] at * <;> omega
theorem p3 : ∀ n, n ≤ 6 → 1 ≤ 3 ^ n ∧ 3 ^ n ≤ 729 := by decide +kernel
/-- the best of what may be done -/
def bsF (ok : Nat → Bool) (v : Nat → Int32) (w : Nat) (p0 : Int32) : Nat → Int32 × Int32
  | 0 => (p0, -1)
  | k + 1 => if ok k = true ∧ ((w = 1 ∧ (bsF ok v w p0 k).1 < v k) ∨ (¬ w = 1 ∧ v k < (bsF ok v w p0 k).1)) then (v k, nI k) else bsF ok v w p0 k
theorem bsF_c {ok : Nat → Bool} {v v2 : Nat → Int32} {w : Nat} {p0 : Int32} : ∀ t, (∀ k, k < t → ok k = true → v k = v2 k) → bsF ok v w p0 t = bsF ok v2 w p0 t
  | 0, _ => rfl
  | t + 1, h => by
    unfold bsF
    rw [bsF_c t (fun k hk => h k (by omega))]
    by_cases c : ok t = true
    · rw [h t (by omega) c]
    · rw [if_neg (fun z => c z.1), if_neg (fun z => c z.1)]
theorem bsF_no {ok : Nat → Bool} {v : Nat → Int32} {w : Nat} {p0 : Int32} {a : Nat} : ∀ t, a ≤ t → (∀ k, a ≤ k → k < t → ¬ ok k = true) → bsF ok v w p0 t = bsF ok v w p0 a
  | 0, h, _ => by rw [show a = 0 by omega]
  | t + 1, h, hn => by
    by_cases e : a = t + 1
    · rw [e]
    · have e1 : bsF ok v w p0 (t + 1) = if ok t = true ∧ ((w = 1 ∧ (bsF ok v w p0 t).1 < v t) ∨ (¬ w = 1 ∧ v t < (bsF ok v w p0 t).1)) then (v t, nI t) else bsF ok v w p0 t := rfl
      rw [e1, if_neg (fun z => hn t (by omega) (by omega) z.1)]
      exact bsF_no t (by omega) (fun k h1 h2 => hn k h1 (by omega))
/-- who lies there, who may have more, what it is worth at the end -/
abbrev GP : Type := (Nat → Bool) × (Nat → Nat → Bool) × (Nat → Int32)
def okG (g : GP) (s : Nat) : Nat → Bool := fun k => g.1 k && decide (dg s k = 0)
theorem okG_iff {g : GP} {s k : Nat} : okG g s k = true ↔ g.1 k = true ∧ dg s k = 0 := by unfold okG; simp
def bst (g : GP) (tb : Nat → Nat → Int32) (s w : Nat) (p0 : Int32) : Int32 × Int32 := if g.2.1 s w = true then bsF (okG g s) (fun k => tb (s + w * 3 ^ k) (2 * (2 - w))) w p0 6 else (p0, -1)
def gF (g : GP) : Nat → Nat → Nat → Int32
  | 0, _, _ => 0
  | n + 1, s, c => if c = 1 then (bst g (gF g n) s 1 (g.2.2 s)).1 else if c = 3 then (bst g (gF g n) s 2 (g.2.2 s)).1 else if c = 0 then (bst g (gF g n) s 1 (bst g (gF g n) s 2 (g.2.2 s)).1).1 else (bst g (gF g n) s 2 (bst g (gF g n) s 1 (g.2.2 s)).1).1
def frF (g : GP) (s : Nat) : Nat → Nat
  | 0 => 0
  | t + 1 => frF g s t + if okG g s t = true then 1 else 0
theorem frF_le (g : GP) (s : Nat) : ∀ t, frF g s t ≤ t
  | 0 => Nat.le_refl 0
  | t + 1 => by have := frF_le g s t; unfold frF; split <;> omega
theorem frF_lt {g : GP} {s k w : Nat} (hk : k < 6) (hw : w = 1 ∨ w = 2) (h : okG g s k = true) : frF g (s + w * 3 ^ k) 6 < frF g s 6 := by
  have h0 := (okG_iff.mp h)
  have key : ∀ t, t ≤ 6 → frF g (s + w * 3 ^ k) t + (if k < t then 1 else 0) = frF g s t := by
    intro t
    induction t with
    | zero => intro _; rfl
    | succ t ih =>
      intro ht
      have i1 := ih (by omega)
      have d := dg_add (j := t) (w := w) hk (by omega) (by omega) h0.2
      have e1 : frF g (s + w * 3 ^ k) (t + 1) = frF g (s + w * 3 ^ k) t + if okG g (s + w * 3 ^ k) t = true then 1 else 0 := rfl
      have e2 : frF g s (t + 1) = frF g s t + if okG g s t = true then 1 else 0 := rfl
      rw [e1, e2]
      by_cases e : t = k
      · subst e
        rw [if_pos rfl] at d
        have n1 : ¬ okG g (s + w * 3 ^ t) t = true := fun z => by have := (okG_iff.mp z).2; omega
        rw [if_neg n1, if_pos h, if_pos (by omega)]
        rw [if_neg (by omega)] at i1
        omega
      · rw [if_neg e] at d
        have n1 : okG g (s + w * 3 ^ k) t = true ↔ okG g s t = true := by rw [okG_iff, okG_iff, d]
        by_cases c : okG g s t = true
        · rw [if_pos c, if_pos (n1.mpr c)]
          by_cases c2 : k < t
          · rw [if_pos c2] at i1; rw [if_pos (by omega)]; omega
          · rw [if_neg c2] at i1; rw [if_neg (by omega)]; omega
        · rw [if_neg c, if_neg (fun z => c (n1.mp z))]
          by_cases c2 : k < t
          · rw [if_pos c2] at i1; rw [if_pos (by omega)]; omega
          · rw [if_neg c2] at i1; rw [if_neg (by omega)]; omega
  have := key 6 (Nat.le_refl 6)
  rw [if_pos hk] at this
  omega
theorem bst_c {g : GP} {tb tb2 : Nat → Nat → Int32} {s w : Nat} {p0 : Int32} (h : ∀ k, k < 6 → okG g s k = true → tb (s + w * 3 ^ k) (2 * (2 - w)) = tb2 (s + w * 3 ^ k) (2 * (2 - w))) : bst g tb s w p0 = bst g tb2 s w p0 := by
  unfold bst
  by_cases c : g.2.1 s w = true
  · rw [if_pos c, if_pos c]; exact bsF_c 6 h
  · rw [if_neg c, if_neg c]
theorem gF_st {g : GP} : ∀ n m s c, frF g s 6 < n → frF g s 6 < m → gF g n s c = gF g m s c := by
  intro n
  induction n with
  | zero => intro m s c h _; omega
  | succ n ih =>
    intro m s c h1 h2
    cases m with
    | zero => omega
    | succ m =>
      have e : ∀ w p0, (w = 1 ∨ w = 2) → bst g (gF g n) s w p0 = bst g (gF g m) s w p0 := fun w p0 hw => bst_c (fun k hk ok => by
        have := frF_lt hk hw ok
        exact ih m _ _ (by omega) (by omega))
      show (if c = 1 then (bst g (gF g n) s 1 (g.2.2 s)).1 else if c = 3 then (bst g (gF g n) s 2 (g.2.2 s)).1 else if c = 0 then (bst g (gF g n) s 1 (bst g (gF g n) s 2 (g.2.2 s)).1).1 else (bst g (gF g n) s 2 (bst g (gF g n) s 1 (g.2.2 s)).1).1) = (if c = 1 then (bst g (gF g m) s 1 (g.2.2 s)).1 else if c = 3 then (bst g (gF g m) s 2 (g.2.2 s)).1 else if c = 0 then (bst g (gF g m) s 1 (bst g (gF g m) s 2 (g.2.2 s)).1).1 else (bst g (gF g m) s 2 (bst g (gF g m) s 1 (g.2.2 s)).1).1)
      simp only [e 1 _ (Or.inl rfl), e 2 _ (Or.inr rfl)]
def gmV (g : GP) (s c : Nat) : Int32 := gF g 7 s c
theorem gmV_eq (g : GP) (s : Nat) : gmV g s 1 = (bst g (gmV g) s 1 (g.2.2 s)).1 ∧ gmV g s 3 = (bst g (gmV g) s 2 (g.2.2 s)).1 ∧ gmV g s 0 = (bst g (gmV g) s 1 (gmV g s 3)).1 ∧ gmV g s 2 = (bst g (gmV g) s 2 (gmV g s 1)).1 := by
  have e : ∀ w p0, (w = 1 ∨ w = 2) → bst g (gF g 6) s w p0 = bst g (gmV g) s w p0 := fun w p0 hw => bst_c (fun k hk ok => by
    have := frF_lt hk hw ok
    have := frF_le g s 6
    exact gF_st 6 7 _ _ (by omega) (by omega))
  have e1 : gmV g s 1 = (bst g (gmV g) s 1 (g.2.2 s)).1 := by
    show (bst g (gF g 6) s 1 (g.2.2 s)).1 = _
    rw [e 1 _ (Or.inl rfl)]
  have e3 : gmV g s 3 = (bst g (gmV g) s 2 (g.2.2 s)).1 := by
    show (bst g (gF g 6) s 2 (g.2.2 s)).1 = _
    rw [e 2 _ (Or.inr rfl)]
  refine ⟨e1, e3, ?_, ?_⟩
  · show (bst g (gF g 6) s 1 (bst g (gF g 6) s 2 (g.2.2 s)).1).1 = _
    rw [e 1 _ (Or.inl rfl), e 2 _ (Or.inr rfl), ← e3]
  · show (bst g (gF g 6) s 2 (bst g (gF g 6) s 1 (g.2.2 s)).1).1 = _
    rw [e 2 _ (Or.inr rfl), e 1 _ (Or.inl rfl), ← e1]
/-! a stand, as a state -/
def phD (b : Nat → Bool) (s k : Nat) : Nat := if b k = true then dg s (cB b k) else 0
def ph (b : Nat → Bool) (s : Nat) : Nat := phD b s 0 + 3 * phD b s 1 + 9 * phD b s 2 + 27 * phD b s 3 + 81 * phD b s 4 + 243 * phD b s 5
theorem phD_lt (b : Nat → Bool) (s k : Nat) : phD b s k < 3 := by
  unfold phD
  split
  · exact dg_lt _ _
  · omega
theorem ph_dg {b : Nat → Bool} {s k : Nat} (hk : k < 6) : dg (ph b s) k = phD b s k := by
  have h0 := phD_lt b s 0
  have h1 := phD_lt b s 1
  have h2 := phD_lt b s 2
  have h3 := phD_lt b s 3
  have h4 := phD_lt b s 4
  have h5 := phD_lt b s 5
  unfold dg ph
  rcases lt6 hk with rfl | rfl | rfl | rfl | rfl | rfl <;> simp only [Nat.reducePow] <;> omega
theorem ph_lt (b : Nat → Bool) (s : Nat) : ph b s < 729 := by
  have h0 := phD_lt b s 0
  have h1 := phD_lt b s 1
  have h2 := phD_lt b s 2
  have h3 := phD_lt b s 3
  have h4 := phD_lt b s 4
  have h5 := phD_lt b s 5
  unfold ph
  omega
theorem ph_0 (b : Nat → Bool) : ph b 0 = 0 := by
  have : ∀ k, phD b 0 k = 0 := fun k => by
    unfold phD dg
    split
    · rw [Nat.zero_div]
    · rfl
  unfold ph
  simp only [this]
theorem cB_in {b : Nat → Bool} {i j : Nat} (hi : b i = true) (hj : b j = true) (h : cB b i = cB b j) : i = j := by
  by_cases c : i < j
  · have := cB_lt b c hi; omega
  · by_cases c2 : j < i
    · have := cB_lt b c2 hj; omega
    · omega
theorem ph_add {b : Nat → Bool} {s t w : Nat} (ht : t < 6) (hb : b t = true) (hw : w < 3) (h : dg s (cB b t) = 0) : ph b (s + w * 3 ^ cB b t) = ph b s + w * 3 ^ t := by
  have ct := cB_le b t
  have d : ∀ k, k < 6 → phD b (s + w * 3 ^ cB b t) k = if k = t then w else phD b s k := by
    intro k hk
    have ck := cB_le b k
    unfold phD
    by_cases bk : b k = true
    · rw [if_pos bk, if_pos bk, dg_add (by omega) (by omega) hw h]
      by_cases e : k = t
      · rw [if_pos e, if_pos (by rw [e])]
      · rw [if_neg e, if_neg (fun z => e (cB_in bk hb z))]
    · rw [if_neg bk, if_neg bk, if_neg (fun e => bk (by rw [e]; exact hb))]
  have d0 : phD b s t = 0 := by unfold phD; rw [if_pos hb]; exact h
  unfold ph
  rw [d 0 (by omega), d 1 (by omega), d 2 (by omega), d 3 (by omega), d 4 (by omega), d 5 (by omega)]
  rcases lt6 ht with rfl | rfl | rfl | rfl | rfl | rfl <;> simp only [Nat.reducePow] <;> simp <;> omega
/-- what one has taken -/
def tkF (e : Nat → Nat) (d : Nat) : Nat → Int32
  | 0 => 0
  | t + 1 => if e t = d then tkF e d t ||| ((1 : Int32) <<< (nI t &&& 31)) else tkF e d t
def tkN (e : Nat → Nat) (d : Nat) : Nat → Nat
  | 0 => 0
  | t + 1 => tkN e d t + (if e t = d then 2 ^ t else 0)
theorem tkN_lt (e : Nat → Nat) (d : Nat) : ∀ n, tkN e d n < 2 ^ n
  | 0 => by show 0 < 1; decide
  | n + 1 => by
    have h := tkN_lt e d n
    unfold tkN
    rw [Nat.pow_succ]
    split <;> omega
theorem tkF_eq (e : Nat → Nat) (d : Nat) : ∀ n, n ≤ 30 → tkF e d n = nI (tkN e d n)
  | 0, _ => rfl
  | n + 1, h => by
    unfold tkF tkN
    rw [tkF_eq e d n (by omega)]
    split
    · have h1 := fa_or_sum (a := tkN e d n) (k := n) 1 (tkN_lt e d n)
      rw [Nat.mul_one] at h1
      rw [shl1 n (by omega), Int32.or_comm, h1, Nat.add_comm]
    · rw [Nat.add_zero]
theorem tkF_no {e : Nat → Nat} {d a : Nat} : ∀ t, a ≤ t → (∀ k, a ≤ k → k < t → ¬ e k = d) → tkF e d t = tkF e d a
  | 0, h, _ => by rw [show a = 0 by omega]
  | t + 1, h, hn => by
    by_cases c : a = t + 1
    · rw [c]
    · have e1 : tkF e d (t + 1) = if e t = d then tkF e d t ||| ((1 : Int32) <<< (nI t &&& 31)) else tkF e d t := rfl
      rw [e1, if_neg (hn t (by omega) (by omega))]
      exact tkF_no t (by omega) (fun k h1 h2 => hn k h1 (by omega))
theorem tkF_c {e e2 : Nat → Nat} {d : Nat} : ∀ t, (∀ k, k < t → e k = e2 k) → tkF e d t = tkF e2 d t
  | 0, _ => rfl
  | t + 1, h => by unfold tkF; rw [tkF_c t (fun k hk => h k (by omega)), h t (by omega)]
