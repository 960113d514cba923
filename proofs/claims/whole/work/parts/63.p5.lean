/-! ===== rules as rows of signs ===== -/
/-- a sign: its sort, its number -/
abbrev Tok : Type := Int32 × Int32
def isAr (x : Int32) : Prop := x = 2 ∨ x = 3 ∨ x = 13 ∨ x = 14 ∨ x = 15
def isCm (x : Int32) : Prop := x = 4 ∨ x = 5 ∨ x = 6 ∨ x = 7 ∨ x = 8
/-- a sign's kinds: what lies on the stack, false for numbers, true for truths -/
def TyT (t : Tok) (a b : List Bool) : Prop :=
  (t.1 = 0 ∧ ¬ t.2 < 0 ∧ b = false :: a) ∨ (t.1 = 1 ∧ vp_in t.2 12 ∧ b = false :: a)
  ∨ (t.1 = 9 ∧ ∃ c, a = true :: c ∧ b = true :: c) ∨ ((t.1 = 10 ∨ t.1 = 11) ∧ ∃ c, a = true :: true :: c ∧ b = true :: c)
  ∨ (isAr t.1 ∧ ∃ c, a = false :: false :: c ∧ b = false :: c) ∨ (isCm t.1 ∧ ∃ c, a = false :: false :: c ∧ b = true :: c)
def TyL : List Tok → List Bool → List Bool → Prop
  | [], a, b => a = b
  | t :: ts, a, b => ∃ c, TyT t a c ∧ TyL ts c b
theorem TyL_app : ∀ {x y : List Tok} {a b c : List Bool}, TyL x a b → TyL y b c → TyL (x ++ y) a c
  | [], _, _, _, _, h1, h2 => by
    have h1 : _ = _ := h1
    subst h1; exact h2
  | _ :: _, _, _, _, _, ⟨d, h1, h2⟩, h3 => ⟨d, h1, TyL_app h2 h3⟩
/-- values as the kinds say -/
def VOk : List Bool → List Int64 → Prop
  | [], [] => True
  | b :: a, v :: s => (b = true → v = 0 ∨ v = 1) ∧ VOk a s
  | _, _ => False
theorem VOk_len : ∀ {a : List Bool} {s : List Int64}, VOk a s → a.length = s.length
  | [], [], _ => rfl
  | _ :: _, _ :: _, h => by simp [VOk_len h.2]
  | [], _ :: _, h => h.elim
  | _ :: _, [], h => h.elim
theorem VOk_1 {b : Bool} {a : List Bool} {s : List Int64} (h : VOk (b :: a) s) : ∃ v r, s = v :: r ∧ (b = true → v = 0 ∨ v = 1) ∧ VOk a r := by
  cases s with
  | nil => exact h.elim
  | cons v r => exact ⟨v, r, rfl, h.1, h.2⟩
def stepM (w : Row) (t : Tok) (s : List Int64) : List Int64 :=
  if t.1 = 0 then t.2.toInt64 :: s else if t.1 = 1 then (w t.2.toNatClampNeg).toInt64 :: s else if t.1 = 9 then (1 - s.headD 0) :: s.tail else bothM t.1 (s.tail.headD 0) (s.headD 0) :: s.tail.tail
def evT (w : Row) : List Tok → List Int64 → List Int64
  | [], s => s
  | t :: ts, s => evT w ts (stepM w t s)
theorem bothM_cm {x : Int32} {a b : Int64} (h : isCm x) : bothM x a b = 0 ∨ bothM x a b = 1 := by
  rcases h with rfl | rfl | rfl | rfl | rfl
  · by_cases c : a < b <;> simp [bothM, c]
  · by_cases c : a ≤ b <;> simp [bothM, c]
  · by_cases c : a = b <;> simp [bothM, c]
  · by_cases c : b ≤ a <;> simp [bothM, c]
  · by_cases c : b < a <;> simp [bothM, c]
theorem Tok_ne {x : Int32} (h : (x = 10 ∨ x = 11) ∨ isAr x ∨ isCm x) : x ≠ 0 ∧ x ≠ 1 ∧ x ≠ 9 := by
  unfold isAr isCm at h
  rcases h with (rfl | rfl) | (rfl | rfl | rfl | rfl | rfl) | (rfl | rfl | rfl | rfl | rfl) <;> decide
theorem stepM_0 {w : Row} {t : Tok} (s : List Int64) (h : t.1 = 0) : stepM w t s = t.2.toInt64 :: s := by unfold stepM; rw [if_pos h]
theorem stepM_1 {w : Row} {t : Tok} (s : List Int64) (h : t.1 = 1) : stepM w t s = (w t.2.toNatClampNeg).toInt64 :: s := by unfold stepM; rw [h, if_neg (by decide), if_pos rfl]
theorem stepM_9 {w : Row} {t : Tok} (s : List Int64) (h : t.1 = 9) : stepM w t s = (1 - s.headD 0) :: s.tail := by unfold stepM; rw [h, if_neg (by decide), if_neg (by decide), if_pos rfl]
theorem stepM_op {w : Row} {t : Tok} (s : List Int64) (h : (t.1 = 10 ∨ t.1 = 11) ∨ isAr t.1 ∨ isCm t.1) : stepM w t s = bothM t.1 (s.tail.headD 0) (s.headD 0) :: s.tail.tail := by
  have hn := Tok_ne h
  unfold stepM; rw [if_neg hn.1, if_neg hn.2.1, if_neg hn.2.2]
theorem stepM_ok {w : Row} {t : Tok} {a b : List Bool} {s : List Int64} (h : TyT t a b) (hs : VOk a s) : VOk b (stepM w t s) := by
  rcases h with ⟨h1, _, rfl⟩ | ⟨h1, _, rfl⟩ | ⟨h1, c, rfl, rfl⟩ | ⟨h1, c, rfl, rfl⟩ | ⟨h1, c, rfl, rfl⟩ | ⟨h1, c, rfl, rfl⟩
  · rw [stepM_0 _ h1]; exact ⟨fun z => Bool.noConfusion z, hs⟩
  · rw [stepM_1 _ h1]; exact ⟨fun z => Bool.noConfusion z, hs⟩
  · obtain ⟨v, r, rfl, k1, k2⟩ := VOk_1 hs
    rw [stepM_9 _ h1]
    refine ⟨fun _ => ?_, k2⟩
    rcases k1 rfl with rfl | rfl
    · exact Or.inr (show (1 : Int64) - 0 = 1 by decide)
    · exact Or.inl (show (1 : Int64) - 1 = 0 by decide)
  · obtain ⟨v, r, rfl, k1, k2⟩ := VOk_1 hs
    obtain ⟨u, r2, rfl, k3, k4⟩ := VOk_1 k2
    have hn := Tok_ne (Or.inl h1)
    unfold stepM; rw [if_neg hn.1, if_neg hn.2.1, if_neg hn.2.2]
    refine ⟨fun _ => ?_, k4⟩
    show bothM t.1 u v = 0 ∨ bothM t.1 u v = 1
    rcases h1 with e | e <;> rw [e] <;> rcases k1 rfl with rfl | rfl <;> rcases k3 rfl with rfl | rfl <;> decide
  · obtain ⟨v, r, rfl, k1, k2⟩ := VOk_1 hs
    obtain ⟨u, r2, rfl, k3, k4⟩ := VOk_1 k2
    have hn := Tok_ne (Or.inr (Or.inl h1))
    unfold stepM; rw [if_neg hn.1, if_neg hn.2.1, if_neg hn.2.2]
    exact ⟨fun z => Bool.noConfusion z, k4⟩
  · obtain ⟨v, r, rfl, k1, k2⟩ := VOk_1 hs
    obtain ⟨u, r2, rfl, k3, k4⟩ := VOk_1 k2
    have hn := Tok_ne (Or.inr (Or.inr h1))
    unfold stepM; rw [if_neg hn.1, if_neg hn.2.1, if_neg hn.2.2]
    exact ⟨fun _ => bothM_cm h1, k4⟩
theorem evT_ok {w : Row} : ∀ {ts : List Tok} {a b : List Bool} {s : List Int64}, TyL ts a b → VOk a s → VOk b (evT w ts s)
  | [], _, _, _, h, hs => by
    have h : _ = _ := h
    subst h; exact hs
  | t :: ts, _, b, s, ⟨_, h1, h2⟩, hs => by
    show VOk b (evT w ts (stepM w t s))
    exact evT_ok h2 (stepM_ok h1 hs)
theorem evT_app {w : Row} : ∀ (x y : List Tok) (s : List Int64), evT w (x ++ y) s = evT w y (evT w x s)
  | [], _, _ => rfl
  | _ :: x, y, s => evT_app x y _
/-- a sum, and its test -/
abbrev Cls : Type := List Tok × List Tok
def evR (w : Row) : List Cls → Int64
  | [] => 0
  | c :: cs => if c.2 = [] ∨ (evT w c.2 []).headD 0 = 1 then (evT w c.1 []).headD 0 else evR w cs
/-- how many values -/
def nVal : List Tok → Nat
  | [] => 0
  | t :: ts => (if t.1 = 0 ∨ t.1 = 1 then 1 else 0) + nVal ts
theorem nVal_app : ∀ x y : List Tok, nVal (x ++ y) = nVal x + nVal y
  | [], y => by simp [nVal]
  | t :: x, y => by simp only [List.cons_append, nVal, nVal_app x y]; omega
def ClsOk (c : Cls) : Prop := TyL c.1 [] [false] ∧ (c.2 = [] ∨ TyL c.2 [] [true]) ∧ nVal c.1 + nVal c.2 ≤ 60
/-- rows of signs in rows of numbers -/
def seg (so nu : Row) : Nat → Nat → List Tok
  | _, 0 => []
  | p, n + 1 => (so p, nu p) :: seg so nu (p + 1) n
theorem seg_len (so nu : Row) : ∀ n p, (seg so nu p n).length = n
  | 0, _ => rfl
  | n + 1, p => by simp [seg, seg_len so nu n (p + 1)]
theorem seg_congr {so nu so2 nu2 : Row} : ∀ n p, (∀ j, j < n → so (p + j) = so2 (p + j) ∧ nu (p + j) = nu2 (p + j)) → seg so nu p n = seg so2 nu2 p n
  | 0, _, _ => rfl
  | n + 1, p, h => by
    have h0 := h 0 (by omega)
    rw [Nat.add_zero] at h0
    unfold seg
    rw [h0.1, h0.2, seg_congr n (p + 1) (fun j hj => by have := h (j + 1) (by omega); rw [show p + 1 + j = p + (j + 1) by omega]; exact this)]
theorem seg_app (so nu : Row) : ∀ n k p, seg so nu p (n + k) = seg so nu p n ++ seg so nu (p + n) k
  | 0, k, p => by simp [seg]
  | n + 1, k, p => by
    rw [show n + 1 + k = (n + k) + 1 by omega]
    simp only [seg, List.cons_append]
    rw [seg_app so nu n k (p + 1), show p + 1 + n = p + (n + 1) by omega]
/-- the model's rule i -/
def RuleM (m : pMem) (i : Nat) (cs : List Cls) : Prop :=
  mI m 557 i = nI cs.length ∧ cs.length ≤ 12 ∧ ∀ c, c < cs.length → ∃ a b e : Nat, a ≤ b ∧ b ≤ e ∧ e ≤ 300 ∧ mI m 558 (12 * i + c) = nI a ∧ mI m 559 (12 * i + c) = nI b ∧ mI m 560 (12 * i + c) = nI e
    ∧ seg (mI m 555) (mI m 556) (300 * i + a) (b - a) = (cs.getD c ([], [])).1 ∧ seg (mI m 555) (mI m 556) (300 * i + b) (e - b) = (cs.getD c ([], [])).2
/-- a sign as a step -/
def enc (t : Tok) : Int32 :=
  if t.1 = 0 then t.2 else if t.1 = 1 then -1 - t.2 else if t.1 = 2 then -21 else if t.1 = 3 then -22 else if t.1 = 13 then -23 else if t.1 = 14 then -24 else if t.1 = 15 then -25
  else if t.1 = 4 then -26 else if t.1 = 5 then -27 else if t.1 = 6 then -28 else if t.1 = 7 then -29 else if t.1 = 8 then -30 else if t.1 = 10 then -31 else if t.1 = 11 then -32 else -33
def encC (c : Cls) : List Int32 := c.1.map enc ++ (if c.2 = [] then [-34] else c.2.map enc ++ [-35])
def encR : List Cls → List Int32
  | [] => []
  | c :: cs => encC c ++ encR cs
/-- the class's rule at r -/
def RuleC (m : pMem) (r : Nat) (cs : List Cls) : Prop :=
  mI m r 2 = nI (encR cs).length ∧ (encR cs).length ≤ 400 ∧ ∀ j, j < (encR cs).length → mI m (r + 1) j = (encR cs).getD j 0
/-- a row of steps as a list -/
def runL (w : Row) : List Int32 → List Int64 → Int64
  | [], _ => 0
  | x :: xs, s => match stepC w x s with
    | .inl v => v
    | .inr s2 => runL w xs s2
theorem runC_runL {w st : Row} : ∀ (xs : List Int32) (i : Nat) (s : List Int64), (∀ j, j < xs.length → st (i + j) = xs.getD j 0) → runC st w xs.length i s = runL w xs s
  | [], _, _, _ => rfl
  | x :: xs, i, s, h => by
    have h0 : st i = x := h 0 (by simp)
    show (match stepC w (st i) s with | .inl v => v | .inr s2 => runC st w xs.length (i + 1) s2) = match stepC w x s with | .inl v => v | .inr s2 => runL w xs s2
    rw [h0]
    cases stepC w x s with
    | inl v => rfl
    | inr s2 => exact runC_runL xs (i + 1) s2 (fun j hj => by have := h (j + 1) (by simp; omega); rw [show i + 1 + j = i + (j + 1) by omega, this]; simp)
theorem two_both : ∀ {x : Int32} {a b : Int64}, ((x = 10 ∨ x = 11) ∨ isAr x ∨ isCm x) → two (enc (x, 0)) a b = bothM x a b ∧ ¬ (0 : Int32) ≤ enc (x, 0) ∧ ¬ -13 < enc (x, 0) ∧ enc (x, 0) ≠ -34 ∧ enc (x, 0) ≠ -35 ∧ enc (x, 0) ≠ -33 := by
  intro x a b h
  unfold isAr isCm at h
  rcases h with (rfl | rfl) | (rfl | rfl | rfl | rfl | rfl) | (rfl | rfl | rfl | rfl | rfl) <;> exact ⟨rfl, by decide, by decide, by decide, by decide, by decide⟩
theorem enc_op {t : Tok} (h : (t.1 = 10 ∨ t.1 = 11) ∨ isAr t.1 ∨ isCm t.1) : enc t = enc (t.1, 0) := by
  have hn := Tok_ne h
  unfold enc
  simp only [if_neg hn.1, if_neg hn.2.1]
theorem stepC_enc {w : Row} {t : Tok} {a b : List Bool} {s : List Int64} (h : TyT t a b) (hs : VOk a s) (hl : s.length < 64) : stepC w (enc t) s = .inr (stepM w t s) := by
  have two3 : ((t.1 = 10 ∨ t.1 = 11) ∨ isAr t.1 ∨ isCm t.1) → (∃ v u r, s = v :: u :: r) → stepC w (enc t) s = .inr (stepM w t s) := by
    intro hk ⟨v, u, r, e⟩
    subst e
    rw [enc_op hk]
    obtain ⟨k1, k2, k3, k4, k5, k6⟩ := two_both (a := u) (b := v) hk
    have hn := Tok_ne hk
    unfold stepC stepM
    rw [if_neg k2, if_neg k3, if_neg k4, if_neg k5, if_neg k6, if_neg hn.1, if_neg hn.2.1, if_neg hn.2.2]
    show Sum.inr (pushS (two (enc (t.1, 0)) u v) r) = Sum.inr (bothM t.1 u v :: r)
    rw [k1]
    simp only [List.length_cons] at hl
    unfold pushS
    rw [if_pos (by omega)]
  rcases h with ⟨h1, h2, rfl⟩ | ⟨h1, h2, rfl⟩ | ⟨h1, c, rfl, rfl⟩ | ⟨h1, c, rfl, rfl⟩ | ⟨h1, c, rfl, rfl⟩ | ⟨h1, c, rfl, rfl⟩
  · have e : enc t = t.2 := by unfold enc; rw [if_pos h1]
    rw [e, stepM_0 _ h1]
    unfold stepC pushS
    rw [if_pos (Int32.not_lt.mp h2), if_pos hl]
  · obtain ⟨k, hk, ek⟩ := vp_in_of h2 (by decide)
    have e : enc t = -1 - nI k := by
      unfold enc
      rw [h1, if_neg (by decide), if_pos rfl, ek]
    rw [e, stepM_1 _ h1, ek]
    have q : ∀ k, k < 12 → ¬ (0 : Int32) ≤ -1 - nI k ∧ -13 < -1 - nI k ∧ -1 - (-1 - nI k) = nI k := by decide +kernel
    obtain ⟨q1, q2, q3⟩ := q k hk
    unfold stepC pushS
    rw [if_neg q1, if_pos q2, q3, if_pos hl]
  · obtain ⟨v, r, rfl, k1, k2⟩ := VOk_1 hs
    have e : enc t = -33 := by unfold enc; rw [h1]; rfl
    rw [e, stepM_9 _ h1]
    have e2 : stepC w (-33) (v :: r) = .inr (pushS (if v = 0 then 1 else 0) r) := rfl
    rw [e2]
    simp only [List.length_cons] at hl
    unfold pushS
    rw [if_pos (by omega)]
    show Sum.inr ((if v = 0 then (1 : Int64) else 0) :: r) = Sum.inr ((1 - v) :: r)
    rcases k1 rfl with rfl | rfl <;> rfl
  · obtain ⟨v, r, rfl, k1, k2⟩ := VOk_1 hs
    obtain ⟨u, r2, rfl, k3, k4⟩ := VOk_1 k2
    exact two3 (Or.inl h1) ⟨v, u, r2, rfl⟩
  · obtain ⟨v, r, rfl, k1, k2⟩ := VOk_1 hs
    obtain ⟨u, r2, rfl, k3, k4⟩ := VOk_1 k2
    exact two3 (Or.inr (Or.inl h1)) ⟨v, u, r2, rfl⟩
  · obtain ⟨v, r, rfl, k1, k2⟩ := VOk_1 hs
    obtain ⟨u, r2, rfl, k3, k4⟩ := VOk_1 k2
    exact two3 (Or.inr (Or.inr h1)) ⟨v, u, r2, rfl⟩
theorem TyT_len {t : Tok} {a b : List Bool} (h : TyT t a b) : b.length ≤ a.length + (if t.1 = 0 ∨ t.1 = 1 then 1 else 0) := by
  rcases h with ⟨h1, _, rfl⟩ | ⟨h1, _, rfl⟩ | ⟨h1, c, rfl, rfl⟩ | ⟨h1, c, rfl, rfl⟩ | ⟨h1, c, rfl, rfl⟩ | ⟨h1, c, rfl, rfl⟩
  · rw [if_pos (Or.inl h1)]; simp
  · rw [if_pos (Or.inr h1)]; simp
  · simp
  · simp; omega
  · simp; omega
  · simp; omega
/-- signs run as steps, on what lies there -/
theorem runL_toks {w : Row} {ys : List Int32} : ∀ {ts : List Tok} {a b : List Bool} {s s0 : List Int64}, TyL ts a b → VOk a s → s.length + s0.length + nVal ts ≤ 63 → runL w (ts.map enc ++ ys) (s ++ s0) = runL w ys (evT w ts s ++ s0)
  | [], _, _, _, _, _, _, _ => rfl
  | t :: ts, a, b, s, s0, ⟨c, h1, h2⟩, hs, hl => by
    have l1 := VOk_len hs
    have l2 := VOk_len (stepM_ok (w := w) h1 hs)
    have l3 := TyT_len h1
    have hnv : nVal (t :: ts) = (if t.1 = 0 ∨ t.1 = 1 then 1 else 0) + nVal ts := rfl
    rw [hnv] at hl
    -- below what lies there nothing is seen
    have below : stepM w t (s ++ s0) = stepM w t s ++ s0 := by
      rcases h1 with ⟨h1, _, rfl⟩ | ⟨h1, _, rfl⟩ | ⟨h1, c, rfl, rfl⟩ | ⟨h1, c, rfl, rfl⟩ | ⟨h1, c, rfl, rfl⟩ | ⟨h1, c, rfl, rfl⟩
      · rw [stepM_0 _ h1, stepM_0 _ h1]; rfl
      · rw [stepM_1 _ h1, stepM_1 _ h1]; rfl
      · obtain ⟨v, r, rfl, k1, k2⟩ := VOk_1 hs
        rw [stepM_9 _ h1, stepM_9 _ h1]; rfl
      all_goals
        obtain ⟨v, r, rfl, k1, k2⟩ := VOk_1 hs
        obtain ⟨u, r2, rfl, k3, k4⟩ := VOk_1 k2
      · rw [stepM_op _ (Or.inl h1), stepM_op _ (Or.inl h1)]; rfl
      · rw [stepM_op _ (Or.inr (Or.inl h1)), stepM_op _ (Or.inr (Or.inl h1))]; rfl
      · rw [stepM_op _ (Or.inr (Or.inr h1)), stepM_op _ (Or.inr (Or.inr h1))]; rfl
    have st : stepC w (enc t) (s ++ s0) = .inr (stepM w t s ++ s0) := by
      rw [← below]
      obtain ⟨a0, ha0⟩ : ∃ a0, VOk a0 s0 := by
        clear hl below l1 l2 l3 hs h1 h2 hnv
        induction s0 with
        | nil => exact ⟨[], trivial⟩
        | cons v r ih => obtain ⟨x, hx⟩ := ih; exact ⟨false :: x, fun z => Bool.noConfusion z, hx⟩
      have app : ∀ {a a0 : List Bool} {s s0 : List Int64}, VOk a s → VOk a0 s0 → VOk (a ++ a0) (s ++ s0) := by
        intro a
        induction a with
        | nil => intro a0 s s0 h h0; cases s with
          | nil => exact h0
          | cons v r => exact h.elim
        | cons b a ih => intro a0 s s0 h h0; cases s with
          | nil => exact h.elim
          | cons v r => exact ⟨h.1, ih h.2 h0⟩
      have ty : TyT t (a ++ a0) (c ++ a0) := by
        rcases h1 with ⟨h1, z2, rfl⟩ | ⟨h1, z2, rfl⟩ | ⟨h1, d, rfl, rfl⟩ | ⟨h1, d, rfl, rfl⟩ | ⟨h1, d, rfl, rfl⟩ | ⟨h1, d, rfl, rfl⟩
        · exact Or.inl ⟨h1, z2, rfl⟩
        · exact Or.inr (Or.inl ⟨h1, z2, rfl⟩)
        · exact Or.inr (Or.inr (Or.inl ⟨h1, d ++ a0, rfl, rfl⟩))
        · exact Or.inr (Or.inr (Or.inr (Or.inl ⟨h1, d ++ a0, rfl, rfl⟩)))
        · exact Or.inr (Or.inr (Or.inr (Or.inr (Or.inl ⟨h1, d ++ a0, rfl, rfl⟩))))
        · exact Or.inr (Or.inr (Or.inr (Or.inr (Or.inr ⟨h1, d ++ a0, rfl, rfl⟩))))
      exact stepC_enc ty (app hs ha0) (by rw [List.length_append]; omega)
    show (match stepC w (enc t) (s ++ s0) with | .inl v => v | .inr s2 => runL w (ts.map enc ++ ys) s2) = runL w ys (evT w ts (stepM w t s) ++ s0)
    rw [st]
    exact runL_toks h2 (stepM_ok h1 hs) (by omega)
theorem runL_rule {w : Row} : ∀ {cs : List Cls}, (∀ c ∈ cs, ClsOk c) → runL w (encR cs) [] = evR w cs
  | [], _ => rfl
  | c :: cs, h => by
    obtain ⟨h1, h2, h3⟩ := h c (List.mem_cons_self ..)
    have ih := runL_rule (w := w) (cs := cs) (fun d hd => h d (List.mem_cons_of_mem _ hd))
    have o1 := evT_ok (w := w) h1 (s := []) trivial
    obtain ⟨v, r, ev, _, hr⟩ := VOk_1 o1
    have hr0 : r = [] := by
      cases r with
      | nil => rfl
      | cons _ _ => exact hr.elim
    subst hr0
    have a1 := runL_toks (w := w) (ys := (if c.2 = [] then [-34] else c.2.map enc ++ [-35]) ++ encR cs) h1 (s := []) (s0 := []) trivial (by simp; omega)
    show runL w ((c.1.map enc ++ (if c.2 = [] then [-34] else c.2.map enc ++ [-35])) ++ encR cs) [] = if c.2 = [] ∨ (evT w c.2 []).headD 0 = 1 then (evT w c.1 []).headD 0 else evR w cs
    rw [List.append_assoc]
    refine (show runL w _ [] = runL w _ ([] ++ []) from rfl).trans (a1.trans ?_)
    rw [ev]
    by_cases e : c.2 = []
    · rw [if_pos e, if_pos (Or.inl e)]
      rfl
    · rw [if_neg e]
      have h2' : TyL c.2 [] [true] := h2.resolve_left e
      have o2 := evT_ok (w := w) h2' (s := []) trivial
      obtain ⟨u, r, eu, hu, hr⟩ := VOk_1 o2
      have hr0 : r = [] := by
        cases r with
        | nil => rfl
        | cons _ _ => exact hr.elim
      subst hr0
      have a2 := runL_toks (w := w) (ys := [-35] ++ encR cs) h2' (s := []) (s0 := [v]) trivial (by simp; omega)
      rw [List.append_assoc]
      refine (show runL w _ ([v] ++ []) = runL w _ ([] ++ [v]) from rfl).trans (a2.trans ?_)
      rw [eu]
      rcases hu rfl with rfl | rfl
      · rw [if_neg (fun z => z.elim e (fun z => absurd z (by decide)))]
        exact ih
      · rw [if_pos (Or.inr (show [(1 : Int64)].headD 0 = 1 from rfl))]
        rfl
/-- the class's rule says what its signs say -/
theorem RuleC_ev {m : pMem} {r : Nat} {cs : List Cls} (h : RuleC m r cs) (ok : ∀ c ∈ cs, ClsOk c) (w : Row) : cEvF (mI m (r + 1)) (mI m r 2) w = evR w cs := by
  obtain ⟨h1, h2, h3⟩ := h
  unfold cEvF
  rw [h1, nI_clamp (by omega), runC_runL (encR cs) 0 [] (fun j hj => by rw [Nat.zero_add]; exact h3 j hj)]
  exact runL_rule ok
