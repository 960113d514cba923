/-! ===== texts: bytes, blanks, words, numbers ===== -/
def chI (B : Nat → Nat) (L p : Nat) : Int32 := if p < L then nI (B p) else -1
def skF (B : Nat → Nat) (L : Nat) : Nat → Nat → Nat
  | 0, p => p
  | n + 1, p => if p < L ∧ B p = 32 then skF B L n (p + 1) else p
/-- behind blanks -/
def sk (B : Nat → Nat) (L p : Nat) : Nat := skF B L (L - p) p
theorem sk_yes {B : Nat → Nat} {L p : Nat} (h1 : p < L) (h2 : B p = 32) : sk B L p = sk B L (p + 1) := by
  unfold sk
  obtain ⟨n, hn⟩ : ∃ n, L - p = n + 1 := ⟨L - p - 1, by omega⟩
  rw [hn, show L - (p + 1) = n by omega]
  show (if p < L ∧ B p = 32 then skF B L n (p + 1) else p) = _
  rw [if_pos ⟨h1, h2⟩]
theorem sk_no {B : Nat → Nat} {L p : Nat} (h : ¬ (p < L ∧ B p = 32)) : sk B L p = p := by
  unfold sk
  cases L - p with
  | zero => rfl
  | succ n => show (if p < L ∧ B p = 32 then skF B L n (p + 1) else p) = p; rw [if_neg h]
theorem sk_ge {B : Nat → Nat} {L p : Nat} (h : L ≤ p) : sk B L p = p := sk_no (fun z => by omega)
theorem sk_le (B : Nat → Nat) (L : Nat) : ∀ n p, L - p = n → p ≤ L → p ≤ sk B L p ∧ sk B L p ≤ L := by
  intro n
  induction n with
  | zero => intro p h h2; rw [sk_ge (by omega)]; omega
  | succ n ih =>
    intro p h h2
    by_cases c : p < L ∧ B p = 32
    · rw [sk_yes c.1 c.2]
      have := ih (p + 1) (by omega) (by omega)
      omega
    · rw [sk_no c]; omega
theorem sk_b {B : Nat → Nat} {L p : Nat} (h : p ≤ L) : p ≤ sk B L p ∧ sk B L p ≤ L := sk_le B L (L - p) p rfl h
theorem sk_nb (B : Nat → Nat) (L : Nat) : ∀ n p, L - p = n → ¬ (sk B L p < L ∧ B (sk B L p) = 32) := by
  intro n
  induction n with
  | zero => intro p h; rw [sk_ge (by omega)]; omega
  | succ n ih =>
    intro p h
    by_cases c : p < L ∧ B p = 32
    · rw [sk_yes c.1 c.2]; exact ih (p + 1) (by omega)
    · rw [sk_no c]; exact c
theorem sk_sk (B : Nat → Nat) (L p : Nat) : sk B L (sk B L p) = sk B L p := sk_no (sk_nb B L (L - p) p rfl)
/-- letters, digits -/
def isLt (x : Int32) : Prop := ¬ x < (97 : Int32) ∧ ¬ (122 : Int32) < x
def isDg (x : Int32) : Prop := ¬ x < (48 : Int32) ∧ ¬ (57 : Int32) < x
def wst (i n : Nat) : Nat := if i = 0 then ([0, 5, 11, 18, 24, 28] : List Nat).getD n 28 else ([0, 7, 13, 20, 26, 30, 35, 40, 46, 51, 56, 61, 65] : List Nat).getD n 65
def wno (i : Nat) : Nat := if i = 0 then 5 else 12
/-- a word stands here -/
def WD (B : Nat → Nat) (L p n : Nat) (f : Nat → Int32) : Prop := p + n ≤ L ∧ (∀ j, j < n → nI (B (p + j)) = f j) ∧ ¬ isLt (chI B L (p + n))
theorem WD_c {B : Nat → Nat} {L p n : Nat} {f f2 : Nat → Int32} (h : ∀ j, j < n → f j = f2 j) : WD B L p n f ↔ WD B L p n f2 :=
  ⟨fun z => ⟨z.1, fun j hj => (z.2.1 j hj).trans (h j hj), z.2.2⟩, fun z => ⟨z.1, fun j hj => (z.2.1 j hj).trans (h j hj).symm, z.2.2⟩⟩
/-- the n-th word of a list of words -/
def WL (B : Nat → Nat) (L p i n : Nat) : Prop := WD B L p (wst i (n + 1) - 1 - wst i n) (fun j => bytJ i (wst i n + j))
noncomputable def wlB (B : Nat → Nat) (L p i : Nat) : Nat → Bool := fun n => @decide (WL B L p i n) (Classical.propDecidable _)
theorem wlB_iff {B : Nat → Nat} {L p i n : Nat} : wlB B L p i n = true ↔ WL B L p i n := by unfold wlB; simp
/-- which word stands here -/
noncomputable def wlF (B : Nat → Nat) (L p i : Nat) : Nat := fa_first (wlB B L p i) (wno i)
theorem wst_ok1 : ∀ i, i < 2 → ∀ n, n < wno i → wst i n < wst i (n + 1) ∧ wst i (n + 1) ≤ lenJ i ∧ lenJ i ≤ 65 ∧ bytJ i (wst i (n + 1) - 1) = 32 := by decide +kernel
theorem wst_ok2 : ∀ i, i < 2 → ∀ n, n < wno i → ∀ c, c < 65 → ¬ (wst i n ≤ c ∧ c < wst i (n + 1) - 1 ∧ bytJ i c = 32) := by decide +kernel
theorem wst_ok (i : Nat) (hi : i < 2) (n : Nat) (hn : n < wno i) : wst i n < wst i (n + 1) ∧ wst i (n + 1) ≤ lenJ i ∧ lenJ i ≤ 65 ∧ bytJ i (wst i (n + 1) - 1) = 32 ∧ ∀ c, c < 65 → wst i n ≤ c → c < wst i (n + 1) - 1 → ¬ bytJ i c = 32 :=
  ⟨(wst_ok1 i hi n hn).1, (wst_ok1 i hi n hn).2.1, (wst_ok1 i hi n hn).2.2.1, (wst_ok1 i hi n hn).2.2.2, fun c h1 h2 h3 h4 => wst_ok2 i hi n hn c h1 ⟨h2, h3, h4⟩⟩
theorem wst_0 : ∀ i, i < 2 → wst i 0 = 0 ∧ wst i (wno i) = lenJ i := by decide +kernel
/-- digits: where they end, what they are (five at most) -/
def ndF (B : Nat → Nat) (L : Nat) : Nat → Nat → Nat
  | 0, p => p
  | n + 1, p => if p < L ∧ 48 ≤ B p ∧ B p ≤ 57 then ndF B L n (p + 1) else p
def nd (B : Nat → Nat) (L p : Nat) : Nat := ndF B L (L - p) p
theorem nd_yes {B : Nat → Nat} {L p : Nat} (h : p < L ∧ 48 ≤ B p ∧ B p ≤ 57) : nd B L p = nd B L (p + 1) := by
  unfold nd
  obtain ⟨n, hn⟩ : ∃ n, L - p = n + 1 := ⟨L - p - 1, by omega⟩
  rw [hn, show L - (p + 1) = n by omega]
  show (if p < L ∧ 48 ≤ B p ∧ B p ≤ 57 then ndF B L n (p + 1) else p) = _
  rw [if_pos h]
theorem nd_no {B : Nat → Nat} {L p : Nat} (h : ¬ (p < L ∧ 48 ≤ B p ∧ B p ≤ 57)) : nd B L p = p := by
  unfold nd
  cases L - p with
  | zero => rfl
  | succ n => show (if p < L ∧ 48 ≤ B p ∧ B p ≤ 57 then ndF B L n (p + 1) else p) = p; rw [if_neg h]
theorem nd_le (B : Nat → Nat) (L : Nat) : ∀ n p, L - p = n → p ≤ L → p ≤ nd B L p ∧ nd B L p ≤ L := by
  intro n
  induction n with
  | zero => intro p h h2; rw [nd_no (by omega)]; omega
  | succ n ih =>
    intro p h h2
    by_cases c : p < L ∧ 48 ≤ B p ∧ B p ≤ 57
    · rw [nd_yes c]
      have := ih (p + 1) (by omega) (by omega)
      omega
    · rw [nd_no c]; omega
theorem nd_b {B : Nat → Nat} {L p : Nat} (h : p ≤ L) : p ≤ nd B L p ∧ nd B L p ≤ L := nd_le B L (L - p) p rfl h
/-- the value of k digits from p on -/
def nvF (B : Nat → Nat) (p : Nat) : Nat → Nat
  | 0 => 0
  | k + 1 => nvF B p k * 10 + B (p + k) - 48
def nv (B : Nat → Nat) (L p : Nat) : Nat := nvF B p (min 5 (nd B L p - p))
theorem ndD {B : Nat → Nat} {L : Nat} : ∀ n p, L - p = n → ∀ k, p + k < nd B L p → p + k < L ∧ 48 ≤ B (p + k) ∧ B (p + k) ≤ 57 := by
  intro n
  induction n with
  | zero => intro p h k hk; rw [nd_no (by omega)] at hk; omega
  | succ n ih =>
    intro p h k hk
    by_cases c : p < L ∧ 48 ≤ B p ∧ B p ≤ 57
    · rw [nd_yes c] at hk
      cases k with
      | zero => exact c
      | succ k =>
        have := ih (p + 1) (by omega) k (by rw [show p + 1 + k = p + (k + 1) by omega]; exact hk)
        rw [show p + 1 + k = p + (k + 1) by omega] at this
        exact this
    · rw [nd_no c] at hk; omega
theorem nd_st {B : Nat → Nat} {L : Nat} (p : Nat) : ∀ k, p + k ≤ nd B L p → nd B L (p + k) = nd B L p := by
  intro k
  induction k with
  | zero => intro _; rfl
  | succ k ih =>
    intro hk
    have d := ndD (B := B) (L := L) (L - p) p rfl k (by omega)
    have i := ih (by omega)
    rw [← i, nd_yes d]; rfl
theorem nvF_lt {B : Nat → Nat} {p : Nat} : ∀ k, (∀ j, j < k → 48 ≤ B (p + j) ∧ B (p + j) ≤ 57) → nvF B p k < 10 ^ k
  | 0, _ => by show 0 < 1; decide
  | k + 1, h => by
    have i := nvF_lt k (fun j hj => h j (by omega))
    have d := h k (by omega)
    unfold nvF
    rw [Nat.pow_succ]
    omega
/-! tapes in rows -/
def TpC (m : pMem) (B : Nat → Nat) (L : Nat) : Prop := L ≤ 400 ∧ mI m 1 1 = nI L ∧ ∀ j, j < L → B j < 256 ∧ mI m 2 j = nI (B j)
def TpM (m : pMem) (B : Nat → Nat) (L : Nat) : Prop := L ≤ 400 ∧ mI m 535 19 = nI L ∧ ∀ j, j < L → B j < 256 ∧ mI m 554 j = (nI (B j)).toInt8.toInt32
theorem tape_of {m : pMem} (h : TapeI m) : ∃ B L, TpC m B L ∧ TpM m B L := by
  obtain ⟨L, hL, h1, h2, h3⟩ := h
  refine ⟨fun j => (mI m 2 j).toNatClampNeg, L, ⟨hL, h1, fun j hj => ?_⟩, ⟨hL, h2, fun j hj => ?_⟩⟩
  · obtain ⟨b, b1, b2, b3⟩ := h3 j hj
    show (mI m 2 j).toNatClampNeg < 256 ∧ mI m 2 j = nI (mI m 2 j).toNatClampNeg
    rw [b2, nI_clamp (by omega)]; exact ⟨b1, rfl⟩
  · obtain ⟨b, b1, b2, b3⟩ := h3 j hj
    show (mI m 2 j).toNatClampNeg < 256 ∧ mI m 554 j = (nI (mI m 2 j).toNatClampNeg).toInt8.toInt32
    rw [b2, nI_clamp (by omega)]; exact ⟨b1, b3⟩
theorem byte_and : ∀ b, b < 256 → (nI b).toInt8.toInt32 &&& (255 : Int32) = nI b := by decide +kernel
theorem byte_lt : ∀ b, b < 256 → ((nI b).toInt8.toInt32 < (97 : Int32) ∨ (122 : Int32) < (nI b).toInt8.toInt32 ↔ ¬ isLt (nI b)) := by
  have : ∀ b, b < 256 → ((nI b).toInt8.toInt32 < (97 : Int32) ∨ (122 : Int32) < (nI b).toInt8.toInt32 ↔ ¬ (¬ nI b < (97 : Int32) ∧ ¬ (122 : Int32) < nI b)) := by decide +kernel
  exact this
theorem byte_eq : ∀ b, b < 256 → ∀ c, c < 128 → ((nI b).toInt8.toInt32 = nI c ↔ nI b = nI c) := by decide +kernel
theorem dg_nI {b : Nat} (hb : b < 256) : isDg (nI b) ↔ 48 ≤ b ∧ b ≤ 57 := by
  have : ∀ b, b < 256 → ((¬ nI b < (48 : Int32) ∧ ¬ (57 : Int32) < nI b) ↔ 48 ≤ b ∧ b ≤ 57) := by decide +kernel
  exact this b hb
theorem dg_M : ¬ isDg (-1) := by unfold isDg; decide
theorem lt_M : ¬ isLt (-1) := by unfold isLt; decide
theorem byt_small : ∀ i, i < 25 → ∀ j, j < lenJ i → ∃ c, c < 128 ∧ bytJ i j = nI c ∧ (i < 2 ∨ (97 ≤ c ∧ c ≤ 122)) := by
  have : ∀ i, i < 25 → ∀ j, j < lenJ i → ((((txtJ i).toList.map Char.toNat).getD j 0) < 128 ∧ (i < 2 ∨ (97 ≤ (((txtJ i).toList.map Char.toNat).getD j 0) ∧ (((txtJ i).toList.map Char.toNat).getD j 0) ≤ 122))) := by decide +kernel
  intro i hi j hj
  exact ⟨_, (this i hi j hj).1, rfl, (this i hi j hj).2⟩
