/-! ===== the class's tape ===== -/
def Tk (m m2 : pMem) : Prop := Same (fun a k => a = 1 ∧ (k = 2 ∨ k = 3)) m m2
theorem Tk.rf {m : pMem} : Tk m m := Same.rf
theorem Tk.tr {m m2 m3 : pMem} (h : Tk m m2) (h2 : Tk m2 m3) : Tk m m3 := Same.tr h h2
/-- the class reads at p, without a fault -/
def CS (B : Nat → Nat) (L p : Nat) (m : pMem) : Prop := Wf m ∧ TpC m B L ∧ mI m 1 2 = nI p ∧ mI m 1 3 = 0 ∧ p ≤ L
/-- a fault -/
def CF (f : Nat) (m : pMem) : Prop := Wf m ∧ mI m 1 3 = nI f ∧ 0 < f ∧ f < 10000
theorem CS_at {B : Nat → Nat} {L p q : Nat} {m : pMem} (h : CS B L p m) (hq : q ≤ L) : CS B L q (uI m 1 2 (nI q)) ∧ Tk m (uI m 1 2 (nI q)) := by
  obtain ⟨hW, ⟨hL, t1, t2⟩, hp, hf, hl⟩ := h
  refine ⟨⟨hW.sm (fun _ _ => rfl), ⟨hL, ?_, fun j hj => ?_⟩, ?_, ?_, hq⟩, Same.uI Same.rf ⟨rfl, Or.inl rfl⟩⟩
  · rw [mI_uI, if_neg (by omega)]; exact t1
  · rw [mI_uI, if_neg (by omega)]; exact t2 j hj
  · rw [mI_uI, if_pos ⟨rfl, rfl⟩]
  · rw [mI_uI, if_neg (by omega)]; exact hf
theorem CS_ch {B : Nat → Nat} {L p : Nat} {m : pMem} (h : CS B L p m) {q : Nat} (hq : q < L) : B q < 256 ∧ mI m 2 q = nI (B q) ∧ chI B L q = nI (B q) := ⟨(h.2.1.2.2 q hq).1, (h.2.1.2.2 q hq).2, if_pos hq⟩
theorem ch_end {B : Nat → Nat} {L q : Nat} (h : L ≤ q) : chI B L q = -1 := if_neg (by omega)
theorem ch_in {B : Nat → Nat} {L q : Nat} (h : q < L) : chI B L q = nI (B q) := if_pos h
/-- so much of a text stands here -/
def Sds (B : Nat → Nat) (L p n : Nat) (f : Nat → Int32) : Prop := p + n ≤ L ∧ ∀ j, j < n → nI (B (p + j)) = f j
/-- a number -/
def numF (B : Nat → Nat) (L p lo hi : Nat) : Nat ⊕ (Nat × Nat) :=
  if nd B L p = p then .inl (1 + 8 * p) else if 5 < nd B L p - p ∨ nv B L p < lo ∨ hi ≤ nv B L p then .inl (2 + 8 * p) else .inr (nv B L p, nd B L p)
theorem nI_lePred {v h : Nat} (hv : v < 2 ^ 31) (hh : h < 2 ^ 31) : nI v ≤ nI h - (1 : Int32) ↔ v < h := by
  cases h with
  | zero =>
    have e : nI 0 - (1 : Int32) = -1 := by decide
    rw [e]
    refine ⟨fun z => ?_, fun z => absurd z (by omega)⟩
    rw [fa_le, nI_toInt hv] at z
    have : (-1 : Int32).toInt = -1 := by decide
    omega
  | succ n => rw [nI_pred, nI_leI hv (by omega)]; omega
theorem nv_lt {B : Nat → Nat} {L p : Nat} : nv B L p < 100000 := by
  have h := nvF_lt (B := B) (p := p) (min 5 (nd B L p - p)) (fun j hj => (ndD (L - p) p rfl j (by omega)).2)
  have h2 : 10 ^ (min 5 (nd B L p - p)) ≤ 10 ^ 5 := Nat.pow_le_pow_right (by decide) (by omega)
  unfold nv
  omega
section T40
variable {X : pX} {Q : Option Value → pMem → Prop} {m : pMem} {B : Nat → Nat} {L p : Nat}
theorem s_byteAt {q : Nat} (h : CS B L p m) (hq : q < 2 ^ 31) (k : Q (some (.int (chI B L q))) m) : Cl X 0 mX9_byteAt [.ref 1, .int (nI q)] m Q := by
  have hL := h.2.1.1
  refine pCl_of (by decide +kernel) (Nat.le_of_ble_eq_true rfl) rfl (bX9_byteAt_0 h.1 (fun z => absurd z (nI_pos hq)) (fun _ z => ?_) (fun _ z => ?_) (fun _ z => ?_))
  · rw [h.2.1.2.1] at z
    rw [← ch_end (B := B) (nI_le' (by omega) hq z)]; exact k
  · rw [h.2.1.2.1] at z
    exact vp_in_nI (Nat.lt_of_not_le fun w => z (nI_le (by omega) hq)) (by decide)
  · rw [h.2.1.2.1] at z
    have hl : q < L := Nat.lt_of_not_le fun w => z (nI_le w hq)
    rw [nI_clamp hq, (CS_ch h hl).2.1, ← ch_in hl]; exact k
theorem g_next : ∀ n p (m : pMem), L - p = n → CS B L p m → (∀ m2, CS B L (sk B L p) m2 → Tk m m2 → Q (some (.int (chI B L (sk B L p)))) m2) → Go X 1 mX9_next Q 0 [(0, .ref 1)] [] m := by
  intro n
  induction n with
  | zero =>
    intro p m hn h k
    have e : p = L := by have := h.2.2.2.2; omega
    have hL := h.2.1.1
    rw [sk_ge (by omega)] at k
    have fin : Cl X 0 mX9_byteAt [.ref 1, .int (mI m 1 2)] m (fun v m2 => Go X 1 mX9_next Q 46 [(0, .ref 1)] (v.toList ++ []) m2) := by
      rw [h.2.2.1]
      exact s_byteAt h (by omega) (bX9_next_46 h.1 (k m h Tk.rf))
    refine bX9_next_0 h.1 (fun _ => fin) (fun z => ?_) (fun _ _ => fin) (fun z => ?_) <;>
    · rw [h.2.1.2.1, h.2.2.1] at z
      exact absurd (nI_le (by omega) (by omega)) z
  | succ n ih =>
    intro p m hn h k
    have hL := h.2.1.1
    have hp : p < L := by omega
    have e3 : mI m 2 ((mI m 1 2).toNatClampNeg) = nI (B p) := by rw [h.2.2.1, nI_clamp (by omega)]; exact (CS_ch h hp).2.1
    by_cases c : B p = 32
    · rw [sk_yes hp c] at k
      refine bX9_next_0 h.1 (fun z => ?_) (fun _ => ?_) (fun _ z => ?_) (fun _ _ => ?_)
      · rw [h.2.1.2.1, h.2.2.1] at z
        exact absurd z (nI_ge hp (by omega))
      · rw [h.2.2.1]; exact vp_in_nI (by omega) (by decide)
      · exact absurd (by rw [e3, c]; rfl) z
      · rw [h.2.2.1, nI_1]
        have a := CS_at (q := p + 1) h (by omega)
        exact ih (p + 1) _ (by omega) a.1 (fun m2 h2 t2 => k m2 h2 (a.2.tr t2))
    · rw [sk_no (fun z => c z.2)] at k
      have fin : Cl X 0 mX9_byteAt [.ref 1, .int (mI m 1 2)] m (fun v m2 => Go X 1 mX9_next Q 46 [(0, .ref 1)] (v.toList ++ []) m2) := by
        rw [h.2.2.1]
        exact s_byteAt h (by omega) (bX9_next_46 h.1 (k m h Tk.rf))
      refine bX9_next_0 h.1 (fun _ => fin) (fun _ => ?_) (fun _ _ => fin) (fun _ z => ?_)
      · rw [h.2.2.1]; exact vp_in_nI (by omega) (by decide)
      · rw [e3, show (32 : Int32) = nI 32 from rfl, nI_eq (by have := (CS_ch h hp).1; omega) (by decide)] at z
        exact absurd z c
theorem s_next (h : CS B L p m) (k : ∀ m2, CS B L (sk B L p) m2 → Tk m m2 → Q (some (.int (chI B L (sk B L p)))) m2) : Cl X 1 mX9_next [.ref 1] m Q :=
  pCl_of (by decide +kernel) (Nat.le_of_ble_eq_true rfl) rfl (g_next (L - p) p m rfl h k)
theorem s_tsa {x : Int32} (h : CS B L p m) (hx : x ≠ -1) (k1 : chI B L p = x → ∀ m2, CS B L (p + 1) m2 → Tk m m2 → Q (some (.int 1)) m2) (k0 : chI B L p ≠ x → Q (some (.int 0)) m) : Cl X 1 mX9_takeSignAtOnce [.ref 1, .int x] m Q := by
  have hL := h.2.1.1
  have hl := h.2.2.2.2
  refine pCl_of (by decide +kernel) (Nat.le_of_ble_eq_true rfl) rfl (bX9_takeSignAtOnce_0 h.1 ?_)
  rw [h.2.2.1]
  refine s_byteAt h (by omega) (bX9_takeSignAtOnce_8 h.1 (fun z => ?_) (fun z => k0 z))
  rw [h.2.2.1, nI_1]
  have hp : p < L := Nat.lt_of_not_le fun w => hx (by rw [← z, ch_end w])
  have a := CS_at (q := p + 1) h (by omega)
  exact k1 z _ a.1 a.2
theorem s_ts {x : Int32} (h : CS B L p m) (hx : x ≠ -1) (k1 : chI B L (sk B L p) = x → ∀ m2, CS B L (sk B L p + 1) m2 → Tk m m2 → Q (some (.int 1)) m2) (k0 : chI B L (sk B L p) ≠ x → ∀ m2, CS B L (sk B L p) m2 → Tk m m2 → Q (some (.int 0)) m2) : Cl X 2 mX9_takeSign [.ref 1, .int x] m Q := by
  refine pCl_of (by decide +kernel) (Nat.le_of_ble_eq_true rfl) rfl (bX9_takeSign_0 h.1 ?_)
  refine s_next h (fun m2 h2 t2 => bX9_takeSign_4 h2.1 ?_)
  refine s_tsa h2 hx (fun z m3 h3 t3 => ?_) (fun z => ?_)
  · exact bX9_takeSign_10 h3.1 (Or.inr rfl) (k1 z m3 h3 (t2.tr t3))
  · exact bX9_takeSign_10 h2.1 (Or.inl rfl) (k0 z m2 h2 t2)
theorem s_stands {k a b : Nat} (h : CS B L p m) (hk : 1 ≤ k ∧ k ≤ 25) (hab : a ≤ b) (hb : b ≤ lenJ (k - 1)) (hJ : lenJ (k - 1) ≤ 65)
    (k1 : Sds B L p (b - a) (fun j => bytJ (k - 1) (a + j)) → Q (some (.int 1)) m) (k0 : ¬ Sds B L p (b - a) (fun j => bytJ (k - 1) (a + j)) → Q (some (.int 0)) m) : Cl X 5 mX9_stands [.ref 1, .retAddr k, .int (nI a), .int (nI b)] m Q := by
  have hL := h.2.1.1
  have hl := h.2.2.2.2
  have e0 : ∀ i, a ≤ i → mI m 1 2 + nI i - nI a = nI (p + (i - a)) := fun i hi => by
    rw [h.2.2.1, nI_add, show p + i = (p + (i - a)) + a by omega, ← nI_add, Int32.add_sub_cancel]
  refine pCl_of (by decide +kernel) (Nat.le_of_ble_eq_true rfl) rfl (bX9_stands_0 h.1 (fun z => ?_) (fun z => ?_))
  · rw [e0 b hab, h.2.1.2.1] at z
    have z := nI_le' (by omega) (by omega) z
    have main : ∀ i, i ≤ b - a → (∀ j, j < i → nI (B (p + j)) = bytJ (k - 1) (a + j)) → Go X 5 mX9_stands Q 20 [(0, .ref 1), (1, .retAddr k), (2, .int (nI a)), (3, .int (nI b)), (4, .int (nI (a + i)))] [] m := by
      refine upTo (P := fun i => (∀ j, j < i → nI (B (p + j)) = bytJ (k - 1) (a + j)) → Go X 5 mX9_stands Q 20 [(0, .ref 1), (1, .retAddr k), (2, .int (nI a)), (3, .int (nI b)), (4, .int (nI (a + i)))] [] m) (b - a) ?_ ?_
      · intro hj
        refine bX9_stands_20 h.1 (fun _ => k1 ⟨by omega, hj⟩) (fun w => absurd (nI_le (by omega) (by omega)) w) (fun w => absurd (nI_le (by omega) (by omega)) w)
      · intro i hi ih hj
        have hB := CS_ch h (q := p + i) (by omega)
        refine bX9_stands_20 h.1 (fun w => absurd w (nI_ge (by omega) (by omega))) (fun _ => hk) (fun _ => s_length hk (bX9_stands_32 h.1 (fun w => absurd w (nI_ge (by omega) (by omega))) (fun _ => ?_) (fun _ => hk) (fun _ => s_charAt hk (vp_in_nI (by omega) (by omega)) (bX9_stands_55 h.1 (fun w => ?_) (fun w => ?_)))))
        · rw [e0 _ (by omega)]; exact vp_in_nI (by omega) (by decide)
        · rw [nI_1]
          refine ih (fun j hj2 => ?_)
          by_cases e : j = i
          · subst e
            rw [e0 _ (by omega), nI_clamp (by omega), show p + (a + j - a) = p + j by omega, hB.2.1, nI_clamp (by omega)] at w
            exact w
          · exact hj j (by omega)
        · refine k0 (fun s => w ?_)
          rw [e0 _ (by omega), nI_clamp (by omega), show p + (a + i - a) = p + i by omega, hB.2.1, nI_clamp (by omega)]
          exact s.2 i hi
    exact main 0 (Nat.zero_le _) (fun j hj => absurd hj (by omega))
  · rw [e0 b hab, h.2.1.2.1] at z
    exact k0 (fun s => z (nI_le (by have := s.1; omega) (by omega)))
theorem s_isLetter {x : Int32} (hW : Wf m) (k1 : isLt x → Q (some (.int 1)) m) (k0 : ¬ isLt x → Q (some (.int 0)) m) : Cl X 0 mX9_isLetter [.int x] m Q :=
  pCl_of (by decide +kernel) (Nat.le_of_ble_eq_true rfl) rfl (bX9_isLetter_0 hW (fun z => k0 (fun w => w.1 z)) (fun _ z => k0 (fun w => w.2 z)) (fun z1 z2 => k1 ⟨z1, z2⟩))
theorem s_isDig {x : Int32} (hW : Wf m) (k1 : isDg x → Q (some (.int 1)) m) (k0 : ¬ isDg x → Q (some (.int 0)) m) : Cl X 0 mX9_isDigit [.int x] m Q :=
  pCl_of (by decide +kernel) (Nat.le_of_ble_eq_true rfl) rfl (bX9_isDigit_0 hW (fun z => k0 (fun w => w.1 z)) (fun _ z => k0 (fun w => w.2 z)) (fun z1 z2 => k1 ⟨z1, z2⟩))
theorem lenJ_65 : ∀ i, i < 25 → lenJ i ≤ 65 ∧ 0 < lenJ i := by decide +kernel
theorem s_tw {k : Nat} (h : CS B L p m) (hk : 1 ≤ k ∧ k ≤ 25) (k1 : WD B L (sk B L p) (lenJ (k - 1)) (bytJ (k - 1)) → ∀ m2, CS B L (sk B L p + lenJ (k - 1)) m2 → Tk m m2 → Q (some (.int 1)) m2) (k0 : ¬ WD B L (sk B L p) (lenJ (k - 1)) (bytJ (k - 1)) → ∀ m2, CS B L (sk B L p) m2 → Tk m m2 → Q (some (.int 0)) m2) : Cl X 6 mX9_takeWord [.ref 1, .retAddr k] m Q := by
  have hJ := lenJ_65 (k - 1) (by omega)
  refine pCl_of (by decide +kernel) (Nat.le_of_ble_eq_true rfl) rfl (bX9_takeWord_0 h.1 ?_)
  refine s_next h (fun m2 h2 t2 => bX9_takeWord_4 h2.1 hk (s_length hk (bX9_takeWord_13 h2.1 hk (s_length hk (bX9_takeWord_22 h2.1 ?_)))))
  have hL := h2.2.1.1
  have hl := h2.2.2.2.2
  rw [h2.2.2.1, nI_add]
  have e : (fun j => bytJ (k - 1) (0 + j)) = bytJ (k - 1) := funext fun j => by rw [Nat.zero_add]
  refine s_stands (a := 0) (b := lenJ (k - 1)) h2 hk (by omega) (by omega) (by omega) (fun s => ?_) (fun s => ?_)
  · rw [Nat.sub_zero, e] at s
    refine bX9_takeWord_25 h2.1 (fun z => absurd z (by decide)) (fun _ => s_byteAt h2 (by omega) (bX9_takeWord_33 h2.1 ?_))
    refine s_isLetter h2.1 (fun z => bX9_takeWord_36 h2.1 (fun w => absurd w (by decide)) (fun _ => k0 (fun w => w.2.2 z) m2 h2 t2)) (fun z => bX9_takeWord_36 h2.1 (fun _ => ?_) (fun w => absurd rfl w))
    have a := CS_at (q := sk B L p + lenJ (k - 1)) h2 s.1
    exact k1 ⟨s.1, s.2, z⟩ _ a.1 (t2.tr a.2)
  · rw [Nat.sub_zero, e] at s
    exact bX9_takeWord_25 h2.1 (fun _ => k0 (fun w => s ⟨w.1, w.2.1⟩) m2 h2 t2) (fun z => absurd rfl z)
theorem fa_first_all {p : Nat → Bool} {n : Nat} (h : ∀ k, k < n → p k = false) : fa_first p n = n := by
  have h1 := fa_first_le p n
  rcases Nat.lt_or_ge (fa_first p n) n with c | c
  · have := fa_first_yes p n c
    rw [h _ c] at this
    exact absurd this (by decide)
  · omega
theorem fa_first_at {p : Nat → Bool} {n k : Nat} (hk : k < n) (h : ∀ j, j < k → p j = false) (hp : p k = true) : fa_first p n = k := by
  have h1 := fa_first_le p n
  rcases Nat.lt_trichotomy (fa_first p n) k with c | c | c
  · have := fa_first_yes p n (by omega)
    rw [h _ c] at this
    exact absurd this (by decide)
  · exact c
  · have := fa_first_no p n k c
    rw [hp] at this
    exact absurd this (by decide)
theorem wlB_no {i n : Nat} : wlB B L p i n = false ↔ ¬ WL B L p i n := by
  rw [← wlB_iff]; simp
theorem s_two {i : Nat} (h : CS B L p m) (hi : i < 2) (k1 : wlF B L p i < wno i → ∀ m2, CS B L (p + (wst i (wlF B L p i + 1) - 1 - wst i (wlF B L p i))) m2 → Tk m m2 → Q (some (.int (nI (wlF B L p i)))) m2) (k0 : wlF B L p i = wno i → Q (some (.int (-1))) m) : Cl X 6 mX9_takeWordOf [.ref 1, .retAddr (i + 1)] m Q := by
  have hJ := lenJ_65 i (by omega)
  have hk : 1 ≤ i + 1 ∧ i + 1 ≤ 25 := by omega
  have hL := h.2.1.1
  have hl := h.2.2.2.2
  have w12 : wno i ≤ 12 := by unfold wno; split <;> omega
  refine pCl_of (by decide +kernel) (Nat.le_of_ble_eq_true rfl) rfl (bX9_takeWordOf_0 h.1 ?_)
  have main : ∀ n, n ≤ wno i → (∀ j, j < n → ¬ WL B L p i j) → Go X 6 mX9_takeWordOf Q 7 [(0, .ref 1), (1, .retAddr (i + 1)), (2, .int (nI n)), (3, .int (nI (wst i n))), (4, .int (nI (wst i n)))] [] m := by
    refine upTo (P := fun n => (∀ j, j < n → ¬ WL B L p i j) → Go X 6 mX9_takeWordOf Q 7 [(0, .ref 1), (1, .retAddr (i + 1)), (2, .int (nI n)), (3, .int (nI (wst i n))), (4, .int (nI (wst i n)))] [] m) (wno i) ?_ ?_
    · intro hn
      refine bX9_takeWordOf_7 h.1 hk (s_length hk (bX9_takeWordOf_13 h.1 (fun _ => ?_) (fun z => absurd ?_ z) (fun z => absurd ?_ z)))
      · exact k0 (fa_first_all (fun k hk => wlB_no.mpr (hn k hk)))
      · rw [(wst_0 i hi).2]; exact nI_le (Nat.le_refl _) (by omega)
      · rw [(wst_0 i hi).2]; exact nI_le (Nat.le_refl _) (by omega)
    · intro n hn ih hno
      obtain ⟨o1, o2, o3, o4, o5⟩ := wst_ok i hi n hn
      obtain ⟨w, hw⟩ : ∃ w, wst i (n + 1) = wst i n + w + 1 := ⟨wst i (n + 1) - 1 - wst i n, by omega⟩
      have inner : ∀ c, c ≤ w → Go X 6 mX9_takeWordOf Q 7 [(0, .ref 1), (1, .retAddr (i + 1)), (2, .int (nI n)), (3, .int (nI (wst i n))), (4, .int (nI (wst i n + c)))] [] m := by
        refine upTo (P := fun c => Go X 6 mX9_takeWordOf Q 7 [(0, .ref 1), (1, .retAddr (i + 1)), (2, .int (nI n)), (3, .int (nI (wst i n))), (4, .int (nI (wst i n + c)))] [] m) w ?_ ?_
        · refine bX9_takeWordOf_7 h.1 hk (s_length hk (bX9_takeWordOf_13 h.1 (fun z => absurd z (nI_ge (by show wst i n + w < lenJ i; omega) (by show lenJ i < _; omega))) (fun _ => hk) (fun _ => s_charAt hk (vp_in_nI (by show wst i n + w < lenJ i; omega) (by show lenJ i < _; omega)) (bX9_takeWordOf_22 h.1 (fun z => absurd ?_ z) (fun _ => ?_)))))
          · rw [nI_clamp (by omega)]
            show bytJ i (wst i n + w) = 32
            rw [show wst i n + w = wst i (n + 1) - 1 by omega]; exact o4
          · have ew : wst i n + w - wst i n = w := by omega
            have ef : wst i (n + 1) - 1 - wst i n = w := by omega
            have e0 : mI m 1 2 + nI (wst i n + w) - nI (wst i n) = nI (p + w) := by
              rw [h.2.2.1, nI_add, show p + (wst i n + w) = (p + w) + wst i n by omega, ← nI_add, Int32.add_sub_cancel]
            rw [e0]
            have nxt : ¬ WL B L p i n → Go X 6 mX9_takeWordOf Q 7 [(0, .ref 1), (1, .retAddr (i + 1)), (2, .int (nI n + 1)), (3, .int (nI (wst i n + w) + 1)), (4, .int (nI (wst i n + w) + 1))] [] m := fun hq => by
              rw [nI_1, nI_1, ← hw]
              refine ih (fun j hj => ?_)
              by_cases e : j = n
              · subst e; exact hq
              · exact hno j (by omega)
            refine s_stands (k := i + 1) (a := wst i n) (b := wst i n + w) h hk (by omega) (by show _ ≤ lenJ i; omega) (by show lenJ i ≤ 65; omega) (fun s => ?_) (fun s => ?_)
            · rw [ew] at s
              refine bX9_takeWordOf_46 h.1 (fun z => absurd z (by decide)) (fun _ => s_byteAt h (by omega) (bX9_takeWordOf_55 h.1 ?_))
              refine s_isLetter h.1 (fun z => bX9_takeWordOf_58 h.1 (fun _ => nxt (fun q => ?_)) (fun y => absurd y (by decide))) (fun z => bX9_takeWordOf_58 h.1 (fun y => absurd rfl y) (fun _ => ?_))
              · unfold WL at q
                rw [ef] at q
                exact q.2.2 z
              · have hq : WL B L p i n := by
                  unfold WL
                  rw [ef]
                  exact ⟨s.1, s.2, z⟩
                have ee : wlF B L p i = n := fa_first_at hn (fun j hj => wlB_no.mpr (hno j hj)) (wlB_iff.mpr hq)
                rw [ee, ef] at k1
                have a := CS_at (q := p + w) h s.1
                exact k1 hn _ a.1 a.2
            · rw [ew] at s
              refine bX9_takeWordOf_46 h.1 (fun _ => nxt (fun q => s ?_)) (fun z => absurd rfl z)
              unfold WL at q
              rw [ef] at q
              exact ⟨q.1, q.2.1⟩
        · intro c hc ihc
          refine bX9_takeWordOf_7 h.1 hk (s_length hk (bX9_takeWordOf_13 h.1 (fun z => absurd z (nI_ge (by show wst i n + c < lenJ i; omega) (by show lenJ i < _; omega))) (fun _ => hk) (fun _ => s_charAt hk (vp_in_nI (by show wst i n + c < lenJ i; omega) (by show lenJ i < _; omega)) (bX9_takeWordOf_22 h.1 (fun _ => ?_) (fun z => absurd z ?_)))))
          · rw [nI_1]; exact ihc
          · rw [nI_clamp (by omega)]
            exact o5 (wst i n + c) (by omega) (by omega) (by omega)
      exact inner 0 (Nat.zero_le _)
  have h0 := main 0 (Nat.zero_le _) (fun j hj => absurd hj (by omega))
  rw [(wst_0 i hi).1] at h0
  exact h0
theorem s_fail {q k : Nat} (hW : Wf m) (h0 : mI m 1 3 = 0) (hq : q ≤ 400) (hk : k < 5) (h : ∀ m2, CF (1 + 8 * q + k) m2 → Tk m m2 → Q (some (.int 0)) m2) : Cl X 0 mX9_fail [.ref 1, .int (nI q), .int (nI k)] m Q := by
  refine pCl_of (by decide +kernel) (Nat.le_of_ble_eq_true rfl) rfl (bX9_fail_0 hW (fun z => absurd h0 z) (fun _ => ?_))
  refine h _ ⟨hW.sm (fun _ _ => rfl), ?_, by omega, by omega⟩ (Same.uI Same.rf ⟨rfl, Or.inr rfl⟩)
  rw [mI_uI, if_pos ⟨rfl, rfl⟩, show (8 : Int32) = nI 8 from rfl, nI_mul, show (1 : Int32) = nI 1 from rfl, nI_add, nI_add]
theorem s_fail2 {f : Nat} {x y : Int32} (h : CF f m) (k : Q (some (.int 0)) m) : Cl X 0 mX9_fail [.ref 1, .int x, .int y] m Q :=
  pCl_of (by decide +kernel) (Nat.le_of_ble_eq_true rfl) rfl (bX9_fail_0 h.1 (fun _ => k) (fun z => absurd (h.2.1.symm.trans z) (nI_ne0 h.2.2.1 (by have := h.2.2.2; omega))))
theorem s_num {lo hi : Nat} {x y : Int32} (h : CS B L p m) (hx : x = nI lo) (hy : y = nI hi - (1 : Int32)) (hlo : lo < 1000000) (hhi : hi < 1000000)
    (k1 : ∀ v q, numF B L p lo hi = .inr (v, q) → lo ≤ v → v < hi → p ≤ q → ∀ m2, CS B L q m2 → Tk m m2 → Q (some (.int (nI v))) m2) (k0 : ∀ f, numF B L p lo hi = .inl f → ∀ m2, CF f m2 → Tk m m2 → Q (some (.int (-1))) m2) : Cl X 1 mX9_number [.ref 1, .int x, .int y] m Q := by
  subst hx hy
  have hL := h.2.1.1
  have hl := h.2.2.2.2
  refine pCl_of (by decide +kernel) (Nat.le_of_ble_eq_true rfl) rfl (bX9_number_0 h.1 ?_)
  have nb := nd_b (B := B) hl
  have fin : ∀ m2, CS B L (nd B L p) m2 → Tk m m2 → Go X 1 mX9_number Q 77 [(0, .ref 1), (1, .int (nI lo)), (2, .int (nI hi - (1 : Int32))), (3, .int (nI p)), (4, .int (nI (nv B L p)))] [] m2 := by
    intro m2 h2 t2
    have hv := nv_lt (B := B) (L := L) (p := p)
    have e1 : ∀ q, p ≤ q → nI q - nI p = nI (q - p) := fun q hq => by rw [show q = (q - p) + p by omega, ← nI_add, Int32.add_sub_cancel, Nat.add_sub_cancel]
    have bad : ¬ nd B L p = p → (5 < nd B L p - p ∨ nv B L p < lo ∨ hi ≤ nv B L p) → Cl X 0 mX9_fail [.ref 1, .int (nI p), .int (1 : Int32)] m2 (fun v m2 => Go X 1 mX9_number Q 122 [(0, .ref 1), (1, .int (nI lo)), (2, .int (nI hi - (1 : Int32))), (3, .int (nI p)), (4, .int (nI (nv B L p)))] (v.toList ++ []) m2) := by
      intro c1 c2
      have en : numF B L p lo hi = .inl (2 + 8 * p) := by unfold numF; rw [if_neg c1, if_pos c2]
      refine s_fail (k := 1) h2.1 h2.2.2.2.1 (by omega) (by decide) (fun m3 h3 t3 => bX9_number_122 h3.1 (k0 _ en m3 ?_ (t2.tr t3)))
      rw [show 2 + 8 * p = 1 + 8 * p + 1 by omega]; exact h3
    have eq1 : (mI m2 1 2 = nI p) ↔ nd B L p = p := by rw [h2.2.2.1, nI_eq (by omega) (by omega)]
    have eq2 : mI m2 1 2 - nI p = nI (nd B L p - p) := by rw [h2.2.2.1, e1 _ nb.1]
    refine bX9_number_77 h2.1 (fun z1 z2 => bad (fun w => z1 (eq1.mpr w)) ?_) (fun z1 _ z3 => bad (fun w => z1 (eq1.mpr w)) (Or.inr (Or.inl (nI_lt' (by omega) (by omega) z3)))) (fun z1 z2 z3 z4 => ?_) (fun z1 _ _ z4 => bad (fun w => z1 (eq1.mpr w)) ?_) (fun z1 => ?_)
    · rw [eq2] at z2
      exact Or.inl (nI_lt' (a := 5) (by decide) (by omega) z2)
    · rw [eq2] at z2
      have c1 : ¬ 5 < nd B L p - p := fun w => z2 (nI_lt (a := 5) w (by omega))
      have c2 : ¬ nv B L p < lo := fun w => z3 (nI_lt w (by omega))
      have c3 := (nI_lePred (by omega) (by omega)).mp z4
      have en : numF B L p lo hi = .inr (nv B L p, nd B L p) := by unfold numF; rw [if_neg (fun w => z1 (eq1.mpr w)), if_neg (by omega)]
      exact k1 _ _ en (by omega) c3 nb.1 m2 h2 t2
    · exact Or.inr (Or.inr (Nat.not_lt.mp fun w => z4 ((nI_lePred (by omega) (by omega)).mpr w)))
    · have en : numF B L p lo hi = .inl (1 + 8 * p) := by unfold numF; rw [if_pos (eq1.mp z1)]
      exact s_fail (k := 0) h2.1 h2.2.2.2.1 (by omega) (by decide) (fun m3 h3 t3 => bX9_number_91 h3.1 (k0 _ en m3 h3 (t2.tr t3)))
  have main : ∀ n, n ≤ nd B L p - p → ∀ m2, CS B L (p + n) m2 → Tk m m2 → Go X 1 mX9_number Q 8 [(0, .ref 1), (1, .int (nI lo)), (2, .int (nI hi - (1 : Int32))), (3, .int (nI p)), (4, .int (nI (nvF B p (min 5 n))))] [] m2 := by
    refine upTo (P := fun n => ∀ m2, CS B L (p + n) m2 → Tk m m2 → Go X 1 mX9_number Q 8 [(0, .ref 1), (1, .int (nI lo)), (2, .int (nI hi - (1 : Int32))), (3, .int (nI p)), (4, .int (nI (nvF B p (min 5 n))))] [] m2) (nd B L p - p) ?_ ?_
    · intro m2 h2 t2
      have e : p + (nd B L p - p) = nd B L p := by omega
      rw [e] at h2
      have fin := fin m2 h2 t2
      refine bX9_number_8 h2.1 (fun _ => fin) (fun z => ?_) (fun z => ?_)
      · rw [h2.2.1.2.1, h2.2.2.1] at z
        rw [h2.2.2.1]
        exact vp_in_nI (by have := Nat.lt_of_not_le fun w => z (nI_le w (by omega)); omega) (by decide)
      · rw [h2.2.1.2.1, h2.2.2.1] at z
        have hl2 : nd B L p < L := Nat.lt_of_not_le fun w => z (nI_le w (by omega))
        have hb := CS_ch h2 hl2
        rw [h2.2.2.1, nI_clamp (by omega), hb.2.1]
        refine s_isDig h2.1 (fun y => ?_) (fun y => bX9_number_31 h2.1 (fun _ => fin) (fun w => absurd rfl w) (fun w => absurd rfl w) (fun w => absurd rfl w))
        have y := (dg_nI hb.1).mp y
        have := nd_st (B := B) (L := L) p (nd B L p - p) (by omega)
        rw [e, nd_yes ⟨hl2, y⟩] at this
        have := (nd_b (B := B) (L := L) (p := nd B L p + 1) (by omega)).1
        omega
    · intro n hn ih m2 h2 t2
      have d := ndD (B := B) (L := L) (L - p) p rfl n (by omega)
      have hb := CS_ch h2 d.1
      have e3 : mI m2 2 ((mI m2 1 2).toNatClampNeg) = nI (B (p + n)) := by rw [h2.2.2.1, nI_clamp (by omega)]; exact hb.2.1
      have e4 : mI m2 1 2 - nI p = nI n := by rw [h2.2.2.1, show p + n = n + p by omega, ← nI_add, Int32.add_sub_cancel]
      have a := CS_at (q := p + (n + 1)) h2 (by omega)
      refine bX9_number_8 h2.1 (fun z => ?_) (fun _ => ?_) (fun _ => ?_)
      · rw [h2.2.1.2.1, h2.2.2.1] at z
        exact absurd z (nI_ge d.1 (by omega))
      · rw [h2.2.2.1]; exact vp_in_nI (by omega) (by decide)
      · rw [e3]
        refine s_isDig h2.1 (fun _ => bX9_number_31 h2.1 (fun w => absurd w (by decide)) (fun _ z => ?_) (fun _ _ => ?_) (fun _ z => ?_)) (fun y => absurd ((dg_nI hb.1).mpr d.2) y)
        · rw [e4] at z
          have z := nI_le' (a := 5) (by decide) (by omega) z
          have := ih _ a.1 (t2.tr a.2)
          rw [show min 5 (n + 1) = min 5 n by omega] at this
          rw [h2.2.2.1, nI_1]
          exact this
        · rw [h2.2.2.1]; exact vp_in_nI (by omega) (by decide)
        · rw [e4] at z
          have z : n < 5 := Nat.lt_of_not_le fun w => z (nI_le (a := 5) w (by omega))
          have := ih _ a.1 (t2.tr a.2)
          rw [show min 5 (n + 1) = n + 1 by omega] at this
          rw [e3, h2.2.2.1, nI_1, show min 5 n = n by omega, show (10 : Int32) = nI 10 from rfl, nI_mul, nI_add]
          have e5 : nI (nvF B p n * 10 + B (p + n)) - (48 : Int32) = nI (nvF B p (n + 1)) := by
            have q : nvF B p (n + 1) = nvF B p n * 10 + B (p + n) - 48 := rfl
            rw [q, show nvF B p n * 10 + B (p + n) = (nvF B p n * 10 + B (p + n) - 48) + 48 by omega, ← nI_add, show (48 : Int32) = nI 48 from rfl, Int32.add_sub_cancel]
            rw [show nvF B p n * 10 + B (p + n) - 48 + 48 - 48 = nvF B p n * 10 + B (p + n) - 48 by omega]
          rw [e5]
          exact this
  have h0 := main 0 (Nat.zero_le _) m h Tk.rf
  rw [h.2.2.1]
  exact h0
end T40
