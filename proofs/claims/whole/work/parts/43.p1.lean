/-! ===== sets as numbers ===== -/
def upN (x : Int32) (n : Nat) : Prop := ∃ k : Nat, k ≤ n ∧ x = nI k
def tN (w : Nat → Int32) (v : Int32) : Nat → Nat
  | 0 => 0
  | n + 1 => tN w v n + (if w n = v then 2 ^ n else 0)
theorem tN_lt (w : Nat → Int32) (v : Int32) : ∀ n, tN w v n < 2 ^ n
  | 0 => by show 0 < 1; decide
  | n + 1 => by
    have h := tN_lt w v n
    unfold tN
    rw [Nat.pow_succ]
    split <;> omega
theorem shl1 : ∀ n, n < 30 → ((1 : Int32) <<< (nI n &&& 31)) = nI (2 ^ n) := by decide +kernel
theorem tAt_eq (w : Nat → Int32) (v : Int32) : ∀ n, n ≤ 30 → tAt w v n = nI (tN w v n)
  | 0, _ => rfl
  | n + 1, h => by
    unfold tAt tN
    rw [tAt_eq w v n (by omega)]
    split
    · have h1 := fa_or_sum (a := tN w v n) (k := n) 1 (tN_lt w v n)
      rw [Nat.mul_one] at h1
      rw [shl1 n (by omega), Int32.or_comm, h1, Nat.add_comm]
    · rw [Nat.add_zero]
theorem tAt_sm (w : Nat → Int32) (v : Int32) (n : Nat) (h : n ≤ 6) : sm64 (tAt w v n) := ⟨tN w v n, Nat.lt_of_lt_of_le (tN_lt w v n) (Nat.pow_le_pow_right (n := 2) (by decide) h), tAt_eq w v n (by omega)⟩
/-- a set's bit -/
theorem bit_nI : ∀ k, k < 64 → ∀ t, t < 6 → (((nI k >>> (nI t &&& 31)) &&& (1 : Int32)) = (1 : Int32) ↔ k / 2 ^ t % 2 = 1) := by decide +kernel
theorem bit_nI' : ∀ k, k < 64 → ∀ t, t < 6 → ((nI k >>> (nI t &&& 31)) &&& (1 : Int32)) = nI (k / 2 ^ t % 2) := by decide +kernel
theorem tN_bit (w : Nat → Int32) (v : Int32) : ∀ n t, t < n → (tN w v n / 2 ^ t % 2 = 1 ↔ w t = v)
  | 0, t, h => by omega
  | n + 1, t, h => by
    unfold tN
    by_cases ht : t = n
    · subst ht
      have hl := tN_lt w v t
      by_cases hw : w t = v
      · rw [if_pos hw, Nat.add_div_right _ (Nat.two_pow_pos t), Nat.div_eq_of_lt hl]
        simp [hw]
      · rw [if_neg hw, Nat.add_zero, Nat.div_eq_of_lt hl]
        simp [hw]
    · have ih := tN_bit w v n t (by omega)
      split
      · rw [show 2 ^ n = 2 ^ t * (2 * 2 ^ (n - t - 1)) by rw [← Nat.pow_succ', ← Nat.pow_add]; congr 1; omega, Nat.add_mul_div_left _ _ (Nat.two_pow_pos t), Nat.add_mul_mod_self_left]
        exact ih
      · rw [Nat.add_zero]; exact ih
/-- how many places hold a value; what these weigh -/
def cnt (w : Nat → Int32) (v : Int32) : Nat → Nat
  | 0 => 0
  | n + 1 => cnt w v n + (if w n = v then 1 else 0)
def dSum (g w : Nat → Int32) (v : Int32) : Nat → Int32
  | 0 => 0
  | n + 1 => if w n = v then dSum g w v n + g n else dSum g w v n
theorem wSum_congr {g : Nat → Int32} {x y : Int32} : ∀ n, (∀ t, t < n → (((x >>> (nI t &&& 31)) &&& (1 : Int32)) = (1 : Int32) ↔ ((y >>> (nI t &&& 31)) &&& (1 : Int32)) = (1 : Int32))) → wSum g x n = wSum g y n
  | 0, _ => rfl
  | n + 1, h => by
    unfold wSum
    rw [wSum_congr n (fun t ht => h t (by omega))]
    by_cases q : ((x >>> (nI n &&& 31)) &&& (1 : Int32)) = (1 : Int32)
    · rw [if_pos q, if_pos ((h n (by omega)).mp q)]
    · rw [if_neg q, if_neg (fun z => q ((h n (by omega)).mpr z))]
theorem wSum_t {g w : Nat → Int32} {v : Int32} {N : Nat} (hN : N ≤ 6) : ∀ n, n ≤ N → wSum g (tAt w v N) n = dSum g w v n
  | 0, _ => rfl
  | n + 1, h => by
    unfold wSum dSum
    rw [wSum_t hN n (by omega), tAt_eq w v N (by omega)]
    have hb := (bit_nI (tN w v N) (Nat.lt_of_lt_of_le (tN_lt w v N) (Nat.pow_le_pow_right (n := 2) (by decide) hN)) n (by omega)).trans (tN_bit w v N n (by omega))
    by_cases q : w n = v
    · rw [if_pos q, if_pos (hb.mpr q)]
    · rw [if_neg q, if_neg (fun z => q (hb.mp z))]
theorem popc_add : ∀ n, n < 6 → ∀ k, k < 2 ^ n → popc (k + 2 ^ n) = popc k + 1 := by decide +kernel
theorem popc_t (w : Nat → Int32) (v : Int32) : ∀ n, n ≤ 6 → popc (tN w v n) = cnt w v n
  | 0, _ => by show popc 0 = 0; decide
  | n + 1, h => by
    unfold tN cnt
    have ih := popc_t w v n (by omega)
    split
    · rw [popc_add n (by omega) _ (tN_lt w v n), ih]
    · rw [Nat.add_zero, Nat.add_zero, ih]
theorem pcI_t (w : Nat → Int32) (v : Int32) (n : Nat) (h : n ≤ 6) : pcI (tAt w v n) = nI (cnt w v n) := by
  unfold pcI
  have hl : tN w v n < 64 := Nat.lt_of_lt_of_le (tN_lt w v n) (Nat.pow_le_pow_right (n := 2) (by decide) h)
  rw [tAt_eq w v n (by omega), nI_clamp (by omega), popc_t w v n h]
theorem cnt_le (w : Nat → Int32) (v : Int32) : ∀ n, cnt w v n ≤ n
  | 0 => Nat.le_refl 0
  | n + 1 => by have := cnt_le w v n; unfold cnt; split <;> omega
theorem hasT {w : Nat → Int32} {v : Int32} {N t : Nat} (hN : N ≤ 6) (ht : t < N) : ((tAt w v N >>> (nI t &&& 31)) &&& (1 : Int32)) = if w t = v then 1 else 0 := by
  have hl : tN w v N < 64 := Nat.lt_of_lt_of_le (tN_lt w v N) (Nat.pow_le_pow_right (n := 2) (by decide) hN)
  rw [tAt_eq w v N (by omega), bit_nI' _ hl t (by omega)]
  have hb := tN_bit w v N t ht
  by_cases q : w t = v
  · rw [if_pos q, hb.mpr q]; rfl
  · rw [if_neg q]
    have : tN w v N / 2 ^ t % 2 = 0 := by
      have h2 := Nat.mod_two_eq_zero_or_one (tN w v N / 2 ^ t)
      rcases h2 with h2 | h2
      · exact h2
      · exact absurd (hb.mp h2) q
    rw [this]; rfl
