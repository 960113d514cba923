/-! ===== plain functions of rows ===== -/
/-- a loop that goes up -/
theorem upTo {P : Nat → Prop} (N : Nat) (he : P N) (hs : ∀ t, t < N → P (t + 1) → P t) : ∀ t, t ≤ N → P t := by
  intro t ht
  obtain ⟨n, rfl⟩ : ∃ n, N = t + n := ⟨N - t, by omega⟩
  clear ht
  induction n generalizing t with
  | zero => exact he
  | succ n ih => exact hs t (by omega) (ih (t + 1) (by rw [show t + 1 + n = t + (n + 1) by omega]; exact he) (fun k hk => hs k (by omega)))
theorem nI_le' {a b : Nat} (ha : a < 2 ^ 31) (hb : b < 2 ^ 31) (h : nI a ≤ nI b) : a ≤ b := (nI_leI ha hb).mp h
theorem nI_lt' {a b : Nat} (ha : a < 2 ^ 31) (hb : b < 2 ^ 31) (h : nI a < nI b) : a < b := (nI_ltI ha hb).mp h
/-- bits of a set -/
def bitI (set : Int32) (k : Nat) : Prop := (set >>> (nI k &&& 31)) &&& 1 = 1
/-- what the things of a set are, together -/
def wSum (w : Nat → Int32) (set : Int32) : Nat → Int32
  | 0 => 0
  | n + 1 => if ((set >>> (nI n &&& 31)) &&& (1 : Int32)) = (1 : Int32) then wSum w set n + w n else wSum w set n
/-- the places of a row that hold a value, as bits -/
def tAt (w : Nat → Int32) (v : Int32) : Nat → Int32
  | 0 => 0
  | n + 1 => if w n = v then tAt w v n ||| ((1 : Int32) <<< (nI n &&& 31)) else tAt w v n
/-- how many bits -/
def popc (n : Nat) : Nat := n % 2 + n / 2 % 2 + n / 4 % 2 + n / 8 % 2 + n / 16 % 2 + n / 32 % 2
def pcI (x : Int32) : Int32 := nI (popc x.toNatClampNeg)
/-- a small set -/
def sm64 (x : Int32) : Prop := ∃ k : Nat, k < 64 ∧ x = nI k
/-- a row's first n places are v -/
def uF (m : pMem) (a n : Nat) (v : Int32) : pMem := (fun x y => if x = a ∧ y < n then v else m.1 x y, m.2.1, m.2.2)
theorem mI_uF (m : pMem) (a n : Nat) (v : Int32) (x y : Nat) : mI (uF m a n v) x y = if x = a ∧ y < n then v else mI m x y := rfl
theorem uF_0 (m : pMem) (a : Nat) (v : Int32) : uF m a 0 v = m := by
  unfold uF
  simp
theorem uF_succ (m : pMem) (a n : Nat) (v : Int32) : uI (uF m a n v) a n v = uF m a (n + 1) v := by
  unfold uF uI
  refine Prod.ext (funext fun x => funext fun y => ?_) rfl
  show (if x = a ∧ y = n then v else if x = a ∧ y < n then v else m.1 x y) = if x = a ∧ y < n + 1 then v else m.1 x y
  by_cases h1 : x = a <;> by_cases h2 : y = n <;> by_cases h3 : y < n <;> simp [h1, h2, h3] <;> omega
theorem mem_ext {m m' : pMem} (h1 : ∀ a k, mI m a k = mI m' a k) (h2 : ∀ a k, mL m a k = mL m' a k) (h3 : ∀ a k, mR m a k = mR m' a k) : m = m' :=
  Prod.ext (funext fun a => funext fun k => h1 a k) (Prod.ext (funext fun a => funext fun k => h2 a k) (funext fun a => funext fun k => h3 a k))
/-- a row copied from one's first n places -/
theorem uC_0 (m : pMem) (a b : Nat) : uC m a 0 b 0 0 = m := by
  refine mem_ext (fun x y => ?_) (fun _ _ => rfl) (fun _ _ => rfl)
  rw [mI_uC, if_neg (by omega)]
theorem uC_succ (m : pMem) (a b n : Nat) (h : a ≠ b) : uI (uC m a 0 b 0 n) b n (mI (uC m a 0 b 0 n) a n) = uC m a 0 b 0 (n + 1) := by
  refine mem_ext (fun x y => ?_) (fun _ _ => rfl) (fun _ _ => rfl)
  simp only [mI_uI, mI_uC]
  by_cases h1 : x = b
  · subst h1
    by_cases h2 : y = n
    · subst h2
      simp [h]
    · by_cases h3 : y < n
      · simp [h2, h3, show y < n + 1 by omega]
      · simp [h2, h3, show ¬ y < n + 1 by omega]
  · simp [h1]
