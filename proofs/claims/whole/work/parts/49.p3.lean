/-! ===== a day ===== -/
abbrev Row : Type := Nat → Int32
/-- the words of a person q and a thing t -/
def wds (we wo fu pa : Row) (Sg dy : Int32) (pl wh : Row) (n q t : Nat) : Row := fun j => match j with
  | 0 => nI q
  | 1 => nI t
  | 2 => we t
  | 3 => wo t
  | 4 => if wh t = nI q then 1 else 0
  | 5 => nI (cnt wh (nI q) n)
  | 6 => dSum we wh (nI q) n
  | 7 => pl q
  | 8 => Sg - pl q
  | 9 => pa q
  | 10 => fu (pl q).toNatClampNeg
  | _ => dy
/-- who is at a place carries what the rule says: t things are through -/
def pk (ev : Row → Nat → Bool) (H q l : Int32) (n : Nat) : Nat → Row → Row
  | 0, wh => wh
  | t + 1, wh => if pk ev H q l n t wh t = q ∨ pk ev H q l n t wh t = l then
      (if ev (pk ev H q l n t wh) t = true then (if nI (cnt (pk ev H q l n t wh) q n) < H then upd (pk ev H q l n t wh) t q else pk ev H q l n t wh) else upd (pk ev H q l n t wh) t l)
    else pk ev H q l n t wh
/-- who has come, places, how far, where -/
abbrev DS : Type := Int32 × Row × Row × Row
/-- a day of one. evq: what the rule says, if one is in force -/
def dayS (rl : Bool) (evq : Row → Nat → Row → Nat → Bool) (fu pa we : Row) (H Sg : Int32) (n T : Nat) (s : DS) (q : Nat) : DS :=
  if s.2.1 q < Sg then
    (let wh := if rl = true ∧ s.2.2.1 q = 0 then pk (evq s.2.1 q) H (nI q) (10 + s.2.1 q) n T s.2.2.2 else s.2.2.2
     if fu (s.2.1 q).toNatClampNeg + dSum we wh (nI q) n ≤ s.2.2.1 q + pa q then (s.1 ||| ((1 : Int32) <<< (nI q &&& 31)), upd s.2.1 q (s.2.1 q + 1), upd s.2.2.1 q 0, wh)
     else (s.1, s.2.1, upd s.2.2.1 q (s.2.2.1 q + pa q), wh))
  else s
/-- a day: q people are through -/
def dayL (rl : Bool) (evq : Row → Nat → Row → Nat → Bool) (fu pa we : Row) (H Sg : Int32) (n T : Nat) (s0 : DS) : Nat → DS
  | 0 => s0
  | q + 1 => dayS rl evq fu pa we H Sg n T (dayL rl evq fu pa we H Sg n T s0 q) q
theorem dayS_pl (rl : Bool) (evq : Row → Nat → Row → Nat → Bool) (fu pa we : Row) (H Sg : Int32) (n T : Nat) (s : DS) (q k : Nat) (h : k ≠ q) : (dayS rl evq fu pa we H Sg n T s q).2.1 k = s.2.1 k := by
  unfold dayS
  by_cases h1 : s.2.1 q < Sg
  · rw [if_pos h1]
    by_cases h2 : fu (s.2.1 q).toNatClampNeg + dSum we (if rl = true ∧ s.2.2.1 q = 0 then pk (evq s.2.1 q) H (nI q) (10 + s.2.1 q) n T s.2.2.2 else s.2.2.2) (nI q) n ≤ s.2.2.1 q + pa q
    · simp only [if_pos h2]
      exact pk_un h
    · simp only [if_neg h2]
  · rw [if_neg h1]
theorem dayL_keep (rl : Bool) (evq : Row → Nat → Row → Nat → Bool) (fu pa we : Row) (H Sg : Int32) (n T : Nat) (s0 : DS) : ∀ i k, i ≤ k → (dayL rl evq fu pa we H Sg n T s0 i).2.1 k = s0.2.1 k
  | 0, _, _ => rfl
  | i + 1, k, h => by
    rw [dayL, dayS_pl _ _ _ _ _ _ _ _ _ _ _ _ (by omega)]
    exact dayL_keep rl evq fu pa we H Sg n T s0 i k (by omega)
/-- places are on the road -/
def plOk (pl : Row) (P Sg : Nat) : Prop := ∀ q, q < P → ∃ p, p ≤ Sg ∧ pl q = nI p
