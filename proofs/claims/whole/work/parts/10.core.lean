/-! ===== an abstract heap: cells by numbers, each at the base's address and its number ===== -/
/-- what a cell is: an object of a class's number, or an array of a type and a length -/
abbrev pShp : Type := Nat ⊕ (FieldType × Nat)
/-- what the cells hold: ints, longs, references, by the cell's number and the place in it -/
abbrev pMem : Type := (Nat → Nat → Int32) × (Nat → Nat → Int64) × (Nat → Nat → Option Nat)
/-- a method: its name, its code, its locals, what it returns -/
abbrev pM : Type := MethodName × ByteArray × Nat × Option FieldType
/-- what stays: the classes' places, the arrays' classes, the base, addresses of what lies outside, the script's length, the script -/
abbrev pX : Type := va_G × (FieldType → ClassId) × Nat × (Nat → Nat) × Nat × (Nat → Int32)
abbrev pB (X : pX) : Nat := X.2.2.1
abbrev pO (X : pX) : Nat → Nat := X.2.2.2.1
abbrev pLn (X : pX) : Nat := X.2.2.2.2.1
abbrev pSc (X : pX) : Nat → Int32 := X.2.2.2.2.2
def mI (m : pMem) (a k : Nat) : Int32 := m.1 a k
def mL (m : pMem) (a k : Nat) : Int64 := m.2.1 a k
def mR (m : pMem) (a k : Nat) : Option Nat := m.2.2 a k
def uI (m : pMem) (a k : Nat) (v : Int32) : pMem := (fun x y => if x = a ∧ y = k then v else m.1 x y, m.2.1, m.2.2)
def uL (m : pMem) (a k : Nat) (v : Int64) : pMem := (m.1, fun x y => if x = a ∧ y = k then v else m.2.1 x y, m.2.2)
def uR (m : pMem) (a k : Nat) (v : Option Nat) : pMem := (m.1, m.2.1, fun x y => if x = a ∧ y = k then v else m.2.2 x y)
/-- a stretch of ints copied from one row to another -/
def uC (m : pMem) (a sp b dp n : Nat) : pMem := (fun x y => if x = b ∧ dp ≤ y ∧ y < dp + n then m.1 a (sp + (y - dp)) else m.1 x y, m.2.1, m.2.2)
/-- a cell is empty -/
def uZ (m : pMem) (a : Nat) : pMem := (fun x y => if x = a then 0 else m.1 x y, fun x y => if x = a then 0 else m.2.1 x y, fun x y => if x = a then none else m.2.2 x y)
def pty (ci : Nat) : Nat → FieldType := match ci with
  | 0 => tyX0
  | 1 => tyX1
  | 2 => tyX2
  | 3 => tyX3
  | 4 => tyX4
  | 5 => tyX5
  | 6 => tyX6
  | 7 => tyX7
  | 8 => tyX8
  | 9 => tyX9
  | 10 => tyX10
  | 11 => tyX11
  | _ => tyX12
def pN (ci : Nat) : Nat := match vwCl[ci]? with
  | some c => c.2.2
  | none => 0
/-- a field's value -/
def pfv (X : pX) (m : pMem) (a : Nat) (ty : FieldType) (k : Nat) : Value := match ty with
  | .long => .long (mL m a k)
  | .object _ => va_rf ((mR m a k).map (pB X + ·))
  | .array _ => va_rf ((mR m a k).map (pB X + ·))
  | _ => .int (mI m a k)
/-- an array's contents -/
def pav (X : pX) (m : pMem) (a : Nat) (ty : FieldType) : ((Nat → Int32) ⊕ (Nat → Int64) ⊕ (Nat → UInt32) ⊕ (Nat → UInt64) ⊕ (Nat → Option Nat)) := match ty with
  | .long => .inr (.inl (mL m a))
  | .object _ => .inr (.inr (.inr (.inr (fun j => (mR m a j).map (pB X + ·)))))
  | .array _ => .inr (.inr (.inr (.inr (fun j => (mR m a j).map (pB X + ·)))))
  | _ => .inl (mI m a)
def pcell (X : pX) (m : pMem) (a : Nat) (sh : pShp) : va_E := match sh with
  | .inl ci => .inr (ci, (List.range (pN ci)).map (fun k => pfv X m a (pty ci k) k))
  | .inr q => .inl (X.2.1 q.1, q.2, pav X m a q.1)
def pws (X : pX) (S : List pShp) (m : pMem) : va_W := S.mapIdx (fun k sh => (pB X + k, pcell X m k sh))
/-- how many slots cells have -/
def psl1 (sh : pShp) : Nat := match sh with
  | .inl ci => pN ci
  | .inr q => q.2
def psl : List pShp → Nat
  | [] => 0
  | sh :: S => psl1 sh + psl S
theorem psl_app (S T : List pShp) : psl (S ++ T) = psl S + psl T := by
  induction S with
  | nil => simp [psl]
  | cons a S ih => simp only [List.cons_append, psl, ih]; omega
/-- a value of ours, as the machine has it -/
def ptr (X : pX) (v : Value) : Value := match v with
  | .ref a => .ref (pB X + a)
  | .retAddr n => .ref (pO X n)
  | v => v
abbrev ptl (X : pX) (q : Nat × Value) : Nat × Value := (q.1, ptr X q.2)
theorem ptr_cat (X : pX) (v : Value) : (ptr X v).category = v.category := by cases v <;> rfl
theorem pws_get {X : pX} {S : List pShp} {m : pMem} {k : Nat} {sh : pShp} (h : S[k]? = some sh) : (pws X S m)[k]? = some (pB X + k, pcell X m k sh) := by
  simp [pws, List.getElem?_mapIdx, h]
theorem pws_of {X : pX} {S : List pShp} {m : pMem} {k : Nat} {q : Nat × va_E} (h : (pws X S m)[k]? = some q) : ∃ sh, S[k]? = some sh ∧ q = (pB X + k, pcell X m k sh) := by
  simp only [pws, List.getElem?_mapIdx, Option.map_eq_some_iff] at h
  obtain ⟨sh, h1, h2⟩ := h
  exact ⟨sh, h1, h2.symm⟩
def pA (X : pX) : Nat → Prop := fun q => pB X ≤ q
theorem pws_D (X : pX) (S : List pShp) (m : pMem) : va_D (pA X) (pws X S m) := by
  refine ⟨fun i j p q hi hj e => ?_, fun k q hk => ?_⟩
  · obtain ⟨_, -, rfl⟩ := pws_of hi
    obtain ⟨_, -, rfl⟩ := pws_of hj
    have e' : pB X + i = pB X + j := e
    omega
  · obtain ⟨_, -, rfl⟩ := pws_of hk
    exact Nat.le_add_right _ _
theorem pws_set {X : pX} {S : List pShp} {m m' : pMem} {k : Nat} {sh : pShp} {e : va_E} (h : S[k]? = some sh) (hc : pcell X m' k sh = e) (ho : ∀ j sh', j ≠ k → pcell X m' j sh' = pcell X m j sh') :
    (pws X S m).set k (pB X + k, e) = pws X S m' := by
  apply List.ext_getElem?
  intro j
  rw [List.getElem?_set]
  by_cases hj : k = j
  · subst hj
    rw [if_pos rfl, pws_get h, hc]
    have hl : k < (pws X S m).length := by
      have := (List.getElem?_eq_some_iff.mp h).1
      simpa [pws] using this
    rw [if_pos hl]
  · rw [if_neg hj]
    cases hs : S[j]? with
    | none =>
      have h1 : (pws X S m)[j]? = none := by simp [pws, List.getElem?_mapIdx, hs]
      have h2 : (pws X S m')[j]? = none := by simp [pws, List.getElem?_mapIdx, hs]
      rw [h1, h2]
    | some sh' => rw [pws_get hs, pws_get hs, ho j sh' (fun e => hj e.symm)]
theorem pcell_ne {X : pX} {m m' : pMem} {a : Nat} (h1 : ∀ k, mI m' a k = mI m a k) (h2 : ∀ k, mL m' a k = mL m a k) (h3 : ∀ k, mR m' a k = mR m a k) (sh : pShp) : pcell X m' a sh = pcell X m a sh := by
  have e1 : mI m' a = mI m a := funext h1
  have e2 : mL m' a = mL m a := funext h2
  cases sh with
  | inl ci =>
    simp only [pcell, pfv, h1, h2, h3]
  | inr q =>
    simp only [pcell, pav, e1, e2, h3]
theorem mI_uI (m : pMem) (a k : Nat) (v : Int32) (x y : Nat) : mI (uI m a k v) x y = if x = a ∧ y = k then v else mI m x y := rfl
theorem mL_uI (m : pMem) (a k : Nat) (v : Int32) (x y : Nat) : mL (uI m a k v) x y = mL m x y := rfl
theorem mR_uI (m : pMem) (a k : Nat) (v : Int32) (x y : Nat) : mR (uI m a k v) x y = mR m x y := rfl
theorem mI_uL (m : pMem) (a k : Nat) (v : Int64) (x y : Nat) : mI (uL m a k v) x y = mI m x y := rfl
theorem mL_uL (m : pMem) (a k : Nat) (v : Int64) (x y : Nat) : mL (uL m a k v) x y = if x = a ∧ y = k then v else mL m x y := rfl
theorem mR_uL (m : pMem) (a k : Nat) (v : Int64) (x y : Nat) : mR (uL m a k v) x y = mR m x y := rfl
theorem mI_uR (m : pMem) (a k : Nat) (v : Option Nat) (x y : Nat) : mI (uR m a k v) x y = mI m x y := rfl
theorem mL_uR (m : pMem) (a k : Nat) (v : Option Nat) (x y : Nat) : mL (uR m a k v) x y = mL m x y := rfl
theorem mR_uR (m : pMem) (a k : Nat) (v : Option Nat) (x y : Nat) : mR (uR m a k v) x y = if x = a ∧ y = k then v else mR m x y := rfl
theorem mI_uC (m : pMem) (a sp b dp n : Nat) (x y : Nat) : mI (uC m a sp b dp n) x y = if x = b ∧ dp ≤ y ∧ y < dp + n then mI m a (sp + (y - dp)) else mI m x y := rfl
theorem mL_uC (m : pMem) (a sp b dp n : Nat) (x y : Nat) : mL (uC m a sp b dp n) x y = mL m x y := rfl
theorem mR_uC (m : pMem) (a sp b dp n : Nat) (x y : Nat) : mR (uC m a sp b dp n) x y = mR m x y := rfl
theorem mI_uZ (m : pMem) (a : Nat) (x y : Nat) : mI (uZ m a) x y = if x = a then 0 else mI m x y := rfl
theorem mL_uZ (m : pMem) (a : Nat) (x y : Nat) : mL (uZ m a) x y = if x = a then 0 else mL m x y := rfl
theorem mR_uZ (m : pMem) (a : Nat) (x y : Nat) : mR (uZ m a) x y = if x = a then none else mR m x y := rfl
/-- the array classes of a world -/
def ptyl : List FieldType := [.int, .byte, .boolean, .long, .object "LoadRoad$Rule", .object "LoadRoad$State", .object "LoadRoad$World", .array .int]
def ptys (X : pX) : List (ClassId × FieldType) := ptyl.map (fun t => (X.2.1 t, t))
theorem ptys_at {X : pX} {ty : FieldType} (h : ty ∈ ptyl) : ∃ t0 : Nat, (ptys X)[t0]? = some (X.2.1 ty, ty) := by
  obtain ⟨i, hi⟩ := List.getElem?_of_mem h
  exact ⟨i, by simp [ptys, List.getElem?_map, hi]⟩
