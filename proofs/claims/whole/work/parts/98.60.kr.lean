/-! ===== the heap while it is being made: the first cells of SH ===== -/
abbrev SK (n : Nat) : List pShp := SH.take n
theorem SK_len {n : Nat} (h : n ≤ 572) : (SK n).length = n := by rw [List.length_take, SH_len]; omega
theorem SK_get {n a : Nat} {sh : pShp} (h : a < n) (c : SH[a]? = some sh) : (SK n)[a]? = some sh := by rw [List.getElem?_take_of_lt h]; exact c
theorem SK_succ {n : Nat} {sh : pShp} (c : SH[n]? = some sh) : SK n ++ [sh] = SK (n + 1) := by
  show _ = SH.take (n + 1)
  rw [List.take_add_one, c]
  rfl
theorem SK_rep {sh : pShp} : ∀ (N n : Nat), (∀ j, j < N → SH[n + j]? = some sh) → SK n ++ List.replicate N sh = SK (n + N)
  | 0, n, _ => by simp
  | N + 1, n, h => by
    have e : List.replicate (N + 1) sh = [sh] ++ List.replicate N sh := rfl
    rw [e, ← List.append_assoc, SK_succ (n := n) (h 0 (by omega)), SK_rep N (n + 1) (fun j hj => by rw [show n + 1 + j = n + (j + 1) by omega]; exact h (j + 1) (by omega)), show n + 1 + N = n + (N + 1) by omega]
theorem SK_app {a b : Nat} (h : a ≤ b) : SK b = SK a ++ (SK b).drop a := by
  have e := List.take_append_drop a (SK b)
  rw [List.take_take, Nat.min_eq_left h] at e
  exact e.symm
theorem SK_psl {a b : Nat} (h : a ≤ b) : psl (SK a) ≤ psl (SK b) := by
  rw [SK_app h, psl_app]; omega
theorem SK_psl1 {n : Nat} {sh : pShp} (c : SH[n]? = some sh) : psl (SK (n + 1)) = psl (SK n) + psl1 sh := by
  rw [← SK_succ c, psl_app]; rfl
theorem SK_end : SK 572 = SH := List.take_of_length_le (Nat.le_of_eq SH_len)
/-- nothing from a cell on -/
def Zr (m : pMem) (n : Nat) : Prop := ∀ x, n ≤ x → ∀ y, mI m x y = 0 ∧ mL m x y = 0 ∧ mR m x y = none
theorem Zr_up {m : pMem} {a b : Nat} (h : Zr m a) (hb : a ≤ b) : Zr m b := fun x hx y => h x (Nat.le_trans hb hx) y
theorem Zr_uR {m : pMem} {a n k : Nat} {v : Option Nat} (h : Zr m n) (ha : a < n) : Zr (uR m a k v) n := fun x hx y => by
  refine ⟨(h x hx y).1, (h x hx y).2.1, ?_⟩
  rw [mR_uR, if_neg (by omega)]
  exact (h x hx y).2.2
theorem Zr_uI {m : pMem} {a n k : Nat} {v : Int32} (h : Zr m n) (ha : a < n) : Zr (uI m a k v) n := fun x hx y => by
  refine ⟨?_, (h x hx y).2.1, (h x hx y).2.2⟩
  rw [mI_uI, if_neg (by omega)]
  exact (h x hx y).1
theorem Zr_uM {m : pMem} {a N : Nat} : Zr (uM m a N) (a + 1 + N) := fun x hx y => by
  refine ⟨?_, ?_, ?_⟩
  · rw [mI_uM, if_pos (by omega)]
  · rw [mL_uM, if_pos (by omega)]
  · rw [mR_uM, if_neg (by omega), if_pos (by omega)]
theorem uZ_z {m : pMem} {n : Nat} (h : Zr m n) : uZ m n = m := by
  obtain ⟨m1, m2, m3⟩ := m
  refine Prod.ext (funext fun x => funext fun y => ?_) (Prod.ext (funext fun x => funext fun y => ?_) (funext fun x => funext fun y => ?_))
  · show (if x = n then 0 else m1 x y) = m1 x y
    split
    · rename_i e; exact ((h x (Nat.le_of_eq e.symm) y).1).symm
    · rfl
  · show (if x = n then 0 else m2 x y) = m2 x y
    split
    · rename_i e; exact ((h x (Nat.le_of_eq e.symm) y).2.1).symm
    · rfl
  · show (if x = n then none else m3 x y) = m3 x y
    split
    · rename_i e; exact ((h x (Nat.le_of_eq e.symm) y).2.2).symm
    · rfl
/-- room for the cell n -/
def KR (R : Room) (n0 s0 n : Nat) : Prop := n0 ≤ n ∧ s0 ≤ psl (SK n) ∧ n < 572 ∧ n + 1 - n0 ≤ R.cells ∧ psl (SK (n + 1)) - s0 ≤ R.slots
theorem KR_f {d a b n : Nat} (h0 : a ≤ n) (h1 : n < b) (h2 : b ≤ 572) : KR (prm d (SK a) (SK b)) (SK a).length (psl (SK a)) n := by
  have e1 := SK_len (n := a) (by omega)
  have e2 := SK_len (n := b) h2
  refine ⟨by omega, SK_psl h0, by omega, ?_, ?_⟩
  · show n + 1 - (SK a).length ≤ (SK b).length - (SK a).length; omega
  · show psl (SK (n + 1)) - psl (SK a) ≤ psl (SK b) - psl (SK a)
    have := SK_psl (a := n + 1) (b := b) h1
    omega
theorem SK_pslH (n : Nat) (h : n ≤ 572) : psl (SK n) ≤ 7302250 := by
  have h1 := SK_psl h
  rw [SK_end] at h1
  have e2 : psl SH ≤ 7302250 := by decide +kernel
  omega
theorem KR_l {n : Nat} (h : n < 572) : KR room_1 0 0 n := by
  refine ⟨Nat.zero_le _, Nat.zero_le _, h, ?_, ?_⟩
  · show n + 1 - 0 ≤ 600000; omega
  · show psl (SK (n + 1)) - 0 ≤ 7302250
    have := SK_pslH (n + 1) h
    omega
theorem rmK {Y2 : pM} {d2 d a b n n2 : Nat} (h : d2 + 1 ≤ d) (hL : Y2.2.2.1 ≤ 40) (h0 : a ≤ n) (h1 : n ≤ n2) (h2 : n2 ≤ b) (h3 : b ≤ 572) : pRm (prm d (SK a) (SK b)) (SK a).length (psl (SK a)) Y2 d2 (SK n) (SK n2) := by
  have e1 := SK_len (n := a) (by omega)
  have e2 := SK_len (n := b) h3
  have e3 := SK_len (n := n) (by omega)
  have e4 := SK_len (n := n2) (by omega)
  refine ⟨⟨h, by show 8 + (Y2.2.2.1 + 11) + 60 * d2 ≤ 60 * d; omega⟩, ⟨by omega, SK_psl h1⟩, ?_, ?_⟩
  · show (SK n2).length - (SK a).length ≤ (SK b).length - (SK a).length; omega
  · show psl (SK n2) - psl (SK a) ≤ psl (SK b) - psl (SK a)
    have := SK_psl h2
    omega
theorem rmKL {Y2 : pM} {d n n2 : Nat} (h : d ≤ 60) (hL : Y2.2.2.1 ≤ 1000) (h1 : n ≤ n2) (h3 : n2 ≤ 572) : pRm room_1 0 0 Y2 d (SK n) (SK n2) := by
  have e3 := SK_len (n := n) (by omega)
  have e4 := SK_len (n := n2) (by omega)
  refine ⟨⟨?_, ?_⟩, ⟨by omega, SK_psl h1⟩, ?_, ?_⟩
  · show d + 1 ≤ 2048; omega
  · show 8 + (Y2.2.2.1 + 11) + 60 * d ≤ 84000; omega
  · show (SK n2).length - 0 ≤ 600000; omega
  · show psl (SK n2) - 0 ≤ 7302250
    have := SK_pslH n2 h3
    omega
theorem enK {d a b : Nat} : pEnd (prm d (SK a) (SK b)) (SK a).length (psl (SK a)) (SK b) := ⟨rfl, rfl⟩
section T63
variable {X : pX} {Y : pM} {R : Room} {n0 s0 : Nat} {Z : List Frame → Array Value → State → State → Prop} {pc : Nat} {ls : List (Nat × Value)} {st : List Value} {m : pMem} {idx n : Nat}
theorem g_newN {S : List pShp} {ci : Nat} {C : String} {T : u_T} {N : Nat} (hl : S.length = n) (hd : decode Y.2.1 pc = .ok (.new idx, 3)) (hck : pCk ci C T N) (hw : Cond.classLink Y.1.cls idx C ∈ pgl ∧ Cond.instantiable C N ∈ pgl ∧ Cond.initialized C ∈ pgl) (hR : n - n0 + 1 ≤ R.cells ∧ psl S - s0 + N ≤ R.slots)
    (k : pGo X Y R n0 s0 Z (pc + 3) ls (.ref n :: st) (S ++ [.inl ci]) (uZ m n)) : pGo X Y R n0 s0 Z pc ls st S m := by
  subst hl; exact g_new hd hck hw hR k
theorem g_newaN {S : List pShp} {at_ : ArrayType} {ty : FieldType} {v : Int32} {N : Nat} (hl : S.length = n) (hd : decode Y.2.1 pc = .ok (.newarray at_, 2)) (hat : newarray.typeOf at_ = ty) (hty : ty ∈ [FieldType.int, .byte, .boolean, .long]) (hw : Cond.arrayClass ty ∈ pgl) (hn : ¬ v < 0) (hN : v.toNatClampNeg = N) (hb : N ≤ 60000) (hR : n - n0 + 1 ≤ R.cells ∧ psl S - s0 + N ≤ R.slots)
    (k : pGo X Y R n0 s0 Z (pc + 2) ls (.ref n :: st) (S ++ [.inr (ty, N)]) (uZ m n)) : pGo X Y R n0 s0 Z pc ls (.int v :: st) S m := by
  subst hl; exact g_newa hd hat hty hw hn hN hb hR k
theorem g_newqN {S : List pShp} {C : String} {v : Int32} {N : Nat} (hl : S.length = n) (hd : decode Y.2.1 pc = .ok (.anewarray idx, 3)) (hty : FieldType.object C ∈ ptyl) (hw : Cond.classLink Y.1.cls idx C ∈ pgl) (hov : ∀ s, pOv s → va_AO C s) (hn : ¬ v < 0) (hN : v.toNatClampNeg = N) (hb : N ≤ 60000) (hR : n - n0 + 1 ≤ R.cells ∧ psl S - s0 + N ≤ R.slots)
    (k : pGo X Y R n0 s0 Z (pc + 3) ls (.ref n :: st) (S ++ [.inr (.object C, N)]) (uZ m n)) : pGo X Y R n0 s0 Z pc ls (.int v :: st) S m := by
  subst hl; exact g_newq hd hty hw hov hn hN hb hR k
theorem g_mnewN {S : List pShp} {n1 n2 : Int32} {N n3 : Nat} (hl : S.length = n) (hd : decode Y.2.1 pc = .ok (.multianewarray idx 2, 4)) (hw : Cond.classLink Y.1.cls idx "[[I" ∈ pgl) (hN : n1.toNatClampNeg = N) (hn : n2.toNatClampNeg = n3) (h1 : ¬ n1 < 0) (h10 : ¬ n1 = 0) (h2 : ¬ n2 < 0) (hb1 : N ≤ 60000) (hb2 : n3 ≤ 60000) (hR : n - n0 + 1 + N ≤ R.cells ∧ psl S - s0 + N + N * n3 ≤ R.slots)
    (k : pGo X Y R n0 s0 Z (pc + 4) ls (.ref n :: st) (S ++ [.inr (.array .int, N)] ++ List.replicate N (.inr (.int, n3))) (uM m n N)) : pGo X Y R n0 s0 Z pc ls (.int n2 :: .int n1 :: st) S m := by
  subst hl; exact g_mnew hd hw hN hn h1 h10 h2 hb1 hb2 hR k
theorem K_new {ci : Nat} {C : String} {T : u_T} {N : Nat} (hK : KR R n0 s0 n) (c : SH[n]? = some (.inl ci)) (hz : Zr m n) (hd : decode Y.2.1 pc = .ok (.new idx, 3)) (hck : pCk ci C T N) (hw : Cond.classLink Y.1.cls idx C ∈ pgl ∧ Cond.instantiable C N ∈ pgl ∧ Cond.initialized C ∈ pgl)
    (k : pGo X Y R n0 s0 Z (pc + 3) ls (.ref n :: st) (SK (n + 1)) m) : pGo X Y R n0 s0 Z pc ls st (SK n) m := by
  obtain ⟨h1, h2, h3, h4, h5⟩ := hK
  rw [SK_psl1 c] at h5
  have e : psl1 (.inl ci) = N := pN_of hck
  refine g_newN (SK_len (by omega)) hd hck hw ⟨by omega, by omega⟩ ?_
  rw [SK_succ c, uZ_z hz]
  exact k
theorem K_newa {at_ : ArrayType} {ty : FieldType} {v : Int32} {N : Nat} (hK : KR R n0 s0 n) (c : SH[n]? = some (.inr (ty, N))) (hz : Zr m n) (hd : decode Y.2.1 pc = .ok (.newarray at_, 2)) (hat : newarray.typeOf at_ = ty) (hty : ty ∈ [FieldType.int, .byte, .boolean, .long]) (hw : Cond.arrayClass ty ∈ pgl) (hn : ¬ v < 0) (hN : v.toNatClampNeg = N) (hb : N ≤ 60000)
    (k : pGo X Y R n0 s0 Z (pc + 2) ls (.ref n :: st) (SK (n + 1)) m) : pGo X Y R n0 s0 Z pc ls (.int v :: st) (SK n) m := by
  obtain ⟨h1, h2, h3, h4, h5⟩ := hK
  rw [SK_psl1 c] at h5
  have e : psl1 (.inr (ty, N)) = N := rfl
  refine g_newaN (SK_len (by omega)) hd hat hty hw hn hN hb ⟨by omega, by omega⟩ ?_
  rw [SK_succ c, uZ_z hz]
  exact k
theorem K_newq {C : String} {v : Int32} {N : Nat} (hK : KR R n0 s0 n) (c : SH[n]? = some (.inr (.object C, N))) (hz : Zr m n) (hd : decode Y.2.1 pc = .ok (.anewarray idx, 3)) (hty : FieldType.object C ∈ ptyl) (hw : Cond.classLink Y.1.cls idx C ∈ pgl) (hov : ∀ s, pOv s → va_AO C s) (hn : ¬ v < 0) (hN : v.toNatClampNeg = N) (hb : N ≤ 60000)
    (k : pGo X Y R n0 s0 Z (pc + 3) ls (.ref n :: st) (SK (n + 1)) m) : pGo X Y R n0 s0 Z pc ls (.int v :: st) (SK n) m := by
  obtain ⟨h1, h2, h3, h4, h5⟩ := hK
  rw [SK_psl1 c] at h5
  have e : psl1 (.inr (FieldType.object C, N)) = N := rfl
  refine g_newqN (SK_len (by omega)) hd hty hw hov hn hN hb ⟨by omega, by omega⟩ ?_
  rw [SK_succ c, uZ_z hz]
  exact k
theorem K_mnew {n1 n2 : Int32} {N n3 : Nat} (hK : KR R n0 s0 (n + N)) (h0 : n0 ≤ n ∧ s0 ≤ psl (SK n)) (c : SH[n]? = some (.inr (.array .int, N))) (c2 : ∀ j, j < N → SH[n + 1 + j]? = some (.inr (.int, n3))) (hd : decode Y.2.1 pc = .ok (.multianewarray idx 2, 4)) (hw : Cond.classLink Y.1.cls idx "[[I" ∈ pgl) (hN : n1.toNatClampNeg = N) (hn : n2.toNatClampNeg = n3) (h1 : ¬ n1 < 0) (h10 : ¬ n1 = 0) (h2 : ¬ n2 < 0) (hb1 : N ≤ 60000) (hb2 : n3 ≤ 60000)
    (k : pGo X Y R n0 s0 Z (pc + 4) ls (.ref n :: st) (SK (n + 1 + N)) (uM m n N)) : pGo X Y R n0 s0 Z pc ls (.int n2 :: .int n1 :: st) (SK n) m := by
  obtain ⟨q1, q2, q3, q4, q5⟩ := hK
  have hpr : ∀ k, psl (List.replicate k (Sum.inr (FieldType.int, n3))) = k * n3 := fun k => by
    induction k with
    | zero => simp [psl]
    | succ k ih => rw [List.replicate_succ]; simp only [psl, psl1]; rw [ih, Nat.succ_mul]; omega
  have e : psl (SK (n + N + 1)) = psl (SK n) + N + N * n3 := by
    rw [show n + N + 1 = n + 1 + N by omega, ← SK_rep N (n + 1) c2, psl_app, SK_psl1 c, hpr]
    rfl
  rw [e] at q5
  refine g_mnewN (SK_len (by omega)) hd hw hN hn h1 h10 h2 hb1 hb2 ⟨by omega, by omega⟩ ?_
  rw [SK_succ c, SK_rep N (n + 1) c2]
  exact k
end T63
