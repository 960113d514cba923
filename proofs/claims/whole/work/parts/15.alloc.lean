/-! ===== making cells ===== -/
theorem pcell_uZ (X : pX) (m : pMem) (a : Nat) (b : Nat) (sh : pShp) (h : b ≠ a) : pcell X (uZ m a) b sh = pcell X m b sh :=
  pcell_ne (X := X) (m := m) (m' := uZ m a) (a := b) (fun j => by simp [mI_uZ, h]) (fun j => by simp [mL_uZ, h]) (fun j => by simp [mR_uZ, h]) sh
/-- one more cell -/
theorem p_push {X : pX} {S : List pShp} {m : pMem} {H H1 : Heap} {sh : pShp} (hP : va_P X.1 vwCl (pws X S m) H) (hk : ∀ q : Nat, q < pB X + S.length → H1[q]? = H[q]?) (hz : pB X + S.length ≤ H.size) (hc : va_at X.1 vwCl (pB X + S.length, pcell X (uZ m S.length) S.length sh) H1) : va_P X.1 vwCl (pws X (S ++ [sh]) (uZ m S.length)) H1 := by
  intro k q hq
  obtain ⟨sh', h1, rfl⟩ := pws_of hq
  by_cases hl : k < S.length
  · rw [List.getElem?_append_left hl] at h1
    rw [pcell_uZ X m S.length k sh' (Nat.ne_of_lt hl)]
    exact (hP k _ (pws_get h1)).kept (hk _ (by show pB X + k < _; omega))
  · have hk2 : k < (S ++ [sh]).length := (List.getElem?_eq_some_iff.mp h1).1
    have hk3 : k = S.length := by simp at hk2; omega
    subst hk3
    rw [List.getElem?_append_right (Nat.le_refl _), Nat.sub_self] at h1
    cases h1
    exact hc
theorem p_SA {X : pX} {H0 H H1 : Heap} {locs : List Loc} (hS : va_S (pA X) H0 H locs) (hz : H.size ≤ H1.size) (hk : ∀ q : Nat, q < H.size → H1[q]? = H[q]?) : va_S (pA X) H0 H1 locs :=
  ⟨Nat.le_trans hS.1 hz, fun q h1 h2 => (hk q (Nat.lt_of_lt_of_le h1 hS.1)).trans (hS.2.1 q h1 h2), hS.2.2⟩
theorem p_def {X : pX} {m : pMem} {a : Nat} {ty : FieldType} (j : Nat) (h : ty ≠ .float ∧ ty ≠ .double) : defaultValue ty = pfv X (uZ m a) a ty j := by
  cases ty <;> first | (simp [pfv, defaultValue, mI_uZ, mL_uZ, mR_uZ, va_rf]; done) | (exact absurd rfl h.1) | (exact absurd rfl h.2)
theorem pty_ok (ci k : Nat) (C : String) (T : u_T) (N : Nat) (h : pCk ci C T N) (hk : k < N) : pty ci k ≠ .float ∧ pty ci k ≠ .double := by
  have hall : ∀ c, c < 13 → ∀ j, j < pN c → pty c j ≠ .float ∧ pty c j ≠ .double := by decide +kernel
  have hci : ci < 13 := (List.getElem?_eq_some_iff.mp h.1).1
  exact hall ci hci k (by rw [pN_of h]; exact hk)
section PN
variable {X : pX} {Y : pM} {R : Room} {n0 s0 : Nat} {Z : List Frame → Array Value → State → State → Prop} {pc : Nat} {ls : List (Nat × Value)} {st : List Value} {S : List pShp} {m : pMem} {idx : Nat}
theorem g_new {ci : Nat} {C : String} {T : u_T} {N : Nat} (hd : decode Y.2.1 pc = .ok (.new idx, 3)) (hck : pCk ci C T N) (hw : Cond.classLink Y.1.cls idx C ∈ pgl ∧ Cond.instantiable C N ∈ pgl ∧ Cond.initialized C ∈ pgl) (hR : S.length - n0 + 1 ≤ R.cells ∧ psl S - s0 + N ≤ R.slots)
    (k : pGo X Y R n0 s0 Z (pc + 3) ls (.ref S.length :: st) (S ++ [.inl ci]) (uZ m S.length)) : pGo X Y R n0 s0 Z pc ls st S m := by
  intro p l e s mi args below meth c H locs lsA hC hP hS hl hn0 hs T0 hT Xs
  have hz := p_size Xs hT hP hS hC.2.2.2.2.2.2.2.2.2 hn0
  have ts := hC.2.2.2.2.2.2.2.1
  have hKn := hC.2.2.2.2.2.2.2.2.1.1.1 ci _ hck.1
  refine W.newcK (h := pB X + S.length) hC.1 hC.2.1 hC.2.2.2.2.2.2.1 (ts _ hw.1) (ts _ hw.2.1) (ts _ hw.2.2) (g := F0 mi pc lsA (st.map (ptr X))) rfl hd hR.1 hR.2 hKn.2.1 hz (fun H1 kC hkC e1 z1 o1 => ?_) T0 hT Xs
  have hcell : va_at X.1 vwCl (pB X + S.length, pcell X (uZ m S.length) S.length (.inl ci)) H1 := by
    refine ⟨_, hck.1, (u_born (pty ci) ts hck.2.1 hKn hkC e1 hck.2.2.1).to (fun j hj => ?_)⟩
    show defaultValue (pty ci j) = List.getD _ j .null
    rw [List.getD_eq_getElem?_getD, p_fs hck hj]
    exact p_def j (pty_ok ci j C T N hck hj)
  have hP1 := p_push hP o1 (Nat.le_of_eq hz.symm) hcell
  have hl1 : (S ++ [Sum.inl ci]).length = S.length + 1 := by simp
  have hl2 : psl (S ++ [Sum.inl ci]) = psl S + N := by rw [psl_app]; simp [psl, psl1, pN_of hck]
  have hk := k p l e s mi args below meth c H1 locs lsA hC hP1 (p_SA hS (by omega) (fun q hq => o1 q (by omega))) hl (by omega) (by omega)
  rw [hl1, hl2, Nat.sub_add_comm hn0, Nat.sub_add_comm hs] at hk
  exact hk
theorem p_cls {s : State} {ty : FieldType} (hK : va_K X.1 vwCl (ptys X) s) (h : ty ∈ ptyl) : ArrOfT s (X.2.1 ty) ty ∧ va_RA s (X.2.1 ty) ty := by
  obtain ⟨t0, ht⟩ := ptys_at (X := X) h
  exact hK.2 t0 _ ht
/-- new int[n], boolean[n], byte[n], long[n] -/
theorem g_newa {at_ : ArrayType} {ty : FieldType} {n : Int32} {N : Nat} (hd : decode Y.2.1 pc = .ok (.newarray at_, 2)) (hat : newarray.typeOf at_ = ty) (hty : ty ∈ [FieldType.int, .byte, .boolean, .long]) (hw : Cond.arrayClass ty ∈ pgl) (hn : ¬ n < 0) (hN : n.toNatClampNeg = N) (hb : N ≤ 60000) (hR : S.length - n0 + 1 ≤ R.cells ∧ psl S - s0 + N ≤ R.slots)
    (k : pGo X Y R n0 s0 Z (pc + 2) ls (.ref S.length :: st) (S ++ [.inr (ty, N)]) (uZ m S.length)) : pGo X Y R n0 s0 Z pc ls (.int n :: st) S m := by
  intro p l e s mi args below meth c H locs lsA hC hP hS hl hn0 hs T0 hT Xs
  have hz := p_size Xs hT hP hS hC.2.2.2.2.2.2.2.2.2 hn0
  have ts := hC.2.2.2.2.2.2.2.1
  subst hat
  have hin : newarray.typeOf at_ ∈ ptyl := by
    simp only [List.mem_cons, List.not_mem_nil, or_false] at hty
    rcases hty with h | h | h | h <;> rw [h] <;> decide
  have hcls := (p_cls (X := X) hC.2.2.2.2.2.2.2.2.1.1 hin).2
  refine va_newaK (h := pB X + S.length) hC.1 hC.2.1 (ts _ hw) (g := F0 mi pc lsA (.int n :: st.map (ptr X))) rfl hd rfl hn hN (by cases at_ <;> simp [newarray.typeOf, componentBytes] <;> omega) hR.1 hR.2 hz (fun H1 cA e1 z1 o1 hAr hNm => ?_) T0 hT Xs
  have hcA : cA = X.2.1 (newarray.typeOf at_) := by
    simp only [List.mem_cons, List.not_mem_nil, or_false] at hty
    rcases hty with h | h | h | h <;> rw [h] at hcls hNm ⊢ <;> exact Option.some.inj (hNm.symm.trans hcls)
  have hcell : va_at X.1 vwCl (pB X + S.length, pcell X (uZ m S.length) S.length (.inr (newarray.typeOf at_, N))) H1 := by
    show H1[pB X + S.length]? = some (vp_cell _ _)
    rw [e1, hcA]
    simp only [List.mem_cons, List.not_mem_nil, or_false] at hty
    rcases hty with h | h | h | h <;> rw [h] <;> simp [vp_cell, pav, defaultValue, mI_uZ, mL_uZ]
  have hP1 := p_push hP o1 (Nat.le_of_eq hz.symm) hcell
  have hl1 : (S ++ [Sum.inr (newarray.typeOf at_, N)]).length = S.length + 1 := by simp
  have hl2 : psl (S ++ [Sum.inr (newarray.typeOf at_, N)]) = psl S + N := by rw [psl_app]; simp [psl, psl1]
  have hk := k p l e s mi args below meth c H1 locs lsA hC hP1 (p_SA hS (by omega) (fun q hq => o1 q (by omega))) hl (by omega) (by omega)
  rw [hl1, hl2, Nat.sub_add_comm hn0, Nat.sub_add_comm hs] at hk
  exact hk
theorem g_newq {C : String} {n : Int32} {N : Nat} (hd : decode Y.2.1 pc = .ok (.anewarray idx, 3)) (hty : FieldType.object C ∈ ptyl) (hw : Cond.classLink Y.1.cls idx C ∈ pgl) (hov : ∀ s, pOv s → va_AO C s) (hn : ¬ n < 0) (hN : n.toNatClampNeg = N) (hb : N ≤ 60000) (hR : S.length - n0 + 1 ≤ R.cells ∧ psl S - s0 + N ≤ R.slots)
    (k : pGo X Y R n0 s0 Z (pc + 3) ls (.ref S.length :: st) (S ++ [.inr (.object C, N)]) (uZ m S.length)) : pGo X Y R n0 s0 Z pc ls (.int n :: st) S m := by
  intro p l e s mi args below meth c H locs lsA hC hP hS hl hn0 hs T0 hT Xs
  have hz := p_size Xs hT hP hS hC.2.2.2.2.2.2.2.2.2 hn0
  have ts := hC.2.2.2.2.2.2.2.1
  subst hN
  have hcls := (p_cls (X := X) hC.2.2.2.2.2.2.2.2.1.1 hty).2
  refine W.anew hC.1 hC.2.1 hC.2.2.2.2.2.2.1 (ts _ hw) (va_AO.use (hov s hC.2.2.2.2.2.2.2.2.1.2.2)) (g := F0 mi pc lsA (.int n :: st.map (ptr X))) rfl hd rfl hn (by omega) hR.1 hR.2 (fun cA kA comp f1 f2 f3 f4 => ?_) T0 hT Xs
  have hcA : cA = X.2.1 (.object C) := by
    obtain ⟨_, _, _, _, _, h4⟩ := hcls
    exact Option.some.inj (f1.symm.trans h4)
  generalize hH1 : H.push ({ cls := cA, slots := Array.replicate n.toNatClampNeg .null, vm := .none } : Cell) = H1
  have z1 : H1.size = H.size + 1 := by rw [← hH1, Array.size_push]
  have e1 : H1[H.size]? = some (arrV cA n.toNatClampNeg (fun _ => .null)) := by rw [← hH1, Array.getElem?_push_size, ← arrV_new]
  have o1 : ∀ q : Nat, q < H.size → H1[q]? = H[q]? := fun q hq => by rw [← hH1, Array.getElem?_push, if_neg (Nat.ne_of_lt hq)]
  have hcell : va_at X.1 vwCl (pB X + S.length, pcell X (uZ m S.length) S.length (.inr (.object C, n.toNatClampNeg))) H1 := by
    show H1[pB X + S.length]? = some (vp_cell _ _)
    rw [← hz, e1, hcA]
    simp [vp_cell, pav, mR_uZ, va_rf]
  have hP1 := p_push hP (fun q hq => o1 q (by omega)) (Nat.le_of_eq hz.symm) hcell
  have hl1 : (S ++ [Sum.inr (FieldType.object C, n.toNatClampNeg)]).length = S.length + 1 := by simp
  have hl2 : psl (S ++ [Sum.inr (FieldType.object C, n.toNatClampNeg)]) = psl S + n.toNatClampNeg := by rw [psl_app]; simp [psl, psl1]
  have hk := k p l e s mi args below meth c H1 locs lsA hC hP1 (p_SA hS (by omega) o1) hl (by omega) (by omega)
  rw [hl1, hl2, Nat.sub_add_comm hn0, Nat.sub_add_comm hs] at hk
  rw [hz]
  exact hk
theorem g_aast {a n v ci : Nat} {C : String} {T : u_T} {N : Nat} {i : Int32} {j : Nat} (hd : decode Y.2.1 pc = .ok (.aastore, 1)) (hc : S[a]? = some (.inr (.object C, n))) (hty : FieldType.object C ∈ ptyl) (hck : pCk ci C T N) (hv : S[v]? = some (.inl ci)) (hi : vp_in i n) (hj : i.toNatClampNeg = j) (kk : pGo X Y R n0 s0 Z (pc + 1) ls st S (uR m a j (some v))) : pGo X Y R n0 s0 Z pc ls (.ref v :: .int i :: .ref a :: st) S m := by
  subst hj
  intro p l e s mi args below meth c H locs lsA hC hP hS hl hn hs
  obtain ⟨t0, ht⟩ := ptys_at (X := X) hty
  refine va_astq (r := (C, T, N)) (f := fun j => (mR m a j).map (pB X + ·)) hC.1 hC.2.1 hC.2.2.2.2.2.2.2.2.1.1 hP (pws_D X S m) hS a t0 v ci (pws_get hc) ht (pws_get hv) hck.1 hi hd (fun H1 locs1 hP1 hD1 hS1 => ?_)
  rw [p_ast (m2 := uR m a i.toNatClampNeg (some v)) hc (by show Sum.inr _ = Sum.inr _; congr 4; funext j; simp only [mR_uR, va_up]; split <;> simp_all) (fun b sh hb => pcell_uR X m a _ _ b sh hb)] at hP1
  exact kk p l e s mi args below meth c H1 locs1 lsA hC hP1 hS1 hl hn hs
/-- a row of an array of int arrays -/
theorem g_aaldA {a n r : Nat} {i : Int32} {j : Nat} (hd : decode Y.2.1 pc = .ok (.aaload, 1)) (hc : S[a]? = some (.inr (.array .int, n))) (hi : vp_in i n) (hj : i.toNatClampNeg = j) (hr : mR m a j = some r) (kk : pGo X Y R n0 s0 Z (pc + 1) ls (.ref r :: st) S m) : pGo X Y R n0 s0 Z pc ls (.int i :: .ref a :: st) S m := by
  subst hj
  intro p l e s mi args below meth c H locs lsA hC hP hS hl hn hs
  have hlt : i.toNatClampNeg < n := Nat.not_le.mp fun q => hi (Or.inr q)
  have hcls := (p_cls (X := X) hC.2.2.2.2.2.2.2.2.1.1 (ty := .array .int) (by decide)).1
  have hcell : H[pB X + a]? = some (arrV (X.2.1 (.array .int)) n (fun j => va_rf ((mR m a j).map (pB X + ·)))) := hP a _ (pws_get hc)
  refine W.aald (v := ptr X (.ref r)) (ty := .array .int) hC.1 hC.2.1 hcell (hcls n _) rfl (fun q => by cases q) (by rw [arrV_size]; exact hi) (by rw [arrV_read _ _ hlt, hr]; rfl) (g := F0 mi pc lsA (.int i :: .ref (pB X + a) :: st.map (ptr X))) rfl rfl hd ?_
  exact kk p l e s mi args below meth c H locs lsA hC hP hS hl hn hs
end PN
