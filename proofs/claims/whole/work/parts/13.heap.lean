/-! ===== rules of the heap ===== -/
/-- a class of the world's: its words are the tables', its fields have the types that pty says, and unlike names -/
def pCk (ci : Nat) (C : String) (T : u_T) (N : Nat) : Prop := vwCl[ci]? = some (C, T, N) ∧ (∀ w ∈ u_ws C T N, w ∈ pgl) ∧ (∀ k, k < N → parseFieldDescriptor (T k).2.2.1 = some (pty ci k)) ∧ (∀ a, a < N → ∀ b, b < N → a ≠ b → (T a).2.1 ≠ (T b).2.1)
theorem u_ws_good (C : String) (T : u_T) (N : Nat) : ∀ w ∈ u_ws C T N, goodWord w = true := by
  intro w hw
  obtain ⟨k, -, rfl⟩ := List.mem_map.mp hw
  unfold u_lay
  split <;> rfl
theorem pCk0 : pCk 0 RX0 TX0 2 := ⟨rfl, fun w h => pgl_in (inX0 w h) (u_ws_good _ _ _ w h), tyX0_ok, nmX0⟩
theorem pCk1 : pCk 1 RX1 TX1 10 := ⟨rfl, fun w h => pgl_in (inX1 w h) (u_ws_good _ _ _ w h), tyX1_ok, nmX1⟩
theorem pCk2 : pCk 2 RX2 TX2 3 := ⟨rfl, fun w h => pgl_in (inX2 w h) (u_ws_good _ _ _ w h), tyX2_ok, nmX2⟩
theorem pCk3 : pCk 3 RX3 TX3 2 := ⟨rfl, fun w h => pgl_in (inX3 w h) (u_ws_good _ _ _ w h), tyX3_ok, nmX3⟩
theorem pCk4 : pCk 4 RX4 TX4 10 := ⟨rfl, fun w h => pgl_in (inX4 w h) (u_ws_good _ _ _ w h), tyX4_ok, nmX4⟩
theorem pCk5 : pCk 5 RX5 TX5 2 := ⟨rfl, fun w h => pgl_in (inX5 w h) (u_ws_good _ _ _ w h), tyX5_ok, nmX5⟩
theorem pCk6 : pCk 6 RX6 TX6 4 := ⟨rfl, fun w h => pgl_in (inX6 w h) (u_ws_good _ _ _ w h), tyX6_ok, nmX6⟩
theorem pCk7 : pCk 7 RX7 TX7 3 := ⟨rfl, fun w h => pgl_in (inX7 w h) (u_ws_good _ _ _ w h), tyX7_ok, nmX7⟩
theorem pCk8 : pCk 8 RX8 TX8 4 := ⟨rfl, fun w h => pgl_in (inX8 w h) (u_ws_good _ _ _ w h), tyX8_ok, nmX8⟩
theorem pCk9 : pCk 9 RX9 TX9 4 := ⟨rfl, fun w h => pgl_in (inX9 w h) (u_ws_good _ _ _ w h), tyX9_ok, nmX9⟩
theorem pCk10 : pCk 10 RX10 TX10 9 := ⟨rfl, fun w h => pgl_in (inX10 w h) (u_ws_good _ _ _ w h), tyX10_ok, nmX10⟩
theorem pCk11 : pCk 11 RX11 TX11 13 := ⟨rfl, fun w h => pgl_in (inX11 w h) (u_ws_good _ _ _ w h), tyX11_ok, nmX11⟩
theorem pCk12 : pCk 12 RX12 TX12 56 := ⟨rfl, fun w h => pgl_in (inX12 w h) (u_ws_good _ _ _ w h), tyX12_ok, nmX12⟩
/-- a field's link: by own's entry idx, field k of class ci, of type ty -/
def pFl (own : String) (idx ci k : Nat) (ty : FieldType) (fin : Bool) : Prop := ∃ (C : String) (T : u_T) (N : Nat), pCk ci C T N ∧ k < N ∧ Cond.fieldLink own idx (T k).1 (T k).2.1 (T k).2.2.1 ∈ pgl ∧ pty ci k = ty ∧ (T k).2.2.2 = fin
theorem pFl_of {own : String} {idx ci k : Nat} {ty : FieldType} {fin : Bool} {C : String} {T : u_T} {N : Nat} (h : pCk ci C T N) (hk : k < N) (hl : Cond.fieldLink own idx (T k).1 (T k).2.1 (T k).2.2.1 ∈ lw_tbl) (ht : pty ci k = ty) (hf : (T k).2.2.2 = fin) : pFl own idx ci k ty fin := ⟨C, T, N, h, hk, pgl_in hl rfl, ht, hf⟩
/-- a final field is written by its own class's maker -/
def pFo (Y : pM) (ci k : Nat) : Prop := Y.1.name = "<init>" ∧ ∀ (C : String) (T : u_T) (N : Nat), vwCl[ci]? = some (C, T, N) → (T k).1 = Y.1.cls
theorem pN_of {ci : Nat} {C : String} {T : u_T} {N : Nat} (h : pCk ci C T N) : pN ci = N := by
  unfold pN
  rw [h.1]
theorem p_fs {X : pX} {m : pMem} {a ci k : Nat} {C : String} {T : u_T} {N : Nat} (h : pCk ci C T N) (hk : k < N) : ((List.range (pN ci)).map (fun k => pfv X m a (pty ci k) k))[k]? = some (pfv X m a (pty ci k) k) := by
  rw [List.getElem?_map, List.getElem?_range (by rw [pN_of h]; exact hk)]
  rfl
theorem p_fset {X : pX} {m m' : pMem} {a ci k : Nat} {v : Value} (hk : k < pN ci) (hv : pfv X m' a (pty ci k) k = v) (ho : ∀ j, j ≠ k → pfv X m' a (pty ci j) j = pfv X m a (pty ci j) j) :
    ((List.range (pN ci)).map (fun k => pfv X m a (pty ci k) k)).set k v = (List.range (pN ci)).map (fun k => pfv X m' a (pty ci k) k) := by
  apply List.ext_getElem?
  intro j
  rw [List.getElem?_set, List.getElem?_map]
  by_cases hj : k = j
  · subst hj
    rw [if_pos rfl, if_pos (by simpa using hk), List.getElem?_map, List.getElem?_range hk, Option.map_some, hv]
  · rw [if_neg hj, List.getElem?_map]
    by_cases hl : j < pN ci
    · rw [List.getElem?_range hl, Option.map_some, Option.map_some, ho j (fun q => hj q.symm)]
    · rw [List.getElem?_eq_none (by simpa using hl)]
      rfl
section PH
variable {X : pX} {Y : pM} {R : Room} {n0 s0 : Nat} {Z : List Frame → Array Value → State → State → Prop} {pc : Nat} {ls : List (Nat × Value)} {st : List Value} {S : List pShp} {m : pMem}
theorem g_get {idx ci k a : Nat} {ty : FieldType} {fin : Bool} {v : Value} (hd : decode Y.2.1 pc = .ok (.getfield idx, 3)) (hf : pFl Y.1.cls idx ci k ty fin) (hc : S[a]? = some (.inl ci)) (hv : pfv X m a ty k = ptr X v) (kk : pGo X Y R n0 s0 Z (pc + 3) ls (v :: st) S m) : pGo X Y R n0 s0 Z pc ls (.ref a :: st) S m := by
  intro p l e s mi args below meth c H locs lsA hC hP hS hl hn hs
  obtain ⟨C, T, N, hck, hk, hlk, rfl, -⟩ := hf
  exact va_get (D := X.1) (ci := ci) (v := ptr X v) (C := C) (T := T) (N := N) hC.1 hC.2.1 hC.2.2.2.2.2.2.2.1 hck.2.1 hC.2.2.2.2.2.2.1 hC.2.2.2.2.2.2.2.2.1.1 hP a (pws_get hc) hck.1 k hk (hC.2.2.2.2.2.2.2.1 _ hlk) (fun _ h => h) ((p_fs hck hk).trans (by rw [hv])) hd (kk p l e s mi args below meth c H locs lsA hC hP hS hl hn hs)
theorem g_getI {idx ci k a : Nat} {fin : Bool} (hd : decode Y.2.1 pc = .ok (.getfield idx, 3)) (hf : pFl Y.1.cls idx ci k .int fin) (hc : S[a]? = some (.inl ci)) (kk : pGo X Y R n0 s0 Z (pc + 3) ls (.int (mI m a k) :: st) S m) : pGo X Y R n0 s0 Z pc ls (.ref a :: st) S m := g_get hd hf hc rfl kk
theorem g_getZ {idx ci k a : Nat} {fin : Bool} (hd : decode Y.2.1 pc = .ok (.getfield idx, 3)) (hf : pFl Y.1.cls idx ci k .boolean fin) (hc : S[a]? = some (.inl ci)) (kk : pGo X Y R n0 s0 Z (pc + 3) ls (.int (mI m a k) :: st) S m) : pGo X Y R n0 s0 Z pc ls (.ref a :: st) S m := g_get hd hf hc rfl kk
theorem g_getR {idx ci k a r : Nat} {ty : FieldType} {fin : Bool} (hd : decode Y.2.1 pc = .ok (.getfield idx, 3)) (hf : pFl Y.1.cls idx ci k ty fin) (ht : refKind ty = true) (hc : S[a]? = some (.inl ci)) (hr : mR m a k = some r) (kk : pGo X Y R n0 s0 Z (pc + 3) ls (.ref r :: st) S m) : pGo X Y R n0 s0 Z pc ls (.ref a :: st) S m := by
  refine g_get hd hf hc ?_ kk
  cases ty <;> first | (simp [refKind] at ht; done) | (simp only [pfv, hr]; rfl)
theorem g_put {idx ci k a : Nat} {ty : FieldType} {fin : Bool} {v : Value} {m2 : pMem} (hd : decode Y.2.1 pc = .ok (.putfield idx, 3)) (hf : pFl Y.1.cls idx ci k ty fin) (hi : fin = true → pFo Y ci k) (hc : S[a]? = some (.inl ci))
    (hn : narrow ty (ptr X v) = ptr X v) (hft : fits ty (ptr X v) = true) (hv : pfv X m2 a ty k = ptr X v) (ho : ∀ j, j ≠ k → pfv X m2 a (pty ci j) j = pfv X m a (pty ci j) j) (hoo : ∀ b sh, b ≠ a → pcell X m2 b sh = pcell X m b sh)
    (kk : pGo X Y R n0 s0 Z (pc + 3) ls st S m2) : pGo X Y R n0 s0 Z pc ls (v :: .ref a :: st) S m := by
  intro p l e s mi args below meth c H locs lsA hC hP hS hl hn0 hs
  obtain ⟨C, T, N, hck, hk, hlk, rfl, hfin⟩ := hf
  have hpd := hck.2.2.1 k hk
  have hlen : k < ((List.range (pN ci)).map (fun k => pfv X m a (pty ci k) k)).length := by simp [pN_of hck, hk]
  have e1 : (pws X S m).set a (pB X + a, .inr (ci, ((List.range (pN ci)).map (fun k => pfv X m a (pty ci k) k)).set k (ptr X v))) = pws X S m2 :=
    pws_set hc (by show Sum.inr _ = _; rw [p_fset (by rw [pN_of hck]; exact hk) hv ho]) hoo
  cases fin with
  | false =>
    refine va_put (D := X.1) (ci := ci) (v := ptr X v) (ty := pty ci k) (C := C) (T := T) (N := N) hC.1 hC.2.1 hC.2.2.2.2.2.2.2.1 hck.2.1 (pty ci) hck.2.2.1 hck.2.2.2 hC.2.2.2.2.2.2.1 hC.2.2.2.2.2.2.2.2.1.1 hP (pws_D X S m) hS a (pws_get hc) hck.1 k hk (hC.2.2.2.2.2.2.2.1 _ hlk) (fun _ h => h) hfin hpd hn hft hlen hd (fun H1 locs1 hP1 hD1 hS1 => ?_)
    rw [e1] at hP1
    exact kk p l e s mi args below meth c H1 locs1 lsA hC hP1 hS1 hl hn0 hs
  | true =>
    refine va_putF (D := X.1) (ci := ci) (v := ptr X v) (ty := pty ci k) (C := C) (T := T) (N := N) hC.1 hC.2.1 hC.2.2.2.2.2.2.2.1 hck.2.1 (pty ci) hck.2.2.1 hck.2.2.2 hC.2.2.2.2.2.2.1 hC.2.2.2.2.2.2.2.2.1.1 hP (pws_D X S m) hS a (pws_get hc) hck.1 k hk (hC.2.2.2.2.2.2.2.1 _ hlk) (fun _ h => h) hfin (hC.2.2.2.2.1 (hi rfl).1) ((hi rfl).2 C T N hck.1) hpd hn hft hlen hd (fun H1 locs1 hP1 hD1 hS1 => ?_)
    rw [e1] at hP1
    exact kk p l e s mi args below meth c H1 locs1 lsA hC hP1 hS1 hl hn0 hs
theorem pfv_uI (X : pX) (m : pMem) (a k : Nat) (v : Int32) (ty : FieldType) (j : Nat) (h : j ≠ k) : pfv X (uI m a k v) a ty j = pfv X m a ty j := by
  cases ty <;> simp [pfv, mI_uI, mL_uI, mR_uI, h]
theorem pfv_uR (X : pX) (m : pMem) (a k : Nat) (v : Option Nat) (ty : FieldType) (j : Nat) (h : j ≠ k) : pfv X (uR m a k v) a ty j = pfv X m a ty j := by
  cases ty <;> simp [pfv, mI_uR, mL_uR, mR_uR, h]
theorem pcell_uI (X : pX) (m : pMem) (a k : Nat) (v : Int32) (b : Nat) (sh : pShp) (h : b ≠ a) : pcell X (uI m a k v) b sh = pcell X m b sh :=
  pcell_ne (X := X) (m := m) (m' := uI m a k v) (a := b) (fun j => by simp [mI_uI, h]) (fun j => rfl) (fun j => rfl) sh
theorem pcell_uL (X : pX) (m : pMem) (a k : Nat) (v : Int64) (b : Nat) (sh : pShp) (h : b ≠ a) : pcell X (uL m a k v) b sh = pcell X m b sh :=
  pcell_ne (X := X) (m := m) (m' := uL m a k v) (a := b) (fun j => rfl) (fun j => by simp [mL_uL, h]) (fun j => rfl) sh
theorem pcell_uR (X : pX) (m : pMem) (a k : Nat) (v : Option Nat) (b : Nat) (sh : pShp) (h : b ≠ a) : pcell X (uR m a k v) b sh = pcell X m b sh :=
  pcell_ne (X := X) (m := m) (m' := uR m a k v) (a := b) (fun j => rfl) (fun j => rfl) (fun j => by simp [mR_uR, h]) sh
theorem pcell_uC (X : pX) (m : pMem) (a sp d dp n : Nat) (b : Nat) (sh : pShp) (h : b ≠ d) : pcell X (uC m a sp d dp n) b sh = pcell X m b sh :=
  pcell_ne (X := X) (m := m) (m' := uC m a sp d dp n) (a := b) (fun j => by simp [mI_uC, h]) (fun j => rfl) (fun j => rfl) sh
theorem g_putI {idx ci k a : Nat} {fin : Bool} {v : Int32} (hd : decode Y.2.1 pc = .ok (.putfield idx, 3)) (hf : pFl Y.1.cls idx ci k .int fin) (hi : fin = true → pFo Y ci k) (hc : S[a]? = some (.inl ci)) (kk : pGo X Y R n0 s0 Z (pc + 3) ls st S (uI m a k v)) : pGo X Y R n0 s0 Z pc ls (.int v :: .ref a :: st) S m :=
  g_put hd hf hi hc rfl rfl (by simp [pfv, mI_uI, ptr]) (fun j hj => pfv_uI X m a k v _ j hj) (fun b sh hb => pcell_uI X m a k v b sh hb) kk
theorem g_putZ {idx ci k a : Nat} {fin : Bool} {v : Int32} (hd : decode Y.2.1 pc = .ok (.putfield idx, 3)) (hf : pFl Y.1.cls idx ci k .boolean fin) (hi : fin = true → pFo Y ci k) (hc : S[a]? = some (.inl ci)) (hv : v = 0 ∨ v = 1) (kk : pGo X Y R n0 s0 Z (pc + 3) ls st S (uI m a k v)) : pGo X Y R n0 s0 Z pc ls (.int v :: .ref a :: st) S m :=
  g_put hd hf hi hc (by rcases hv with rfl | rfl <;> rfl) (by rcases hv with rfl | rfl <;> rfl) (by simp [pfv, mI_uI, ptr]) (fun j hj => pfv_uI X m a k v _ j hj) (fun b sh hb => pcell_uI X m a k v b sh hb) kk
theorem g_putR {idx ci k a r : Nat} {ty : FieldType} {fin : Bool} (hd : decode Y.2.1 pc = .ok (.putfield idx, 3)) (hf : pFl Y.1.cls idx ci k ty fin) (ht : refKind ty = true) (hi : fin = true → pFo Y ci k) (hc : S[a]? = some (.inl ci)) (kk : pGo X Y R n0 s0 Z (pc + 3) ls st S (uR m a k (some r))) : pGo X Y R n0 s0 Z pc ls (.ref r :: .ref a :: st) S m := by
  refine g_put hd hf hi hc ?_ ?_ ?_ (fun j hj => pfv_uR X m a k (some r) _ j hj) (fun b sh hb => pcell_uR X m a k (some r) b sh hb) kk
  · cases ty <;> first | (simp [refKind] at ht; done) | rfl
  · cases ty <;> first | (simp [refKind] at ht; done) | rfl
  · cases ty <;> first | (simp [refKind] at ht; done) | (simp [pfv, mR_uR, ptr, va_rf])
/-- arrays: reading -/
theorem g_iald {a n : Nat} {i : Int32} {j : Nat} (hd : decode Y.2.1 pc = .ok (.iaload, 1)) (hc : S[a]? = some (.inr (.int, n))) (hi : vp_in i n) (hj : i.toNatClampNeg = j) (kk : pGo X Y R n0 s0 Z (pc + 1) ls (.int (mI m a j) :: st) S m) : pGo X Y R n0 s0 Z pc ls (.int i :: .ref a :: st) S m := by
  subst hj
  intro p l e s mi args below meth c H locs lsA hC hP hS hl hn hs
  obtain ⟨t0, ht⟩ := ptys_at (X := X) (ty := .int) (by decide)
  exact va_iald hC.1 hC.2.1 hC.2.2.2.2.2.2.2.2.1.1 hP a t0 (pws_get hc) ht hi hd (kk p l e s mi args below meth c H locs lsA hC hP hS hl hn hs)
theorem g_bald {a n : Nat} {i : Int32} {j : Nat} (hd : decode Y.2.1 pc = .ok (.baload, 1)) (hc : S[a]? = some (.inr (.byte, n))) (hi : vp_in i n) (hj : i.toNatClampNeg = j) (kk : pGo X Y R n0 s0 Z (pc + 1) ls (.int (mI m a j) :: st) S m) : pGo X Y R n0 s0 Z pc ls (.int i :: .ref a :: st) S m := by
  subst hj
  intro p l e s mi args below meth c H locs lsA hC hP hS hl hn hs
  obtain ⟨t0, ht⟩ := ptys_at (X := X) (ty := .byte) (by decide)
  exact va_bald hC.1 hC.2.1 hC.2.2.2.2.2.2.2.2.1.1 hP a t0 (pws_get hc) ht hi hd (kk p l e s mi args below meth c H locs lsA hC hP hS hl hn hs)
theorem g_zald {a n : Nat} {i : Int32} {j : Nat} (hd : decode Y.2.1 pc = .ok (.baload, 1)) (hc : S[a]? = some (.inr (.boolean, n))) (hi : vp_in i n) (hj : i.toNatClampNeg = j) (kk : pGo X Y R n0 s0 Z (pc + 1) ls (.int (mI m a j) :: st) S m) : pGo X Y R n0 s0 Z pc ls (.int i :: .ref a :: st) S m := by
  subst hj
  intro p l e s mi args below meth c H locs lsA hC hP hS hl hn hs
  obtain ⟨t0, ht⟩ := ptys_at (X := X) (ty := .boolean) (by decide)
  exact va_zald hC.1 hC.2.1 hC.2.2.2.2.2.2.2.2.1.1 hP a t0 (pws_get hc) ht hi hd (kk p l e s mi args below meth c H locs lsA hC hP hS hl hn hs)
theorem g_lald {a n : Nat} {i : Int32} {j : Nat} (hd : decode Y.2.1 pc = .ok (.laload, 1)) (hc : S[a]? = some (.inr (.long, n))) (hi : vp_in i n) (hj : i.toNatClampNeg = j) (kk : pGo X Y R n0 s0 Z (pc + 1) ls (.long (mL m a j) :: st) S m) : pGo X Y R n0 s0 Z pc ls (.int i :: .ref a :: st) S m := by
  subst hj
  intro p l e s mi args below meth c H locs lsA hC hP hS hl hn hs
  obtain ⟨t0, ht⟩ := ptys_at (X := X) (ty := .long) (by decide)
  exact va_lald hC.1 hC.2.1 hC.2.2.2.2.2.2.2.2.1.1 hP a t0 (pws_get hc) ht hi hd (kk p l e s mi args below meth c H locs lsA hC hP hS hl hn hs)
theorem g_aald {a n r : Nat} {C : String} {i : Int32} {j : Nat} (hd : decode Y.2.1 pc = .ok (.aaload, 1)) (hc : S[a]? = some (.inr (.object C, n))) (hC2 : FieldType.object C ∈ ptyl) (hi : vp_in i n) (hj : i.toNatClampNeg = j) (hr : mR m a j = some r) (kk : pGo X Y R n0 s0 Z (pc + 1) ls (.ref r :: st) S m) : pGo X Y R n0 s0 Z pc ls (.int i :: .ref a :: st) S m := by
  subst hj
  intro p l e s mi args below meth c H locs lsA hC hP hS hl hn hs
  obtain ⟨t0, ht⟩ := ptys_at (X := X) hC2
  have e1 : va_rf ((fun j => (mR m a j).map (pB X + ·)) i.toNatClampNeg) = ptr X (.ref r) := by simp [hr, va_rf, ptr]
  refine va_aldq (f := fun j => (mR m a j).map (pB X + ·)) hC.1 hC.2.1 hC.2.2.2.2.2.2.2.2.1.1 hP a t0 (pws_get hc) ht hi hd ?_
  rw [e1]
  exact kk p l e s mi args below meth c H locs lsA hC hP hS hl hn hs
/-- an array of int arrays is read as one of references -/
theorem g_alen {a n : Nat} {ty : FieldType} {v : Int32} (hd : decode Y.2.1 pc = .ok (.arraylength, 1)) (hc : S[a]? = some (.inr (ty, n))) (hty : ty ∈ ptyl) (hv : Int32.ofNat n = v) (kk : pGo X Y R n0 s0 Z (pc + 1) ls (.int v :: st) S m) : pGo X Y R n0 s0 Z pc ls (.ref a :: st) S m := by
  intro p l e s mi args below meth c H locs lsA hC hP hS hl hn hs
  obtain ⟨t0, ht⟩ := ptys_at (X := X) hty
  exact va_alen hC.1 hC.2.1 hC.2.2.2.2.2.2.2.2.1.1 hP a t0 (pws_get hc) ht hv hd (kk p l e s mi args below meth c H locs lsA hC hP hS hl hn hs)
/-- the script -/
theorem g_sld {i : Int32} (hd : decode Y.2.1 pc = .ok (.iaload, 1)) (hi : vp_in i (pLn X)) (kk : pGo X Y R n0 s0 Z (pc + 1) ls (.int (pSc X i.toNatClampNeg) :: st) S m) : pGo X Y R n0 s0 Z pc ls (.int i :: .retAddr 0 :: st) S m := by
  intro p l e s mi args below meth c H locs lsA hC hP hS hl hn hs
  have ho := hC.2.2.2.2.2.2.2.2.1.2.1.1
  have hz := hC.2.2.2.2.2.2.2.2.2
  exact va_sld (A := pA X) (H0 := s.heap) hC.1 hC.2.1 ho.2 (by rw [hz]; exact Nat.lt_of_lt_of_le ho.1 (Nat.le_add_right _ _)) (Nat.not_le.mpr ho.1) hS hi hd (kk p l e s mi args below meth c H locs lsA hC hP hS hl hn hs)
theorem g_slen (hd : decode Y.2.1 pc = .ok (.arraylength, 1)) (kk : pGo X Y R n0 s0 Z (pc + 1) ls (.int (Int32.ofNat (pLn X)) :: st) S m) : pGo X Y R n0 s0 Z pc ls (.retAddr 0 :: st) S m := by
  intro p l e s mi args below meth c H locs lsA hC hP hS hl hn hs
  have ho := hC.2.2.2.2.2.2.2.2.1.2.1.1
  have hz := hC.2.2.2.2.2.2.2.2.2
  exact va_slen (A := pA X) (H0 := s.heap) hC.1 hC.2.1 ho.2 (by rw [hz]; exact Nat.lt_of_lt_of_le ho.1 (Nat.le_add_right _ _)) (Nat.not_le.mpr ho.1) hS hd (kk p l e s mi args below meth c H locs lsA hC hP hS hl hn hs)
/-- arrays: writing -/
theorem p_ast {a n : Nat} {ty : FieldType} {m2 : pMem} {y : (Nat → Int32) ⊕ (Nat → Int64) ⊕ (Nat → UInt32) ⊕ (Nat → UInt64) ⊕ (Nat → Option Nat)} (hc : S[a]? = some (.inr (ty, n))) (hv : pav X m2 a ty = y) (hoo : ∀ b sh, b ≠ a → pcell X m2 b sh = pcell X m b sh) :
    (pws X S m).set a (pB X + a, .inl (X.2.1 ty, n, y)) = pws X S m2 := pws_set hc (by show Sum.inl _ = _; rw [hv]) hoo
theorem g_iast {a n : Nat} {i v : Int32} {j : Nat} (hd : decode Y.2.1 pc = .ok (.iastore, 1)) (hc : S[a]? = some (.inr (.int, n))) (hi : vp_in i n) (hj : i.toNatClampNeg = j) (kk : pGo X Y R n0 s0 Z (pc + 1) ls st S (uI m a j v)) : pGo X Y R n0 s0 Z pc ls (.int v :: .int i :: .ref a :: st) S m := by
  subst hj
  intro p l e s mi args below meth c H locs lsA hC hP hS hl hn hs
  obtain ⟨t0, ht⟩ := ptys_at (X := X) (ty := .int) (by decide)
  refine va_iast hC.1 hC.2.1 hC.2.2.2.2.2.2.2.2.1.1 hP (pws_D X S m) hS a t0 (pws_get hc) ht hi hd (fun H1 locs1 hP1 hD1 hS1 => ?_)
  rw [p_ast (m2 := uI m a i.toNatClampNeg v) hc (by show Sum.inl _ = Sum.inl _; congr 1; funext j; simp [mI_uI, upd]) (fun b sh hb => pcell_uI X m a _ v b sh hb)] at hP1
  exact kk p l e s mi args below meth c H1 locs1 lsA hC hP1 hS1 hl hn hs
theorem g_bast {a n : Nat} {i v : Int32} {j : Nat} (hd : decode Y.2.1 pc = .ok (.bastore, 1)) (hc : S[a]? = some (.inr (.byte, n))) (hi : vp_in i n) (hj : i.toNatClampNeg = j) (kk : pGo X Y R n0 s0 Z (pc + 1) ls st S (uI m a j v.toInt8.toInt32)) : pGo X Y R n0 s0 Z pc ls (.int v :: .int i :: .ref a :: st) S m := by
  subst hj
  intro p l e s mi args below meth c H locs lsA hC hP hS hl hn hs
  obtain ⟨t0, ht⟩ := ptys_at (X := X) (ty := .byte) (by decide)
  refine va_bast hC.1 hC.2.1 hC.2.2.2.2.2.2.2.2.1.1 hP (pws_D X S m) hS a t0 (pws_get hc) ht hi hd (fun H1 locs1 hP1 hD1 hS1 => ?_)
  rw [p_ast (m2 := uI m a i.toNatClampNeg v.toInt8.toInt32) hc (by show Sum.inl _ = Sum.inl _; congr 1; funext j; simp [mI_uI, upd, vp_nar_byte]) (fun b sh hb => pcell_uI X m a _ _ b sh hb)] at hP1
  exact kk p l e s mi args below meth c H1 locs1 lsA hC hP1 hS1 hl hn hs
theorem g_zast {a n : Nat} {i v : Int32} {j : Nat} (hd : decode Y.2.1 pc = .ok (.bastore, 1)) (hc : S[a]? = some (.inr (.boolean, n))) (hi : vp_in i n) (hj : i.toNatClampNeg = j) (hv : v = 0 ∨ v = 1) (kk : pGo X Y R n0 s0 Z (pc + 1) ls st S (uI m a j v)) : pGo X Y R n0 s0 Z pc ls (.int v :: .int i :: .ref a :: st) S m := by
  subst hj
  intro p l e s mi args below meth c H locs lsA hC hP hS hl hn hs
  obtain ⟨t0, ht⟩ := ptys_at (X := X) (ty := .boolean) (by decide)
  have e0 : vp_nar .boolean v = v := by rcases hv with rfl | rfl <;> rfl
  refine va_zast hC.1 hC.2.1 hC.2.2.2.2.2.2.2.2.1.1 hP (pws_D X S m) hS a t0 (pws_get hc) ht hi hd (fun H1 locs1 hP1 hD1 hS1 => ?_)
  rw [p_ast (m2 := uI m a i.toNatClampNeg v) hc (by show Sum.inl _ = Sum.inl _; congr 1; funext j; simp [mI_uI, upd, e0]) (fun b sh hb => pcell_uI X m a _ _ b sh hb)] at hP1
  exact kk p l e s mi args below meth c H1 locs1 lsA hC hP1 hS1 hl hn hs
theorem g_last {a n : Nat} {i : Int32} {j : Nat} {v : Int64} (hd : decode Y.2.1 pc = .ok (.lastore, 1)) (hc : S[a]? = some (.inr (.long, n))) (hi : vp_in i n) (hj : i.toNatClampNeg = j) (kk : pGo X Y R n0 s0 Z (pc + 1) ls st S (uL m a j v)) : pGo X Y R n0 s0 Z pc ls (.long v :: .int i :: .ref a :: st) S m := by
  subst hj
  intro p l e s mi args below meth c H locs lsA hC hP hS hl hn hs
  obtain ⟨t0, ht⟩ := ptys_at (X := X) (ty := .long) (by decide)
  refine va_last hC.1 hC.2.1 hC.2.2.2.2.2.2.2.2.1.1 hP (pws_D X S m) hS a t0 (pws_get hc) ht hi hd (fun H1 locs1 hP1 hD1 hS1 => ?_)
  rw [p_ast (m2 := uL m a i.toNatClampNeg v) hc (by show Sum.inr (Sum.inl _) = Sum.inr (Sum.inl _); congr 2; funext j; simp [mL_uL, vp_updL]) (fun b sh hb => pcell_uL X m a _ v b sh hb)] at hP1
  exact kk p l e s mi args below meth c H1 locs1 lsA hC hP1 hS1 hl hn hs
end PH
